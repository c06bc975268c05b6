section
/-! THE MINI WORLD: cells by place; the values of all cells in one store; rows of the kit said of it. -/
abbrev mw_V : Type := Int32 ⊕ (Int64 ⊕ Nat)
abbrev mw_S : Type := (Nat → Nat → Int32) × (Nat → Nat → Int64)
/-- a cell's shape: an array (its type's number, its length; 0: ints, 1: longs, or the places that it names) or an object (its class's number; its fields: 0: an int, 1: a long, or a place) -/
abbrev mw_H : Type := (Nat × Nat × (Nat ⊕ List Nat)) ⊕ (Nat × List (Nat ⊕ Nat))
def mw_tv (ad : Nat → Nat) : mw_V → Value
  | .inl x => .int x
  | .inr (.inl y) => .long y
  | .inr (.inr k) => .ref (ad k)
def mw_f1 (ad : Nat → Nat) (S : mw_S) (k j : Nat) : Nat ⊕ Nat → Value
  | .inl 0 => .int (S.1 k j)
  | .inl (_ + 1) => .long (S.2 k j)
  | .inr r => .ref (ad r)
def mw_fv (ad : Nat → Nat) (S : mw_S) (k : Nat) (fk : List (Nat ⊕ Nat)) : List Value := fk.zipIdx.map (fun q => mw_f1 ad S k q.2 q.1)
def mw_e (cA : Nat → ClassId) (ad : Nat → Nat) (S : mw_S) (k : Nat) : mw_H → va_E
  | .inl (t, n, .inl 0) => .inl (cA t, n, .inl (S.1 k))
  | .inl (t, n, .inl (_ + 1)) => .inl (cA t, n, .inr (.inl (S.2 k)))
  | .inl (t, n, .inr f) => .inl (cA t, n, .inr (.inr (.inr (.inr (fun j => some (ad (f.getD j 0)))))))
  | .inr (ci, fk) => .inr (ci, mw_fv ad S k fk)
def mw_W (cA : Nat → ClassId) (ad : Nat → Nat) (sh : Nat → mw_H) (n : Nat) (S : mw_S) : va_W := (List.range n).map (fun k => (ad k, mw_e cA ad S k (sh k)))
def mw_T (cA : Nat → ClassId) : List (ClassId × FieldType) := [(cA 0, .int), (cA 1, .long), (cA 2, .boolean), (cA 3, .object "WaveLedger$Node")]
section MWP
variable {cA : Nat → ClassId} {ad : Nat → Nat} {sh : Nat → mw_H} {n : Nat} {S S' : mw_S} {A : Nat → Prop}
theorem mw_W_get {k : Nat} (hk : k < n) : (mw_W cA ad sh n S)[k]? = some (ad k, mw_e cA ad S k (sh k)) := by
  unfold mw_W
  rw [List.getElem?_map, List.getElem?_range hk]
  rfl
theorem mw_W_len : (mw_W cA ad sh n S).length = n := by simp [mw_W]
theorem mw_W_some {i : Nat} {q : Nat × va_E} (h : (mw_W cA ad sh n S)[i]? = some q) : i < n ∧ q = (ad i, mw_e cA ad S i (sh i)) := by
  have hi : i < n := by
    have := (List.getElem?_eq_some_iff.mp h).1
    rwa [mw_W_len] at this
  refine ⟨hi, ?_⟩
  rw [mw_W_get hi] at h
  exact (Option.some.inj h).symm
theorem mw_f1_congr {k : Nat} (h1 : S'.1 k = S.1 k) (h2 : S'.2 k = S.2 k) (j : Nat) (x : Nat ⊕ Nat) : mw_f1 ad S' k j x = mw_f1 ad S k j x := by
  match x with
  | .inl 0 => simp only [mw_f1, h1]
  | .inl (_ + 1) => simp only [mw_f1, h2]
  | .inr _ => rfl
theorem mw_e_congr {k : Nat} (h1 : S'.1 k = S.1 k) (h2 : S'.2 k = S.2 k) (h : mw_H) : mw_e cA ad S' k h = mw_e cA ad S k h := by
  match h with
  | .inl (t, n, .inl 0) => simp only [mw_e, h1]
  | .inl (t, n, .inl (_ + 1)) => simp only [mw_e, h2]
  | .inl (t, n, .inr f) => rfl
  | .inr (ci, fk) =>
    have e : mw_fv ad S' k fk = mw_fv ad S k fk := by
      unfold mw_fv
      exact List.map_congr_left (fun q _ => mw_f1_congr h1 h2 q.2 q.1)
    simp only [mw_e, e]
theorem mw_D (hi : ∀ i j, i < n → j < n → ad i = ad j → i = j) (hA : ∀ k, k < n → A (ad k)) : va_D A (mw_W cA ad sh n S) :=
  ⟨fun i j p q hp hq e => by
    obtain ⟨h1, rfl⟩ := mw_W_some hp
    obtain ⟨h2, rfl⟩ := mw_W_some hq
    exact hi i j h1 h2 e, fun k q hk => by
    obtain ⟨h1, rfl⟩ := mw_W_some hk
    exact hA k h1⟩
theorem mw_W_set {k : Nat} (hk : k < n) (h1 : ∀ i, i ≠ k → S'.1 i = S.1 i) (h2 : ∀ i, i ≠ k → S'.2 i = S.2 i) {x : va_E} (hx : mw_e cA ad S' k (sh k) = x) : (mw_W cA ad sh n S).set k (ad k, x) = mw_W cA ad sh n S' := by
  subst hx
  apply List.ext_getElem?
  intro i
  by_cases hi : i < n
  · by_cases e : i = k
    · subst e
      rw [List.getElem?_set_self (by rw [mw_W_len]; exact hi), mw_W_get hi]
    · rw [List.getElem?_set_ne (Ne.symm e), mw_W_get hi, mw_W_get hi, mw_e_congr (h1 i e) (h2 i e)]
  · rw [List.getElem?_eq_none (by rw [List.length_set, mw_W_len]; omega), List.getElem?_eq_none (by rw [mw_W_len]; omega)]
end MWP
/-- a cell's ints, its longs, as a whole; one of them -/
def mw_rI (S : mw_S) (k : Nat) (f : Nat → Int32) : mw_S := (fun i => if i = k then f else S.1 i, S.2)
def mw_rL (S : mw_S) (k : Nat) (f : Nat → Int64) : mw_S := (S.1, fun i => if i = k then f else S.2 i)
def mw_uI (S : mw_S) (k j : Nat) (x : Int32) : mw_S := mw_rI S k (upd (S.1 k) j x)
def mw_uL (S : mw_S) (k j : Nat) (x : Int64) : mw_S := mw_rL S k (vp_updL (S.2 k) j x)
theorem mw_rI_s (S : mw_S) (k : Nat) (f : Nat → Int32) : (mw_rI S k f).1 k = f := by simp [mw_rI]
theorem mw_rI_n (S : mw_S) {k i : Nat} (f : Nat → Int32) (h : i ≠ k) : (mw_rI S k f).1 i = S.1 i := by simp [mw_rI, h]
theorem mw_rI_2 (S : mw_S) (k : Nat) (f : Nat → Int32) : (mw_rI S k f).2 = S.2 := rfl
theorem mw_rL_s (S : mw_S) (k : Nat) (f : Nat → Int64) : (mw_rL S k f).2 k = f := by simp [mw_rL]
theorem mw_rL_n (S : mw_S) {k i : Nat} (f : Nat → Int64) (h : i ≠ k) : (mw_rL S k f).2 i = S.2 i := by simp [mw_rL, h]
theorem mw_rL_1 (S : mw_S) (k : Nat) (f : Nat → Int64) : (mw_rL S k f).1 = S.1 := rfl
-- locals
def mw_lk : List (Nat × mw_V) → Nat → Option mw_V
  | [], _ => none
  | q :: l, i => cond (Nat.beq q.1 i) (some q.2) (mw_lk l i)
theorem mw_lk_mem {i : Nat} {v : mw_V} : ∀ {l : List (Nat × mw_V)}, mw_lk l i = some v → (i, v) ∈ l
  | [], h => by cases h
  | q :: l, h => by
    unfold mw_lk at h
    cases hb : Nat.beq q.1 i with
    | true =>
      rw [hb] at h
      have e : q.1 = i := Nat.eq_of_beq_eq_true hb
      have e2 : q.2 = v := Option.some.inj h
      have : q = (i, v) := by rw [← e, ← e2]
      rw [this]
      exact List.mem_cons_self
    | false =>
      rw [hb] at h
      exact List.mem_cons_of_mem _ (mw_lk_mem h)
def mw_is2 : mw_V → Bool
  | .inr (.inl _) => true
  | _ => false
theorem mw_cat (ad : Nat → Nat) (v : mw_V) : ((mw_tv ad v).category == 2) = mw_is2 v := by
  match v with
  | .inl _ => rfl
  | .inr (.inl _) => rfl
  | .inr (.inr _) => rfl
theorem mw_cat1 {ad : Nat → Nat} {v : mw_V} (h : mw_is2 v = false) : (mw_tv ad v).category = 1 := by
  match v, h with
  | .inl _, _ => rfl
  | .inr (.inr _), _ => rfl
theorem mw_cat2 {ad : Nat → Nat} {v : mw_V} (h : mw_is2 v = true) : (mw_tv ad v).category = 2 := by
  match v, h with
  | .inr (.inl _), _ => rfl
abbrev mw_lm (ad : Nat → Nat) (lv : List (Nat × mw_V)) : List (Nat × Value) := lv.map (fun q => (q.1, mw_tv ad q.2))
theorem mw_ls {ad : Nat → Nat} {ls : Array Slot} {nL i : Nat} {lv : List (Nat × mw_V)} {v : mw_V} (hl : lv_has ls nL (mw_lm ad lv)) (h : mw_lk lv i = some v) : ls[i]? = some (.val (mw_tv ad v)) :=
  hl.2.2 (i, mw_tv ad v) (List.mem_map.mpr ⟨(i, v), mw_lk_mem h, rfl⟩)
def mw_s1 (lv : List (Nat × mw_V)) (i : Nat) (v : mw_V) : List (Nat × mw_V) := (i, v) :: lv.filter (fun q => !(q.1 == i) && !(q.1 + 1 == i && mw_is2 q.2))
def mw_s2 (lv : List (Nat × mw_V)) (i : Nat) (v : mw_V) : List (Nat × mw_V) := (i, v) :: lv.filter (fun q => !(q.1 == i) && (!(q.1 == i + 1) && !(q.1 + 1 == i && mw_is2 q.2)))
theorem mw_s1_map (ad : Nat → Nat) (lv : List (Nat × mw_V)) (i : Nat) (v : mw_V) : (i, mw_tv ad v) :: (mw_lm ad lv).filter (fun q => !(q.1 == i) && !(q.1 + 1 == i && q.2.category == 2)) = mw_lm ad (mw_s1 lv i v) := by
  simp only [mw_s1, mw_lm, List.map_cons, List.filter_map]
  congr 2
  exact List.filter_congr (fun q _ => by simp only [Function.comp, mw_cat])
theorem mw_s2_map (ad : Nat → Nat) (lv : List (Nat × mw_V)) (i : Nat) (v : mw_V) : (i, mw_tv ad v) :: (mw_lm ad lv).filter (fun q => !(q.1 == i) && (!(q.1 == i + 1) && !(q.1 + 1 == i && q.2.category == 2))) = mw_lm ad (mw_s2 lv i v) := by
  simp only [mw_s2, mw_lm, List.map_cons, List.filter_map]
  congr 2
  exact List.filter_congr (fun q _ => by simp only [Function.comp, mw_cat])
/-- fewer locals, in any order -/
def mw_sub (lv : List (Nat × mw_V)) : List (Nat × mw_V) → Prop
  | [] => True
  | q :: l => mw_lk lv q.1 = some q.2 ∧ mw_sub lv l
theorem mw_sub_in {lv : List (Nat × mw_V)} : ∀ {l : List (Nat × mw_V)}, mw_sub lv l → ∀ q ∈ l, q ∈ lv
  | [], _, q, h => by cases h
  | a :: l, h, q, hq => by
    rcases List.mem_cons.mp hq with rfl | hq
    · exact mw_lk_mem h.1
    · exact mw_sub_in h.2 q hq
theorem mw_sub_has {ad : Nat → Nat} {ls : Array Slot} {nL : Nat} {lv lv' : List (Nat × mw_V)} (hl : lv_has ls nL (mw_lm ad lv)) (h : mw_sub lv lv') : lv_has ls nL (mw_lm ad lv') :=
  ⟨hl.1, hl.2.1, fun q hq => by
    obtain ⟨a, ha, rfl⟩ := List.mem_map.mp hq
    exact hl.2.2 _ (List.mem_map.mpr ⟨a, mw_sub_in h a ha, rfl⟩)⟩
def mw_args : Nat → List mw_V → List (Nat × mw_V)
  | _, [] => []
  | i, v :: vs => (i, v) :: mw_args (cond (mw_is2 v) (i + 2) (i + 1)) vs
theorem mw_args_map (ad : Nat → Nat) : ∀ (vs : List mw_V) (i : Nat), lv_args i (vs.map (mw_tv ad)) = mw_lm ad (mw_args i vs)
  | [], _ => rfl
  | v :: vs, i => by
    have e : (if (mw_tv ad v).category = 2 then i + 2 else i + 1) = cond (mw_is2 v) (i + 2) (i + 1) := by
      cases h : mw_is2 v with
      | true => rw [if_pos (mw_cat2 h)]; rfl
      | false => rw [if_neg (by rw [mw_cat1 h]; decide)]; rfl
    simp only [List.map_cons, lv_args, mw_args, e, mw_args_map ad vs]
def mw_words : List mw_V → Nat
  | [] => 0
  | v :: vs => cond (mw_is2 v) 2 1 + mw_words vs
theorem mw_words_len (ad : Nat → Nat) : ∀ vs : List mw_V, (lg_sl (vs.map (mw_tv ad))).length = mw_words vs
  | [] => rfl
  | v :: vs => by
    have ih := mw_words_len ad vs
    unfold lg_sl at ih ⊢
    simp only [List.map_cons, List.flatMap_cons, List.length_append, ih, mw_words]
    cases h : mw_is2 v with
    | true => rw [if_pos (mw_cat2 h)]; rfl
    | false => rw [if_neg (by rw [mw_cat1 h]; decide)]; rfl
-- the words: all that the tables say and that stay; the nest mates' links
def mw_nk : Cond → Bool
  | .fieldLinkNest .. => true
  | .methodLinkNest .. => true
  | .declares .. => true
  | .castable .. => true
  | _ => false
theorem mw_nk_tabs {w : Cond} (h : mw_nk w = true) : w.onTables = true := by
  cases w <;> first | rfl | (exfalso; simp [mw_nk] at h; done)
theorem mw_nk_warm {w : Cond} (h : mw_nk w = true) {s U : State} (hW : s.WarmedH U.vm) (hZ : va_Nw w s) : va_Nw w U := by
  cases w <;> first | exact va_Nw.warmF hW hZ | exact va_Nw.warmM hW hZ | (exfalso; simp [mw_nk] at h; done) | exact va_Nw.warmD hW hZ | exact va_tabs rfl (rfl : (s.setVm U.vm).vm = U.vm) (Cond.before_shiftedFace (args := #[]) (State.Shifted.of_warmed hW) _ rfl hZ)
def mw_G (tb : List Cond) : List Cond := tb.filter goodWord
def mw_N (tb : List Cond) : List Cond := tb.filter mw_nk
theorem mw_G_in {tb : List Cond} {w : Cond} (i : Nat) (h : tb[i]? = some w) (hg : goodWord w = true) : w ∈ mw_G tb := List.mem_filter.mpr ⟨List.mem_of_getElem? h, hg⟩
theorem mw_N_in {tb : List Cond} {w : Cond} (i : Nat) (h : tb[i]? = some w) (hg : mw_nk w = true) : w ∈ mw_N tb := List.mem_filter.mpr ⟨List.mem_of_getElem? h, hg⟩
theorem mw_good {tb : List Cond} {a b : Cond} (hb : b ∈ mw_G tb) : GoodIn (a :: mw_G tb) (b :: mw_G tb) := by
  intro w hw
  have h : w ∈ mw_G tb := by
    rcases List.mem_cons.mp hw with rfl | h
    · exact hb
    · exact h
  exact ⟨List.mem_cons_of_mem _ h, good_of_word (List.mem_filter.mp h).2⟩
/-- what a body's walk stands on, once and for all -/
def mw_C (p : Program) (m : MethodId) (c : Code) (s : State) (args : Array Value) (cc : ByteArray) (nL : Nat) (own : String) (b0 : Cond) (tb : List Cond) (D : va_G) (cl : List vw_C) (cA : Nat → ClassId) (A : Nat → Prop) (ad : Nat → Nat) (n : Nat) (w : Bool) : Prop :=
  CallFix p m c cc nL s args (b0 :: mw_G tb) own ∧ (∀ w ∈ mw_N tb, va_Nw w s) ∧ va_K D cl (mw_T cA) s ∧ (∀ q, s.heap.size ≤ q → A q) ∧ (∀ i j, i < n → j < n → ad i = ad j → i = j) ∧ (w = true → ∀ k, k < n → A (ad k))
/-- the judgement W, said of a store -/
def mw (p : Program) (l : Launch) (e : Env) (R : Room) (s : State) (m : MethodId) (args : Array Value) (below : List Frame) (meth : Method) (c : Code) (Q : State → Prop) (cells slots : Nat) (D : va_G) (cl : List vw_C) (cA : Nat → ClassId) (A : Nat → Prop) (ad : Nat → Nat) (sh : Nat → mw_H) (n nL pc : Nat) (lv : List (Nat × mw_V)) (st : List mw_V) (S : mw_S) : Prop :=
  ∀ (H : Heap) (locs : List Loc) (ls : Array Slot), va_P D cl (mw_W cA ad sh n S) H → va_S A s.heap H locs → lv_has ls nL (mw_lm ad lv) → W p l e R s m args below meth c H locs cells slots Q (F0 m pc ls (st.map (mw_tv ad)))
section MWR
variable {p : Program} {l : Launch} {e : Env} {R : Room} {s : State} {m : MethodId} {args : Array Value} {below : List Frame} {meth : Method} {c : Code} {Q : State → Prop} {cells slots : Nat}
variable {cc : ByteArray} {nL : Nat} {own : String} {b0 : Cond} {tb : List Cond} {D : va_G} {cl : List vw_C} {cA : Nat → ClassId} {A : Nat → Prop} {ad : Nat → Nat} {sh : Nat → mw_H} {n : Nat} {w : Bool}
variable {pc : Nat} {lv : List (Nat × mw_V)} {st : List mw_V} {S : mw_S}
theorem mw_to (lv' : List (Nat × mw_V)) (h : mw_sub lv lv') (k : mw p l e R s m args below meth c Q cells slots D cl cA A ad sh n nL (pc) (lv') (st) (S)) : mw p l e R s m args below meth c Q cells slots D cl cA A ad sh n nL (pc) (lv) (st) (S) := fun H locs ls hP hS hl => k H locs ls hP hS (mw_sub_has hl h)
theorem mw_topi {x : Int32} (k : ∀ y : Int32, y = x → mw p l e R s m args below meth c Q cells slots D cl cA A ad sh n nL (pc) (lv) (.inl y :: st) (S)) : mw p l e R s m args below meth c Q cells slots D cl cA A ad sh n nL (pc) (lv) (.inl x :: st) (S) := k x rfl
theorem mw_topl {x : Int64} (k : ∀ y : Int64, y = x → mw p l e R s m args below meth c Q cells slots D cl cA A ad sh n nL (pc) (lv) (.inr (.inl y) :: st) (S)) : mw p l e R s m args below meth c Q cells slots D cl cA A ad sh n nL (pc) (lv) (.inr (.inl x) :: st) (S) := k x rfl
theorem mw_eqS {S' : mw_S} (h : S = S') (k : mw p l e R s m args below meth c Q cells slots D cl cA A ad sh n nL (pc) (lv) (st) (S')) : mw p l e R s m args below meth c Q cells slots D cl cA A ad sh n nL (pc) (lv) (st) (S) := h ▸ k
theorem mw_iconst (C : mw_C p m c s args cc nL own b0 tb D cl cA A ad n w) {i : Int} {v : Int32} (hd : decode cc pc = .ok (.iconst i, 1)) (hv : Int32.ofInt i = v) (k : mw p l e R s m args below meth c Q cells slots D cl cA A ad sh n nL (pc + 1) (lv) (.inl v :: st) (S)) : mw p l e R s m args below meth c Q cells slots D cl cA A ad sh n nL (pc) (lv) (st) (S) := fun H locs ls hP hS hl => lv_iconst C.1.1 C.1.2.1 hd hv (k H locs ls hP hS hl)
theorem mw_bipush (C : mw_C p m c s args cc nL own b0 tb D cl cA A ad n w) {i : Int} {v : Int32} (hd : decode cc pc = .ok (.bipush i, 2)) (hv : (Int8.ofInt i).toInt32 = v) (k : mw p l e R s m args below meth c Q cells slots D cl cA A ad sh n nL (pc + 2) (lv) (.inl v :: st) (S)) : mw p l e R s m args below meth c Q cells slots D cl cA A ad sh n nL (pc) (lv) (st) (S) := fun H locs ls hP hS hl => lv_bipush C.1.1 C.1.2.1 hd hv (k H locs ls hP hS hl)
theorem mw_sipush (C : mw_C p m c s args cc nL own b0 tb D cl cA A ad n w) {i : Int} {v : Int32} (hd : decode cc pc = .ok (.sipush i, 3)) (hv : (Int16.ofInt i).toInt32 = v) (k : mw p l e R s m args below meth c Q cells slots D cl cA A ad sh n nL (pc + 3) (lv) (.inl v :: st) (S)) : mw p l e R s m args below meth c Q cells slots D cl cA A ad sh n nL (pc) (lv) (st) (S) := fun H locs ls hP hS hl => lv_sipush C.1.1 C.1.2.1 hd hv (k H locs ls hP hS hl)
theorem mw_lconst (C : mw_C p m c s args cc nL own b0 tb D cl cA A ad n w) {i : Fin 2} {v : Int64} (hd : decode cc pc = .ok (.lconst i, 1)) (hv : Int64.ofNat (i : Nat) = v) (k : mw p l e R s m args below meth c Q cells slots D cl cA A ad sh n nL (pc + 1) (lv) (.inr (.inl v) :: st) (S)) : mw p l e R s m args below meth c Q cells slots D cl cA A ad sh n nL (pc) (lv) (st) (S) := fun H locs ls hP hS hl => lv_lconst C.1.1 C.1.2.1 hd hv (k H locs ls hP hS hl)
theorem mw_ldc (C : mw_C p m c s args cc nL own b0 tb D cl cA A ad n w) {index : Nat} {v : Int32} (hw : Cond.constant own index v ∈ mw_G tb) (hd : decode cc pc = .ok (.ldc index, 2)) (k : mw p l e R s m args below meth c Q cells slots D cl cA A ad sh n nL (pc + 2) (lv) (.inl v :: st) (S)) : mw p l e R s m args below meth c Q cells slots D cl cA A ad sh n nL (pc) (lv) (st) (S) := fun H locs ls hP hS hl => lv_ldc C.1.1 C.1.2.1 C.1.2.2.2.1 (C.1.2.2.2.2 _ (List.mem_cons_of_mem _ hw)) hd (k H locs ls hP hS hl)
theorem mw_ldc2 (C : mw_C p m c s args cc nL own b0 tb D cl cA A ad n w) {index : Nat} {v : Int64} (hw : Cond.constantLong own index v ∈ mw_G tb) (hd : decode cc pc = .ok (.ldc2_w index, 3)) (k : mw p l e R s m args below meth c Q cells slots D cl cA A ad sh n nL (pc + 3) (lv) (.inr (.inl v) :: st) (S)) : mw p l e R s m args below meth c Q cells slots D cl cA A ad sh n nL (pc) (lv) (st) (S) := fun H locs ls hP hS hl => lv_ldc2 C.1.1 C.1.2.1 C.1.2.2.2.1 (C.1.2.2.2.2 _ (List.mem_cons_of_mem _ hw)) hd (k H locs ls hP hS hl)
theorem mw_iload_n (C : mw_C p m c s args cc nL own b0 tb D cl cA A ad n w) {i : Fin 4} (j : Nat) {x : Int32} (hd : decode cc pc = .ok (.iload_n i, 1)) (hi : (i : Nat) = j) (hx : mw_lk lv j = some (.inl x)) (k : mw p l e R s m args below meth c Q cells slots D cl cA A ad sh n nL (pc + 1) (lv) (.inl x :: st) (S)) : mw p l e R s m args below meth c Q cells slots D cl cA A ad sh n nL (pc) (lv) (st) (S) := fun H locs ls hP hS hl => lv_iload_n C.1.1 C.1.2.1 hd hi (mw_ls hl hx) (k H locs ls hP hS hl)
theorem mw_iload (C : mw_C p m c s args cc nL own b0 tb D cl cA A ad n w) {j : Nat} {x : Int32} (hd : decode cc pc = .ok (.iload j, 2)) (hx : mw_lk lv j = some (.inl x)) (k : mw p l e R s m args below meth c Q cells slots D cl cA A ad sh n nL (pc + 2) (lv) (.inl x :: st) (S)) : mw p l e R s m args below meth c Q cells slots D cl cA A ad sh n nL (pc) (lv) (st) (S) := fun H locs ls hP hS hl => lv_iload C.1.1 C.1.2.1 hd (mw_ls hl hx) (k H locs ls hP hS hl)
theorem mw_lload_n (C : mw_C p m c s args cc nL own b0 tb D cl cA A ad n w) {i : Fin 4} (j : Nat) {x : Int64} (hd : decode cc pc = .ok (.lload_n i, 1)) (hi : (i : Nat) = j) (hx : mw_lk lv j = some (.inr (.inl x))) (k : mw p l e R s m args below meth c Q cells slots D cl cA A ad sh n nL (pc + 1) (lv) (.inr (.inl x) :: st) (S)) : mw p l e R s m args below meth c Q cells slots D cl cA A ad sh n nL (pc) (lv) (st) (S) := fun H locs ls hP hS hl => lv_lload_n C.1.1 C.1.2.1 hd hi (mw_ls hl hx) (k H locs ls hP hS hl)
theorem mw_lload (C : mw_C p m c s args cc nL own b0 tb D cl cA A ad n w) {j : Nat} {x : Int64} (hd : decode cc pc = .ok (.lload j, 2)) (hx : mw_lk lv j = some (.inr (.inl x))) (k : mw p l e R s m args below meth c Q cells slots D cl cA A ad sh n nL (pc + 2) (lv) (.inr (.inl x) :: st) (S)) : mw p l e R s m args below meth c Q cells slots D cl cA A ad sh n nL (pc) (lv) (st) (S) := fun H locs ls hP hS hl => lv_lload C.1.1 C.1.2.1 hd (mw_ls hl hx) (k H locs ls hP hS hl)
theorem mw_aload_n (C : mw_C p m c s args cc nL own b0 tb D cl cA A ad n w) {i : Fin 4} (j : Nat) {x : Nat} (hd : decode cc pc = .ok (.aload_n i, 1)) (hi : (i : Nat) = j) (hx : mw_lk lv j = some (.inr (.inr x))) (k : mw p l e R s m args below meth c Q cells slots D cl cA A ad sh n nL (pc + 1) (lv) (.inr (.inr x) :: st) (S)) : mw p l e R s m args below meth c Q cells slots D cl cA A ad sh n nL (pc) (lv) (st) (S) := fun H locs ls hP hS hl => lv_aload_n C.1.1 C.1.2.1 hd hi (mw_ls hl hx) (k H locs ls hP hS hl)
theorem mw_aload (C : mw_C p m c s args cc nL own b0 tb D cl cA A ad n w) {j : Nat} {x : Nat} (hd : decode cc pc = .ok (.aload j, 2)) (hx : mw_lk lv j = some (.inr (.inr x))) (k : mw p l e R s m args below meth c Q cells slots D cl cA A ad sh n nL (pc + 2) (lv) (.inr (.inr x) :: st) (S)) : mw p l e R s m args below meth c Q cells slots D cl cA A ad sh n nL (pc) (lv) (st) (S) := fun H locs ls hP hS hl => lv_aload C.1.1 C.1.2.1 hd (mw_ls hl hx) (k H locs ls hP hS hl)
theorem mw_istore_n (C : mw_C p m c s args cc nL own b0 tb D cl cA A ad n w) {i : Fin 4} (j : Nat) {x : Int32} (hd : decode cc pc = .ok (.istore_n i, 1)) (hi : (i : Nat) = j) (hn : j < nL) (k : mw p l e R s m args below meth c Q cells slots D cl cA A ad sh n nL (pc + 1) (mw_s1 lv j (.inl x)) (st) (S)) : mw p l e R s m args below meth c Q cells slots D cl cA A ad sh n nL (pc) (lv) (.inl x :: st) (S) := fun H locs ls hP hS hl => lv_istore_n C.1.1 C.1.2.1 hd hi hl hn (mw_s1_map ad lv j (.inl x)) (fun ls' hl' => k H locs ls' hP hS hl')
theorem mw_istore (C : mw_C p m c s args cc nL own b0 tb D cl cA A ad n w) {j : Nat} {x : Int32} (hd : decode cc pc = .ok (.istore j, 2)) (hn : j < nL) (k : mw p l e R s m args below meth c Q cells slots D cl cA A ad sh n nL (pc + 2) (mw_s1 lv j (.inl x)) (st) (S)) : mw p l e R s m args below meth c Q cells slots D cl cA A ad sh n nL (pc) (lv) (.inl x :: st) (S) := fun H locs ls hP hS hl => lv_istore C.1.1 C.1.2.1 hd hl hn (mw_s1_map ad lv j (.inl x)) (fun ls' hl' => k H locs ls' hP hS hl')
theorem mw_lstore_n (C : mw_C p m c s args cc nL own b0 tb D cl cA A ad n w) {i : Fin 4} (j : Nat) {x : Int64} (hd : decode cc pc = .ok (.lstore_n i, 1)) (hi : (i : Nat) = j) (hn : j + 1 < nL) (k : mw p l e R s m args below meth c Q cells slots D cl cA A ad sh n nL (pc + 1) (mw_s2 lv j (.inr (.inl x))) (st) (S)) : mw p l e R s m args below meth c Q cells slots D cl cA A ad sh n nL (pc) (lv) (.inr (.inl x) :: st) (S) := fun H locs ls hP hS hl => lv_lstore_n C.1.1 C.1.2.1 hd hi hl hn (mw_s2_map ad lv j (.inr (.inl x))) (fun ls' hl' => k H locs ls' hP hS hl')
theorem mw_lstore (C : mw_C p m c s args cc nL own b0 tb D cl cA A ad n w) {j : Nat} {x : Int64} (hd : decode cc pc = .ok (.lstore j, 2)) (hn : j + 1 < nL) (k : mw p l e R s m args below meth c Q cells slots D cl cA A ad sh n nL (pc + 2) (mw_s2 lv j (.inr (.inl x))) (st) (S)) : mw p l e R s m args below meth c Q cells slots D cl cA A ad sh n nL (pc) (lv) (.inr (.inl x) :: st) (S) := fun H locs ls hP hS hl => lv_lstore C.1.1 C.1.2.1 hd hl hn (mw_s2_map ad lv j (.inr (.inl x))) (fun ls' hl' => k H locs ls' hP hS hl')
theorem mw_astore_n (C : mw_C p m c s args cc nL own b0 tb D cl cA A ad n w) {i : Fin 4} (j : Nat) {x : Nat} (hd : decode cc pc = .ok (.astore_n i, 1)) (hi : (i : Nat) = j) (hn : j < nL) (k : mw p l e R s m args below meth c Q cells slots D cl cA A ad sh n nL (pc + 1) (mw_s1 lv j (.inr (.inr x))) (st) (S)) : mw p l e R s m args below meth c Q cells slots D cl cA A ad sh n nL (pc) (lv) (.inr (.inr x) :: st) (S) := fun H locs ls hP hS hl => lv_astore_n C.1.1 C.1.2.1 hd hi hl hn (mw_s1_map ad lv j (.inr (.inr x))) (fun ls' hl' => k H locs ls' hP hS hl')
theorem mw_astore (C : mw_C p m c s args cc nL own b0 tb D cl cA A ad n w) {j : Nat} {x : Nat} (hd : decode cc pc = .ok (.astore j, 2)) (hn : j < nL) (k : mw p l e R s m args below meth c Q cells slots D cl cA A ad sh n nL (pc + 2) (mw_s1 lv j (.inr (.inr x))) (st) (S)) : mw p l e R s m args below meth c Q cells slots D cl cA A ad sh n nL (pc) (lv) (.inr (.inr x) :: st) (S) := fun H locs ls hP hS hl => lv_astore C.1.1 C.1.2.1 hd hl hn (mw_s1_map ad lv j (.inr (.inr x))) (fun ls' hl' => k H locs ls' hP hS hl')
theorem mw_iinc (C : mw_C p m c s args cc nL own b0 tb D cl cA A ad n w) {j : Nat} {i : Int} {x v : Int32} (hd : decode cc pc = .ok (.iinc j i, 3)) (hx : mw_lk lv j = some (.inl x)) (hv : x + Int32.ofInt i = v) (hn : j < nL) (k : mw p l e R s m args below meth c Q cells slots D cl cA A ad sh n nL (pc + 3) (mw_s1 lv j (.inl v)) (st) (S)) : mw p l e R s m args below meth c Q cells slots D cl cA A ad sh n nL (pc) (lv) (st) (S) := fun H locs ls hP hS hl => by
  have hm : (j, Value.int x) ∈ mw_lm ad lv := List.mem_map.mpr ⟨(j, .inl x), mw_lk_mem hx, rfl⟩
  obtain ⟨i0, hi0⟩ := List.getElem?_of_mem hm
  exact lv_iinc C.1.1 C.1.2.1 hd hl hi0 hv hn (mw_s1_map ad lv j (.inl v)) (fun ls' hl' => k H locs ls' hP hS hl')
theorem mw_iadd (C : mw_C p m c s args cc nL own b0 tb D cl cA A ad n w) {x y : Int32} (hd : decode cc pc = .ok (.iadd, 1)) (k : mw p l e R s m args below meth c Q cells slots D cl cA A ad sh n nL (pc + 1) (lv) (.inl (x + y) :: st) (S)) : mw p l e R s m args below meth c Q cells slots D cl cA A ad sh n nL (pc) (lv) (.inl y :: .inl x :: st) (S) := fun H locs ls hP hS hl => lv_iadd C.1.1 C.1.2.1 hd (k H locs ls hP hS hl)
theorem mw_isub (C : mw_C p m c s args cc nL own b0 tb D cl cA A ad n w) {x y : Int32} (hd : decode cc pc = .ok (.isub, 1)) (k : mw p l e R s m args below meth c Q cells slots D cl cA A ad sh n nL (pc + 1) (lv) (.inl (x - y) :: st) (S)) : mw p l e R s m args below meth c Q cells slots D cl cA A ad sh n nL (pc) (lv) (.inl y :: .inl x :: st) (S) := fun H locs ls hP hS hl => lv_isub C.1.1 C.1.2.1 hd (k H locs ls hP hS hl)
theorem mw_imul (C : mw_C p m c s args cc nL own b0 tb D cl cA A ad n w) {x y : Int32} (hd : decode cc pc = .ok (.imul, 1)) (k : mw p l e R s m args below meth c Q cells slots D cl cA A ad sh n nL (pc + 1) (lv) (.inl (x * y) :: st) (S)) : mw p l e R s m args below meth c Q cells slots D cl cA A ad sh n nL (pc) (lv) (.inl y :: .inl x :: st) (S) := fun H locs ls hP hS hl => lv_imul C.1.1 C.1.2.1 hd (k H locs ls hP hS hl)
theorem mw_iand (C : mw_C p m c s args cc nL own b0 tb D cl cA A ad n w) {x y : Int32} (hd : decode cc pc = .ok (.iand, 1)) (k : mw p l e R s m args below meth c Q cells slots D cl cA A ad sh n nL (pc + 1) (lv) (.inl (x &&& y) :: st) (S)) : mw p l e R s m args below meth c Q cells slots D cl cA A ad sh n nL (pc) (lv) (.inl y :: .inl x :: st) (S) := fun H locs ls hP hS hl => lv_iand C.1.1 C.1.2.1 hd (k H locs ls hP hS hl)
theorem mw_ior (C : mw_C p m c s args cc nL own b0 tb D cl cA A ad n w) {x y : Int32} (hd : decode cc pc = .ok (.ior, 1)) (k : mw p l e R s m args below meth c Q cells slots D cl cA A ad sh n nL (pc + 1) (lv) (.inl (x ||| y) :: st) (S)) : mw p l e R s m args below meth c Q cells slots D cl cA A ad sh n nL (pc) (lv) (.inl y :: .inl x :: st) (S) := fun H locs ls hP hS hl => lv_ior C.1.1 C.1.2.1 hd (k H locs ls hP hS hl)
theorem mw_ixor (C : mw_C p m c s args cc nL own b0 tb D cl cA A ad n w) {x y : Int32} (hd : decode cc pc = .ok (.ixor, 1)) (k : mw p l e R s m args below meth c Q cells slots D cl cA A ad sh n nL (pc + 1) (lv) (.inl (x ^^^ y) :: st) (S)) : mw p l e R s m args below meth c Q cells slots D cl cA A ad sh n nL (pc) (lv) (.inl y :: .inl x :: st) (S) := fun H locs ls hP hS hl => lv_ixor C.1.1 C.1.2.1 hd (k H locs ls hP hS hl)
theorem mw_ishl (C : mw_C p m c s args cc nL own b0 tb D cl cA A ad n w) {x y : Int32} (hd : decode cc pc = .ok (.ishl, 1)) (k : mw p l e R s m args below meth c Q cells slots D cl cA A ad sh n nL (pc + 1) (lv) (.inl (x <<< (y &&& 31)) :: st) (S)) : mw p l e R s m args below meth c Q cells slots D cl cA A ad sh n nL (pc) (lv) (.inl y :: .inl x :: st) (S) := fun H locs ls hP hS hl => lv_ishl C.1.1 C.1.2.1 hd (k H locs ls hP hS hl)
theorem mw_ishr (C : mw_C p m c s args cc nL own b0 tb D cl cA A ad n w) {x y : Int32} (hd : decode cc pc = .ok (.ishr, 1)) (k : mw p l e R s m args below meth c Q cells slots D cl cA A ad sh n nL (pc + 1) (lv) (.inl (x >>> (y &&& 31)) :: st) (S)) : mw p l e R s m args below meth c Q cells slots D cl cA A ad sh n nL (pc) (lv) (.inl y :: .inl x :: st) (S) := fun H locs ls hP hS hl => lv_ishr C.1.1 C.1.2.1 hd (k H locs ls hP hS hl)
theorem mw_idiv (C : mw_C p m c s args cc nL own b0 tb D cl cA A ad n w) {x y : Int32} (hd : decode cc pc = .ok (.idiv, 1)) (hne : ¬ y = 0) (k : mw p l e R s m args below meth c Q cells slots D cl cA A ad sh n nL (pc + 1) (lv) (.inl (x / y) :: st) (S)) : mw p l e R s m args below meth c Q cells slots D cl cA A ad sh n nL (pc) (lv) (.inl y :: .inl x :: st) (S) := fun H locs ls hP hS hl => lv_idiv C.1.1 C.1.2.1 hd hne (k H locs ls hP hS hl)
theorem mw_irem (C : mw_C p m c s args cc nL own b0 tb D cl cA A ad n w) {x y : Int32} (hd : decode cc pc = .ok (.irem, 1)) (hne : ¬ y = 0) (k : mw p l e R s m args below meth c Q cells slots D cl cA A ad sh n nL (pc + 1) (lv) (.inl (x - x / y * y) :: st) (S)) : mw p l e R s m args below meth c Q cells slots D cl cA A ad sh n nL (pc) (lv) (.inl y :: .inl x :: st) (S) := fun H locs ls hP hS hl => lv_irem C.1.1 C.1.2.1 hd hne (k H locs ls hP hS hl)
theorem mw_ineg (C : mw_C p m c s args cc nL own b0 tb D cl cA A ad n w) {x : Int32} (hd : decode cc pc = .ok (.ineg, 1)) (k : mw p l e R s m args below meth c Q cells slots D cl cA A ad sh n nL (pc + 1) (lv) (.inl (-x) :: st) (S)) : mw p l e R s m args below meth c Q cells slots D cl cA A ad sh n nL (pc) (lv) (.inl x :: st) (S) := fun H locs ls hP hS hl => lv_ineg C.1.1 C.1.2.1 hd (k H locs ls hP hS hl)
theorem mw_iushr (C : mw_C p m c s args cc nL own b0 tb D cl cA A ad n w) {x y : Int32} (hd : decode cc pc = .ok (.iushr, 1)) (k : mw p l e R s m args below meth c Q cells slots D cl cA A ad sh n nL (pc + 1) (lv) (.inl ((x.toUInt32 >>> (y.toUInt32 &&& Int32.toUInt32 31)).toInt32) :: st) (S)) : mw p l e R s m args below meth c Q cells slots D cl cA A ad sh n nL (pc) (lv) (.inl y :: .inl x :: st) (S) := fun H locs ls hP hS hl => lv_iushr C.1.1 C.1.2.1 hd rfl (k H locs ls hP hS hl)
theorem mw_ladd (C : mw_C p m c s args cc nL own b0 tb D cl cA A ad n w) {x y : Int64} (hd : decode cc pc = .ok (.ladd, 1)) (k : mw p l e R s m args below meth c Q cells slots D cl cA A ad sh n nL (pc + 1) (lv) (.inr (.inl (x + y)) :: st) (S)) : mw p l e R s m args below meth c Q cells slots D cl cA A ad sh n nL (pc) (lv) (.inr (.inl y) :: .inr (.inl x) :: st) (S) := fun H locs ls hP hS hl => lv_ladd C.1.1 C.1.2.1 hd (k H locs ls hP hS hl)
theorem mw_lsub (C : mw_C p m c s args cc nL own b0 tb D cl cA A ad n w) {x y : Int64} (hd : decode cc pc = .ok (.lsub, 1)) (k : mw p l e R s m args below meth c Q cells slots D cl cA A ad sh n nL (pc + 1) (lv) (.inr (.inl (x - y)) :: st) (S)) : mw p l e R s m args below meth c Q cells slots D cl cA A ad sh n nL (pc) (lv) (.inr (.inl y) :: .inr (.inl x) :: st) (S) := fun H locs ls hP hS hl => lv_lsub C.1.1 C.1.2.1 hd (k H locs ls hP hS hl)
theorem mw_lmul (C : mw_C p m c s args cc nL own b0 tb D cl cA A ad n w) {x y : Int64} (hd : decode cc pc = .ok (.lmul, 1)) (k : mw p l e R s m args below meth c Q cells slots D cl cA A ad sh n nL (pc + 1) (lv) (.inr (.inl (x * y)) :: st) (S)) : mw p l e R s m args below meth c Q cells slots D cl cA A ad sh n nL (pc) (lv) (.inr (.inl y) :: .inr (.inl x) :: st) (S) := fun H locs ls hP hS hl => lv_lmul C.1.1 C.1.2.1 hd (k H locs ls hP hS hl)
theorem mw_land (C : mw_C p m c s args cc nL own b0 tb D cl cA A ad n w) {x y : Int64} (hd : decode cc pc = .ok (.land, 1)) (k : mw p l e R s m args below meth c Q cells slots D cl cA A ad sh n nL (pc + 1) (lv) (.inr (.inl (x &&& y)) :: st) (S)) : mw p l e R s m args below meth c Q cells slots D cl cA A ad sh n nL (pc) (lv) (.inr (.inl y) :: .inr (.inl x) :: st) (S) := fun H locs ls hP hS hl => lv_land C.1.1 C.1.2.1 hd (k H locs ls hP hS hl)
theorem mw_lor (C : mw_C p m c s args cc nL own b0 tb D cl cA A ad n w) {x y : Int64} (hd : decode cc pc = .ok (.lor, 1)) (k : mw p l e R s m args below meth c Q cells slots D cl cA A ad sh n nL (pc + 1) (lv) (.inr (.inl (x ||| y)) :: st) (S)) : mw p l e R s m args below meth c Q cells slots D cl cA A ad sh n nL (pc) (lv) (.inr (.inl y) :: .inr (.inl x) :: st) (S) := fun H locs ls hP hS hl => lv_lor C.1.1 C.1.2.1 hd (k H locs ls hP hS hl)
theorem mw_lxor (C : mw_C p m c s args cc nL own b0 tb D cl cA A ad n w) {x y : Int64} (hd : decode cc pc = .ok (.lxor, 1)) (k : mw p l e R s m args below meth c Q cells slots D cl cA A ad sh n nL (pc + 1) (lv) (.inr (.inl (x ^^^ y)) :: st) (S)) : mw p l e R s m args below meth c Q cells slots D cl cA A ad sh n nL (pc) (lv) (.inr (.inl y) :: .inr (.inl x) :: st) (S) := fun H locs ls hP hS hl => lv_lxor C.1.1 C.1.2.1 hd (k H locs ls hP hS hl)
theorem mw_lushr (C : mw_C p m c s args cc nL own b0 tb D cl cA A ad n w) {x : Int64} {y : Int32} (hd : decode cc pc = .ok (.lushr, 1)) (k : mw p l e R s m args below meth c Q cells slots D cl cA A ad sh n nL (pc + 1) (lv) (.inr (.inl ((x.toUInt64 >>> (y.toInt64.toUInt64 &&& Int64.toUInt64 63)).toInt64)) :: st) (S)) : mw p l e R s m args below meth c Q cells slots D cl cA A ad sh n nL (pc) (lv) (.inl y :: .inr (.inl x) :: st) (S) := fun H locs ls hP hS hl => lv_lushr C.1.1 C.1.2.1 hd rfl (k H locs ls hP hS hl)
theorem mw_lshl (C : mw_C p m c s args cc nL own b0 tb D cl cA A ad n w) {x : Int64} {y : Int32} (hd : decode cc pc = .ok (.lshl, 1)) (k : mw p l e R s m args below meth c Q cells slots D cl cA A ad sh n nL (pc + 1) (lv) (.inr (.inl (x <<< (y.toInt64 &&& 63))) :: st) (S)) : mw p l e R s m args below meth c Q cells slots D cl cA A ad sh n nL (pc) (lv) (.inl y :: .inr (.inl x) :: st) (S) := fun H locs ls hP hS hl => lv_lshl C.1.1 C.1.2.1 hd rfl (k H locs ls hP hS hl)
theorem mw_lshr (C : mw_C p m c s args cc nL own b0 tb D cl cA A ad n w) {x : Int64} {y : Int32} (hd : decode cc pc = .ok (.lshr, 1)) (k : mw p l e R s m args below meth c Q cells slots D cl cA A ad sh n nL (pc + 1) (lv) (.inr (.inl (x >>> (y.toInt64 &&& 63))) :: st) (S)) : mw p l e R s m args below meth c Q cells slots D cl cA A ad sh n nL (pc) (lv) (.inl y :: .inr (.inl x) :: st) (S) := fun H locs ls hP hS hl => lv_lshr C.1.1 C.1.2.1 hd rfl (k H locs ls hP hS hl)
theorem mw_i2l (C : mw_C p m c s args cc nL own b0 tb D cl cA A ad n w) {x : Int32} (hd : decode cc pc = .ok (.i2l, 1)) (k : mw p l e R s m args below meth c Q cells slots D cl cA A ad sh n nL (pc + 1) (lv) (.inr (.inl x.toInt64) :: st) (S)) : mw p l e R s m args below meth c Q cells slots D cl cA A ad sh n nL (pc) (lv) (.inl x :: st) (S) := fun H locs ls hP hS hl => lv_i2l C.1.1 C.1.2.1 hd rfl (k H locs ls hP hS hl)
theorem mw_l2i (C : mw_C p m c s args cc nL own b0 tb D cl cA A ad n w) {x : Int64} (hd : decode cc pc = .ok (.l2i, 1)) (k : mw p l e R s m args below meth c Q cells slots D cl cA A ad sh n nL (pc + 1) (lv) (.inl x.toInt32 :: st) (S)) : mw p l e R s m args below meth c Q cells slots D cl cA A ad sh n nL (pc) (lv) (.inr (.inl x) :: st) (S) := fun H locs ls hP hS hl => lv_l2i C.1.1 C.1.2.1 hd rfl (k H locs ls hP hS hl)
theorem mw_lcmp (C : mw_C p m c s args cc nL own b0 tb D cl cA A ad n w) {x y : Int64} (hd : decode cc pc = .ok (.lcmp, 1)) (k : mw p l e R s m args below meth c Q cells slots D cl cA A ad sh n nL (pc + 1) (lv) (.inl (lg_cmp x y) :: st) (S)) : mw p l e R s m args below meth c Q cells slots D cl cA A ad sh n nL (pc) (lv) (.inr (.inl y) :: .inr (.inl x) :: st) (S) := fun H locs ls hP hS hl => W.lcmp C.1.1 C.1.2.1 hd (k H locs ls hP hS hl)
theorem mw_dup (C : mw_C p m c s args cc nL own b0 tb D cl cA A ad n w) {u : mw_V} (hd : decode cc pc = .ok (.dup, 1)) (hu : mw_is2 u = false) (k : mw p l e R s m args below meth c Q cells slots D cl cA A ad sh n nL (pc + 1) (lv) (u :: u :: st) (S)) : mw p l e R s m args below meth c Q cells slots D cl cA A ad sh n nL (pc) (lv) (u :: st) (S) := fun H locs ls hP hS hl => lv_dup C.1.1 C.1.2.1 hd (mw_cat1 hu) (k H locs ls hP hS hl)
theorem mw_pop (C : mw_C p m c s args cc nL own b0 tb D cl cA A ad n w) {u : mw_V} (hd : decode cc pc = .ok (.pop, 1)) (hu : mw_is2 u = false) (k : mw p l e R s m args below meth c Q cells slots D cl cA A ad sh n nL (pc + 1) (lv) (st) (S)) : mw p l e R s m args below meth c Q cells slots D cl cA A ad sh n nL (pc) (lv) (u :: st) (S) := fun H locs ls hP hS hl => lv_pop C.1.1 C.1.2.1 hd (mw_cat1 hu) (k H locs ls hP hS hl)
theorem mw_dup_x1 (C : mw_C p m c s args cc nL own b0 tb D cl cA A ad n w) {u v : mw_V} (hd : decode cc pc = .ok (.dup_x1, 1)) (hu : mw_is2 u = false) (hv : mw_is2 v = false) (k : mw p l e R s m args below meth c Q cells slots D cl cA A ad sh n nL (pc + 1) (lv) (u :: v :: u :: st) (S)) : mw p l e R s m args below meth c Q cells slots D cl cA A ad sh n nL (pc) (lv) (u :: v :: st) (S) := fun H locs ls hP hS hl => lv_dup_x1 C.1.1 C.1.2.1 hd (mw_cat1 hu) (mw_cat1 hv) (k H locs ls hP hS hl)
theorem mw_dup2_11 (C : mw_C p m c s args cc nL own b0 tb D cl cA A ad n w) {u v : mw_V} (hd : decode cc pc = .ok (.dup2, 1)) (hu : mw_is2 u = false) (hv : mw_is2 v = false) (k : mw p l e R s m args below meth c Q cells slots D cl cA A ad sh n nL (pc + 1) (lv) (u :: v :: u :: v :: st) (S)) : mw p l e R s m args below meth c Q cells slots D cl cA A ad sh n nL (pc) (lv) (u :: v :: st) (S) := fun H locs ls hP hS hl => lv_dup2_11 C.1.1 C.1.2.1 hd (mw_cat1 hu) (mw_cat1 hv) (k H locs ls hP hS hl)
theorem mw_dup2_2 (C : mw_C p m c s args cc nL own b0 tb D cl cA A ad n w) {u : mw_V} (hd : decode cc pc = .ok (.dup2, 1)) (hu : mw_is2 u = true) (k : mw p l e R s m args below meth c Q cells slots D cl cA A ad sh n nL (pc + 1) (lv) (u :: u :: st) (S)) : mw p l e R s m args below meth c Q cells slots D cl cA A ad sh n nL (pc) (lv) (u :: st) (S) := fun H locs ls hP hS hl => lv_dup2_2 C.1.1 C.1.2.1 hd (mw_cat2 hu) (k H locs ls hP hS hl)
theorem mw_dup2_x1_2 (C : mw_C p m c s args cc nL own b0 tb D cl cA A ad n w) {u v : mw_V} (hd : decode cc pc = .ok (.dup2_x1, 1)) (hu : mw_is2 u = true) (hv : mw_is2 v = false) (k : mw p l e R s m args below meth c Q cells slots D cl cA A ad sh n nL (pc + 1) (lv) (u :: v :: u :: st) (S)) : mw p l e R s m args below meth c Q cells slots D cl cA A ad sh n nL (pc) (lv) (u :: v :: st) (S) := fun H locs ls hP hS hl => lv_dup2_x1_2 C.1.1 C.1.2.1 hd (mw_cat2 hu) (mw_cat1 hv) (k H locs ls hP hS hl)
theorem mw_if_eq (C : mw_C p m c s args cc nL own b0 tb D cl cA A ad n w) {x : Int32} {off : Int} (tgt : Nat) (hd : decode cc pc = .ok (.ifCond .eq off, 3)) (ht : (pc : Int) + off = (tgt : Int)) (kt : x = 0 → mw p l e R s m args below meth c Q cells slots D cl cA A ad sh n nL (tgt) (lv) (st) (S)) (kf : ¬ x = 0 → mw p l e R s m args below meth c Q cells slots D cl cA A ad sh n nL (pc + 3) (lv) (st) (S)) : mw p l e R s m args below meth c Q cells slots D cl cA A ad sh n nL (pc) (lv) (.inl x :: st) (S) := fun H locs ls hP hS hl => lv_if_eq C.1.1 C.1.2.1 hd ht (fun h => kt h H locs ls hP hS hl) (fun h => kf h H locs ls hP hS hl)
theorem mw_icmp_eq (C : mw_C p m c s args cc nL own b0 tb D cl cA A ad n w) {x y : Int32} {off : Int} (tgt : Nat) (hd : decode cc pc = .ok (.if_icmp .eq off, 3)) (ht : (pc : Int) + off = (tgt : Int)) (kt : x = y → mw p l e R s m args below meth c Q cells slots D cl cA A ad sh n nL (tgt) (lv) (st) (S)) (kf : ¬ x = y → mw p l e R s m args below meth c Q cells slots D cl cA A ad sh n nL (pc + 3) (lv) (st) (S)) : mw p l e R s m args below meth c Q cells slots D cl cA A ad sh n nL (pc) (lv) (.inl y :: .inl x :: st) (S) := fun H locs ls hP hS hl => lv_icmp_eq C.1.1 C.1.2.1 hd ht (fun h => kt h H locs ls hP hS hl) (fun h => kf h H locs ls hP hS hl)
theorem mw_if_ne (C : mw_C p m c s args cc nL own b0 tb D cl cA A ad n w) {x : Int32} {off : Int} (tgt : Nat) (hd : decode cc pc = .ok (.ifCond .ne off, 3)) (ht : (pc : Int) + off = (tgt : Int)) (kt : ¬ x = 0 → mw p l e R s m args below meth c Q cells slots D cl cA A ad sh n nL (tgt) (lv) (st) (S)) (kf : x = 0 → mw p l e R s m args below meth c Q cells slots D cl cA A ad sh n nL (pc + 3) (lv) (st) (S)) : mw p l e R s m args below meth c Q cells slots D cl cA A ad sh n nL (pc) (lv) (.inl x :: st) (S) := fun H locs ls hP hS hl => lv_if_ne C.1.1 C.1.2.1 hd ht (fun h => kt h H locs ls hP hS hl) (fun h => kf h H locs ls hP hS hl)
theorem mw_icmp_ne (C : mw_C p m c s args cc nL own b0 tb D cl cA A ad n w) {x y : Int32} {off : Int} (tgt : Nat) (hd : decode cc pc = .ok (.if_icmp .ne off, 3)) (ht : (pc : Int) + off = (tgt : Int)) (kt : ¬ x = y → mw p l e R s m args below meth c Q cells slots D cl cA A ad sh n nL (tgt) (lv) (st) (S)) (kf : x = y → mw p l e R s m args below meth c Q cells slots D cl cA A ad sh n nL (pc + 3) (lv) (st) (S)) : mw p l e R s m args below meth c Q cells slots D cl cA A ad sh n nL (pc) (lv) (.inl y :: .inl x :: st) (S) := fun H locs ls hP hS hl => lv_icmp_ne C.1.1 C.1.2.1 hd ht (fun h => kt h H locs ls hP hS hl) (fun h => kf h H locs ls hP hS hl)
theorem mw_if_lt (C : mw_C p m c s args cc nL own b0 tb D cl cA A ad n w) {x : Int32} {off : Int} (tgt : Nat) (hd : decode cc pc = .ok (.ifCond .lt off, 3)) (ht : (pc : Int) + off = (tgt : Int)) (kt : x < 0 → mw p l e R s m args below meth c Q cells slots D cl cA A ad sh n nL (tgt) (lv) (st) (S)) (kf : ¬ x < 0 → mw p l e R s m args below meth c Q cells slots D cl cA A ad sh n nL (pc + 3) (lv) (st) (S)) : mw p l e R s m args below meth c Q cells slots D cl cA A ad sh n nL (pc) (lv) (.inl x :: st) (S) := fun H locs ls hP hS hl => lv_if_lt C.1.1 C.1.2.1 hd ht (fun h => kt h H locs ls hP hS hl) (fun h => kf h H locs ls hP hS hl)
theorem mw_icmp_lt (C : mw_C p m c s args cc nL own b0 tb D cl cA A ad n w) {x y : Int32} {off : Int} (tgt : Nat) (hd : decode cc pc = .ok (.if_icmp .lt off, 3)) (ht : (pc : Int) + off = (tgt : Int)) (kt : x < y → mw p l e R s m args below meth c Q cells slots D cl cA A ad sh n nL (tgt) (lv) (st) (S)) (kf : ¬ x < y → mw p l e R s m args below meth c Q cells slots D cl cA A ad sh n nL (pc + 3) (lv) (st) (S)) : mw p l e R s m args below meth c Q cells slots D cl cA A ad sh n nL (pc) (lv) (.inl y :: .inl x :: st) (S) := fun H locs ls hP hS hl => lv_icmp_lt C.1.1 C.1.2.1 hd ht (fun h => kt h H locs ls hP hS hl) (fun h => kf h H locs ls hP hS hl)
theorem mw_if_ge (C : mw_C p m c s args cc nL own b0 tb D cl cA A ad n w) {x : Int32} {off : Int} (tgt : Nat) (hd : decode cc pc = .ok (.ifCond .ge off, 3)) (ht : (pc : Int) + off = (tgt : Int)) (kt : 0 ≤ x → mw p l e R s m args below meth c Q cells slots D cl cA A ad sh n nL (tgt) (lv) (st) (S)) (kf : ¬ 0 ≤ x → mw p l e R s m args below meth c Q cells slots D cl cA A ad sh n nL (pc + 3) (lv) (st) (S)) : mw p l e R s m args below meth c Q cells slots D cl cA A ad sh n nL (pc) (lv) (.inl x :: st) (S) := fun H locs ls hP hS hl => lv_if_ge C.1.1 C.1.2.1 hd ht (fun h => kt h H locs ls hP hS hl) (fun h => kf h H locs ls hP hS hl)
theorem mw_icmp_ge (C : mw_C p m c s args cc nL own b0 tb D cl cA A ad n w) {x y : Int32} {off : Int} (tgt : Nat) (hd : decode cc pc = .ok (.if_icmp .ge off, 3)) (ht : (pc : Int) + off = (tgt : Int)) (kt : y ≤ x → mw p l e R s m args below meth c Q cells slots D cl cA A ad sh n nL (tgt) (lv) (st) (S)) (kf : ¬ y ≤ x → mw p l e R s m args below meth c Q cells slots D cl cA A ad sh n nL (pc + 3) (lv) (st) (S)) : mw p l e R s m args below meth c Q cells slots D cl cA A ad sh n nL (pc) (lv) (.inl y :: .inl x :: st) (S) := fun H locs ls hP hS hl => lv_icmp_ge C.1.1 C.1.2.1 hd ht (fun h => kt h H locs ls hP hS hl) (fun h => kf h H locs ls hP hS hl)
theorem mw_if_gt (C : mw_C p m c s args cc nL own b0 tb D cl cA A ad n w) {x : Int32} {off : Int} (tgt : Nat) (hd : decode cc pc = .ok (.ifCond .gt off, 3)) (ht : (pc : Int) + off = (tgt : Int)) (kt : 0 < x → mw p l e R s m args below meth c Q cells slots D cl cA A ad sh n nL (tgt) (lv) (st) (S)) (kf : ¬ 0 < x → mw p l e R s m args below meth c Q cells slots D cl cA A ad sh n nL (pc + 3) (lv) (st) (S)) : mw p l e R s m args below meth c Q cells slots D cl cA A ad sh n nL (pc) (lv) (.inl x :: st) (S) := fun H locs ls hP hS hl => lv_if_gt C.1.1 C.1.2.1 hd ht (fun h => kt h H locs ls hP hS hl) (fun h => kf h H locs ls hP hS hl)
theorem mw_icmp_gt (C : mw_C p m c s args cc nL own b0 tb D cl cA A ad n w) {x y : Int32} {off : Int} (tgt : Nat) (hd : decode cc pc = .ok (.if_icmp .gt off, 3)) (ht : (pc : Int) + off = (tgt : Int)) (kt : y < x → mw p l e R s m args below meth c Q cells slots D cl cA A ad sh n nL (tgt) (lv) (st) (S)) (kf : ¬ y < x → mw p l e R s m args below meth c Q cells slots D cl cA A ad sh n nL (pc + 3) (lv) (st) (S)) : mw p l e R s m args below meth c Q cells slots D cl cA A ad sh n nL (pc) (lv) (.inl y :: .inl x :: st) (S) := fun H locs ls hP hS hl => lv_icmp_gt C.1.1 C.1.2.1 hd ht (fun h => kt h H locs ls hP hS hl) (fun h => kf h H locs ls hP hS hl)
theorem mw_if_le (C : mw_C p m c s args cc nL own b0 tb D cl cA A ad n w) {x : Int32} {off : Int} (tgt : Nat) (hd : decode cc pc = .ok (.ifCond .le off, 3)) (ht : (pc : Int) + off = (tgt : Int)) (kt : x ≤ 0 → mw p l e R s m args below meth c Q cells slots D cl cA A ad sh n nL (tgt) (lv) (st) (S)) (kf : ¬ x ≤ 0 → mw p l e R s m args below meth c Q cells slots D cl cA A ad sh n nL (pc + 3) (lv) (st) (S)) : mw p l e R s m args below meth c Q cells slots D cl cA A ad sh n nL (pc) (lv) (.inl x :: st) (S) := fun H locs ls hP hS hl => lv_if_le C.1.1 C.1.2.1 hd ht (fun h => kt h H locs ls hP hS hl) (fun h => kf h H locs ls hP hS hl)
theorem mw_icmp_le (C : mw_C p m c s args cc nL own b0 tb D cl cA A ad n w) {x y : Int32} {off : Int} (tgt : Nat) (hd : decode cc pc = .ok (.if_icmp .le off, 3)) (ht : (pc : Int) + off = (tgt : Int)) (kt : x ≤ y → mw p l e R s m args below meth c Q cells slots D cl cA A ad sh n nL (tgt) (lv) (st) (S)) (kf : ¬ x ≤ y → mw p l e R s m args below meth c Q cells slots D cl cA A ad sh n nL (pc + 3) (lv) (st) (S)) : mw p l e R s m args below meth c Q cells slots D cl cA A ad sh n nL (pc) (lv) (.inl y :: .inl x :: st) (S) := fun H locs ls hP hS hl => lv_icmp_le C.1.1 C.1.2.1 hd ht (fun h => kt h H locs ls hP hS hl) (fun h => kf h H locs ls hP hS hl)
theorem mw_goto (C : mw_C p m c s args cc nL own b0 tb D cl cA A ad n w) {off : Int} (tgt : Nat) (hd : decode cc pc = .ok (.goto off, 3)) (ht : (pc : Int) + off = (tgt : Int)) (k : mw p l e R s m args below meth c Q cells slots D cl cA A ad sh n nL (tgt) (lv) (st) (S)) : mw p l e R s m args below meth c Q cells slots D cl cA A ad sh n nL (pc) (lv) (st) (S) := fun H locs ls hP hS hl => lv_goto C.1.1 C.1.2.1 hd ht (k H locs ls hP hS hl)
theorem mw_tableOut (C : mw_C p m c s args cc nL own b0 tb D cl cA A ad n w) {dflt lo hi : Int} {offs : Array Int} {len : Nat} {x : Int32} (tgt : Nat) (hd : decode cc pc = .ok (.tableswitch dflt lo hi offs, len)) (h : x.toInt < lo ∨ hi < x.toInt) (ht : (pc : Int) + dflt = (tgt : Int)) (k : mw p l e R s m args below meth c Q cells slots D cl cA A ad sh n nL (tgt) (lv) (st) (S)) : mw p l e R s m args below meth c Q cells slots D cl cA A ad sh n nL (pc) (lv) (.inl x :: st) (S) := fun H locs ls hP hS hl => lv_tableOut C.1.1 C.1.2.1 hd h ht (k H locs ls hP hS hl)
theorem mw_tableIn (C : mw_C p m c s args cc nL own b0 tb D cl cA A ad n w) {dflt lo hi : Int} {offs : Array Int} {len : Nat} {x : Int32} {off : Int} (tgt : Nat) (hd : decode cc pc = .ok (.tableswitch dflt lo hi offs, len)) (h1 : ¬ x.toInt < lo) (h2 : ¬ hi < x.toInt) (ho : offs[(x.toInt - lo).toNat]? = some off) (ht : (pc : Int) + off = (tgt : Int)) (k : mw p l e R s m args below meth c Q cells slots D cl cA A ad sh n nL (tgt) (lv) (st) (S)) : mw p l e R s m args below meth c Q cells slots D cl cA A ad sh n nL (pc) (lv) (.inl x :: st) (S) := fun H locs ls hP hS hl => lv_tableIn C.1.1 C.1.2.1 hd h1 h2 ho ht (k H locs ls hP hS hl)
theorem mw_lookup (C : mw_C p m c s args cc nL own b0 tb D cl cA A ad n w) {dflt : Int} {ps : Array (Int × Int)} {len : Nat} {x : Int32} {off : Int} (tgt : Nat) (hd : decode cc pc = .ok (.lookupswitch dflt ps, len)) (hp : (ps.toList.zip (ps.toList.drop 1)).all (fun (a, next) => a.1 < next.1) = true) (ho : Op.lookupswitch.offset ps.toList dflt x.toInt = off) (ht : (pc : Int) + off = (tgt : Int)) (k : mw p l e R s m args below meth c Q cells slots D cl cA A ad sh n nL (tgt) (lv) (st) (S)) : mw p l e R s m args below meth c Q cells slots D cl cA A ad sh n nL (pc) (lv) (.inl x :: st) (S) := fun H locs ls hP hS hl => lv_lookup C.1.1 C.1.2.1 hd hp ho ht (k H locs ls hP hS hl)
theorem mw_fv_at {fk : List (Nat ⊕ Nat)} {k j : Nat} {x : Nat ⊕ Nat} (h : fk[j]? = some x) : (mw_fv ad S k fk)[j]? = some (mw_f1 ad S k j x) := by
  unfold mw_fv
  rw [List.getElem?_map, List.getElem?_zipIdx, h]
  simp
theorem mw_fv_len {fk : List (Nat ⊕ Nat)} {k : Nat} : (mw_fv ad S k fk).length = fk.length := by simp [mw_fv]
/-- a field that a class's constant pool names: class ci of 'cl', its field j; by a link of its own or a nest mate's -/
def mw_F (own : String) (tb : List Cond) (cl : List vw_C) (index ci j : Nat) : Prop := ∃ (C : String) (T : u_T) (N : Nat), cl[ci]? = some (C, T, N) ∧ j < N ∧ (∀ w ∈ u_ws C T N, w ∈ mw_G tb) ∧ (T j).1 = C ∧ (Cond.fieldLink own index C (T j).2.1 (T j).2.2.1 ∈ mw_G tb ∨ ∃ host, Cond.fieldLinkNest own index C (T j).2.1 (T j).2.2.1 host ∈ mw_N tb)
theorem mw_getv (C : mw_C p m c s args cc nL own b0 tb D cl cA A ad n w) {index ci j kk : Nat} {fk : List (Nat ⊕ Nat)} {x : Nat ⊕ Nat} {u : mw_V} (hF : mw_F own tb cl index ci j) (hd : decode cc pc = .ok (.getfield index, 3)) (hk : kk < n) (hs : sh kk = .inr (ci, fk)) (hx : fk[j]? = some x) (hu : mw_f1 ad S kk j x = mw_tv ad u) (k : mw p l e R s m args below meth c Q cells slots D cl cA A ad sh n nL (pc + 3) (lv) (u :: st) (S)) : mw p l e R s m args below meth c Q cells slots D cl cA A ad sh n nL (pc) (lv) (.inr (.inr kk) :: st) (S) := fun H locs ls hP hS hl => by
  obtain ⟨Cn, T, N, h1, h2, h3, h4, h5⟩ := hF
  have he : (mw_W cA ad sh n S)[kk]? = some (ad kk, .inr (ci, mw_fv ad S kk fk)) := by rw [mw_W_get hk, hs]; rfl
  have hv : (mw_fv ad S kk fk)[j]? = some (mw_tv ad u) := by rw [mw_fv_at hx, hu]
  rcases h5 with h5 | ⟨host, h5⟩
  · exact va_get (ref := Cn) C.1.1 C.1.2.1 C.1.2.2.2.2 (fun z hz => List.mem_cons_of_mem _ (h3 z hz)) C.1.2.2.2.1 C.2.2.1 hP kk he h1 j h2 (C.1.2.2.2.2 _ (List.mem_cons_of_mem _ h5)) (fun y hy => by rw [h4] at hy; exact hy) hv hd (k H locs ls hP hS hl)
  · exact va_getN (ref := Cn) C.1.1 C.1.2.1 C.1.2.2.2.2 (fun z hz => List.mem_cons_of_mem _ (h3 z hz)) C.1.2.2.2.1 C.2.2.1 hP kk he h1 j h2 (va_Nw.use rfl (C.2.1 _ h5)) (fun y hy => by rw [h4] at hy; exact hy) hv hd (k H locs ls hP hS hl)
theorem mw_geti (C : mw_C p m c s args cc nL own b0 tb D cl cA A ad n w) {index ci j kk : Nat} {fk : List (Nat ⊕ Nat)} (hF : mw_F own tb cl index ci j) (hd : decode cc pc = .ok (.getfield index, 3)) (hk : kk < n) (hs : sh kk = .inr (ci, fk)) (hx : fk[j]? = some (.inl 0)) (k : mw p l e R s m args below meth c Q cells slots D cl cA A ad sh n nL (pc + 3) (lv) (.inl (S.1 kk j) :: st) (S)) : mw p l e R s m args below meth c Q cells slots D cl cA A ad sh n nL (pc) (lv) (.inr (.inr kk) :: st) (S) := mw_getv C hF hd hk hs hx rfl k
theorem mw_getl (C : mw_C p m c s args cc nL own b0 tb D cl cA A ad n w) {index ci j kk : Nat} {fk : List (Nat ⊕ Nat)} (hF : mw_F own tb cl index ci j) (hd : decode cc pc = .ok (.getfield index, 3)) (hk : kk < n) (hs : sh kk = .inr (ci, fk)) (hx : fk[j]? = some (.inl 1)) (k : mw p l e R s m args below meth c Q cells slots D cl cA A ad sh n nL (pc + 3) (lv) (.inr (.inl (S.2 kk j)) :: st) (S)) : mw p l e R s m args below meth c Q cells slots D cl cA A ad sh n nL (pc) (lv) (.inr (.inr kk) :: st) (S) := mw_getv C hF hd hk hs hx rfl k
theorem mw_getr (C : mw_C p m c s args cc nL own b0 tb D cl cA A ad n w) {index ci j kk r : Nat} {fk : List (Nat ⊕ Nat)} (hF : mw_F own tb cl index ci j) (hd : decode cc pc = .ok (.getfield index, 3)) (hk : kk < n) (hs : sh kk = .inr (ci, fk)) (hx : fk[j]? = some (.inr r)) (k : mw p l e R s m args below meth c Q cells slots D cl cA A ad sh n nL (pc + 3) (lv) (.inr (.inr r) :: st) (S)) : mw p l e R s m args below meth c Q cells slots D cl cA A ad sh n nL (pc) (lv) (.inr (.inr kk) :: st) (S) := mw_getv C hF hd hk hs hx rfl k
/-- a field that may be written, of the type ty -/
def mw_P (cl : List vw_C) (ci j : Nat) (ty : FieldType) : Prop := ∃ (C : String) (T : u_T) (N : Nat) (ty0 : Nat → FieldType), cl[ci]? = some (C, T, N) ∧ (∀ k, k < N → parseFieldDescriptor (T k).2.2.1 = some (ty0 k)) ∧ (∀ a, a < N → ∀ b, b < N → a ≠ b → (T a).2.1 ≠ (T b).2.1) ∧ (T j).2.2.2 = false ∧ parseFieldDescriptor (T j).2.2.1 = some ty
theorem mw_putv (C : mw_C p m c s args cc nL own b0 tb D cl cA A ad n w) (hw0 : w = true) {index ci j kk : Nat} {fk : List (Nat ⊕ Nat)} {S' : mw_S} {u : mw_V} {ty : FieldType} (hF : mw_F own tb cl index ci j) (hW : mw_P cl ci j ty) (hd : decode cc pc = .ok (.putfield index, 3)) (hk : kk < n) (hs : sh kk = .inr (ci, fk)) (hj : j < fk.length) (h1 : ∀ i, i ≠ kk → S'.1 i = S.1 i) (h2 : ∀ i, i ≠ kk → S'.2 i = S.2 i) (hS' : mw_fv ad S' kk fk = (mw_fv ad S kk fk).set j (mw_tv ad u)) (hn : narrow ty (mw_tv ad u) = mw_tv ad u) (hfit : fits ty (mw_tv ad u) = true) (k : mw p l e R s m args below meth c Q cells slots D cl cA A ad sh n nL (pc + 3) (lv) (st) (S')) : mw p l e R s m args below meth c Q cells slots D cl cA A ad sh n nL (pc) (lv) (u :: .inr (.inr kk) :: st) (S) := fun H locs ls hP hS hl => by
  obtain ⟨Cn, T, N, g1, g2, g3, g4, g5⟩ := hF
  obtain ⟨Cn', T', N', ty0, w1, w2, w3, w4, w5⟩ := hW
  have e9 : (Cn, T, N) = (Cn', T', N') := Option.some.inj (g1.symm.trans w1)
  have e91 := congrArg Prod.fst e9
  have e92 := congrArg (fun z => z.2.1) e9
  have e93 := congrArg (fun z => z.2.2) e9
  dsimp only at e91 e92 e93
  subst e91; subst e92; subst e93
  have he : (mw_W cA ad sh n S)[kk]? = some (ad kk, .inr (ci, mw_fv ad S kk fk)) := by rw [mw_W_get hk, hs]; rfl
  have hset : (mw_W cA ad sh n S).set kk (ad kk, .inr (ci, (mw_fv ad S kk fk).set j (mw_tv ad u))) = mw_W cA ad sh n S' := mw_W_set hk h1 h2 (by rw [hs]; show Sum.inr (ci, mw_fv ad S' kk fk) = _; rw [hS'])
  rcases g5 with g5 | ⟨host, g5⟩
  · refine va_put (ref := Cn) C.1.1 C.1.2.1 C.1.2.2.2.2 (fun z hz => List.mem_cons_of_mem _ (g3 z hz)) ty0 w2 w3 C.1.2.2.2.1 C.2.2.1 hP (mw_D C.2.2.2.2.1 (C.2.2.2.2.2 hw0)) hS kk he g1 j g2 (C.1.2.2.2.2 _ (List.mem_cons_of_mem _ g5)) (fun y hy => by rw [g4] at hy; exact hy) w4 w5 hn hfit (by rw [mw_fv_len]; exact hj) hd (fun H1 locs1 hP1 _ hS1 => ?_)
    rw [hset] at hP1
    exact k H1 locs1 ls hP1 hS1 hl
  · refine va_putN (ref := Cn) C.1.1 C.1.2.1 C.1.2.2.2.2 (fun z hz => List.mem_cons_of_mem _ (g3 z hz)) ty0 w2 w3 C.1.2.2.2.1 C.2.2.1 hP (mw_D C.2.2.2.2.1 (C.2.2.2.2.2 hw0)) hS kk he g1 j g2 (va_Nw.use rfl (C.2.1 _ g5)) (fun y hy => by rw [g4] at hy; exact hy) w4 w5 hn hfit (by rw [mw_fv_len]; exact hj) hd (fun H1 locs1 hP1 _ hS1 => ?_)
    rw [hset] at hP1
    exact k H1 locs1 ls hP1 hS1 hl
theorem mw_fv_uI {fk : List (Nat ⊕ Nat)} {k j : Nat} (x : Int32) (h : fk[j]? = some (.inl 0)) : mw_fv ad (mw_uI S k j x) k fk = (mw_fv ad S k fk).set j (.int x) := by
  apply List.ext_getElem?
  intro i
  have hj : j < fk.length := (List.getElem?_eq_some_iff.mp h).1
  by_cases e : i = j
  · subst e
    rw [List.getElem?_set_self (by rw [mw_fv_len]; exact hj), mw_fv_at h]
    simp [mw_f1, mw_uI, mw_rI, upd]
  · rw [List.getElem?_set_ne (Ne.symm e)]
    cases hx : fk[i]? with
    | none =>
      have hl : fk.length ≤ i := List.getElem?_eq_none_iff.mp hx
      rw [List.getElem?_eq_none (by rw [mw_fv_len]; exact hl), List.getElem?_eq_none (by rw [mw_fv_len]; exact hl)]
    | some z =>
      rw [mw_fv_at hx, mw_fv_at hx]
      match z with
      | .inl 0 => simp [mw_f1, mw_uI, mw_rI, upd, e]
      | .inl (_ + 1) => rfl
      | .inr _ => rfl
theorem mw_fv_uL {fk : List (Nat ⊕ Nat)} {k j : Nat} (x : Int64) (h : fk[j]? = some (.inl 1)) : mw_fv ad (mw_uL S k j x) k fk = (mw_fv ad S k fk).set j (.long x) := by
  apply List.ext_getElem?
  intro i
  have hj : j < fk.length := (List.getElem?_eq_some_iff.mp h).1
  by_cases e : i = j
  · subst e
    rw [List.getElem?_set_self (by rw [mw_fv_len]; exact hj), mw_fv_at h]
    simp [mw_f1, mw_uL, mw_rL, vp_updL]
  · rw [List.getElem?_set_ne (Ne.symm e)]
    cases hx : fk[i]? with
    | none =>
      have hl : fk.length ≤ i := List.getElem?_eq_none_iff.mp hx
      rw [List.getElem?_eq_none (by rw [mw_fv_len]; exact hl), List.getElem?_eq_none (by rw [mw_fv_len]; exact hl)]
    | some z =>
      rw [mw_fv_at hx, mw_fv_at hx]
      match z with
      | .inl 0 => rfl
      | .inl (_ + 1) => simp [mw_f1, mw_uL, mw_rL, vp_updL, e]
      | .inr _ => rfl
theorem mw_puti (C : mw_C p m c s args cc nL own b0 tb D cl cA A ad n w) (hw0 : w = true) {index ci j kk : Nat} {fk : List (Nat ⊕ Nat)} {x : Int32} (hF : mw_F own tb cl index ci j) (hW : mw_P cl ci j .int) (hd : decode cc pc = .ok (.putfield index, 3)) (hk : kk < n) (hs : sh kk = .inr (ci, fk)) (hx : fk[j]? = some (.inl 0)) (k : mw p l e R s m args below meth c Q cells slots D cl cA A ad sh n nL (pc + 3) (lv) (st) (mw_uI S kk j x)) : mw p l e R s m args below meth c Q cells slots D cl cA A ad sh n nL (pc) (lv) (.inl x :: .inr (.inr kk) :: st) (S) :=
  mw_putv C hw0 (u := .inl x) hF hW hd hk hs (List.getElem?_eq_some_iff.mp hx).1 (fun i hi => mw_rI_n S _ hi) (fun _ _ => rfl) (mw_fv_uI x hx) rfl rfl k
theorem mw_putz (C : mw_C p m c s args cc nL own b0 tb D cl cA A ad n w) (hw0 : w = true) {index ci j kk : Nat} {fk : List (Nat ⊕ Nat)} {x : Int32} (hF : mw_F own tb cl index ci j) (hW : mw_P cl ci j .boolean) (hd : decode cc pc = .ok (.putfield index, 3)) (hk : kk < n) (hs : sh kk = .inr (ci, fk)) (hx : fk[j]? = some (.inl 0)) (hb : narrow .boolean (.int x) = .int x) (hfit : fits .boolean (.int x) = true) (k : mw p l e R s m args below meth c Q cells slots D cl cA A ad sh n nL (pc + 3) (lv) (st) (mw_uI S kk j x)) : mw p l e R s m args below meth c Q cells slots D cl cA A ad sh n nL (pc) (lv) (.inl x :: .inr (.inr kk) :: st) (S) :=
  mw_putv C hw0 (u := .inl x) hF hW hd hk hs (List.getElem?_eq_some_iff.mp hx).1 (fun i hi => mw_rI_n S _ hi) (fun _ _ => rfl) (mw_fv_uI x hx) hb hfit k
theorem mw_putl (C : mw_C p m c s args cc nL own b0 tb D cl cA A ad n w) (hw0 : w = true) {index ci j kk : Nat} {fk : List (Nat ⊕ Nat)} {x : Int64} (hF : mw_F own tb cl index ci j) (hW : mw_P cl ci j .long) (hd : decode cc pc = .ok (.putfield index, 3)) (hk : kk < n) (hs : sh kk = .inr (ci, fk)) (hx : fk[j]? = some (.inl 1)) (k : mw p l e R s m args below meth c Q cells slots D cl cA A ad sh n nL (pc + 3) (lv) (st) (mw_uL S kk j x)) : mw p l e R s m args below meth c Q cells slots D cl cA A ad sh n nL (pc) (lv) (.inr (.inl x) :: .inr (.inr kk) :: st) (S) :=
  mw_putv C hw0 (u := .inr (.inl x)) (S' := mw_uL S kk j x) hF hW hd hk hs (List.getElem?_eq_some_iff.mp hx).1 (fun _ _ => rfl) (fun i hi => mw_rL_n S _ hi) (mw_fv_uL x hx) rfl rfl k
theorem mw_iald (C : mw_C p m c s args cc nL own b0 tb D cl cA A ad n w) {kk N : Nat} {i : Int32} (hd : decode cc pc = .ok (.iaload, 1)) (hk : kk < n) (hs : sh kk = .inl (0, N, .inl 0)) (hin : vp_in i N) (k : mw p l e R s m args below meth c Q cells slots D cl cA A ad sh n nL (pc + 1) (lv) (.inl (S.1 kk i.toNatClampNeg) :: st) (S)) : mw p l e R s m args below meth c Q cells slots D cl cA A ad sh n nL (pc) (lv) (.inl i :: .inr (.inr kk) :: st) (S) := fun H locs ls hP hS hl =>
  va_iald C.1.1 C.1.2.1 C.2.2.1 hP kk 0 (by rw [mw_W_get hk, hs]; rfl) rfl hin hd (k H locs ls hP hS hl)
theorem mw_zald (C : mw_C p m c s args cc nL own b0 tb D cl cA A ad n w) {kk N : Nat} {i : Int32} (hd : decode cc pc = .ok (.baload, 1)) (hk : kk < n) (hs : sh kk = .inl (2, N, .inl 0)) (hin : vp_in i N) (k : mw p l e R s m args below meth c Q cells slots D cl cA A ad sh n nL (pc + 1) (lv) (.inl (S.1 kk i.toNatClampNeg) :: st) (S)) : mw p l e R s m args below meth c Q cells slots D cl cA A ad sh n nL (pc) (lv) (.inl i :: .inr (.inr kk) :: st) (S) := fun H locs ls hP hS hl =>
  va_zald C.1.1 C.1.2.1 C.2.2.1 hP kk 2 (by rw [mw_W_get hk, hs]; rfl) rfl hin hd (k H locs ls hP hS hl)
theorem mw_lald (C : mw_C p m c s args cc nL own b0 tb D cl cA A ad n w) {kk N : Nat} {i : Int32} (hd : decode cc pc = .ok (.laload, 1)) (hk : kk < n) (hs : sh kk = .inl (1, N, .inl 1)) (hin : vp_in i N) (k : mw p l e R s m args below meth c Q cells slots D cl cA A ad sh n nL (pc + 1) (lv) (.inr (.inl (S.2 kk i.toNatClampNeg)) :: st) (S)) : mw p l e R s m args below meth c Q cells slots D cl cA A ad sh n nL (pc) (lv) (.inl i :: .inr (.inr kk) :: st) (S) := fun H locs ls hP hS hl =>
  va_lald C.1.1 C.1.2.1 C.2.2.1 hP kk 1 (by rw [mw_W_get hk, hs]; rfl) rfl hin hd (k H locs ls hP hS hl)
theorem mw_aald (C : mw_C p m c s args cc nL own b0 tb D cl cA A ad n w) {kk N : Nat} {ps : List Nat} {i : Int32} (hd : decode cc pc = .ok (.aaload, 1)) (hk : kk < n) (hs : sh kk = .inl (3, N, .inr ps)) (hin : vp_in i N) {r : Nat} (hr : ps.getD i.toNatClampNeg 0 = r) (k : mw p l e R s m args below meth c Q cells slots D cl cA A ad sh n nL (pc + 1) (lv) (.inr (.inr r) :: st) (S)) : mw p l e R s m args below meth c Q cells slots D cl cA A ad sh n nL (pc) (lv) (.inl i :: .inr (.inr kk) :: st) (S) := fun H locs ls hP hS hl =>
  va_aldq C.1.1 C.1.2.1 C.2.2.1 hP kk 3 (by rw [mw_W_get hk, hs]; rfl) rfl hin hd (by
    have := k H locs ls hP hS hl
    rw [← hr] at this
    exact this)
theorem mw_alen (C : mw_C p m c s args cc nL own b0 tb D cl cA A ad n w) {kk t N : Nat} {z : Nat ⊕ List Nat} {ty : FieldType} {v : Int32} (hd : decode cc pc = .ok (.arraylength, 1)) (hk : kk < n) (hs : sh kk = .inl (t, N, z)) (ht : (mw_T cA)[t]? = some (cA t, ty)) (hv : Int32.ofNat N = v) (k : mw p l e R s m args below meth c Q cells slots D cl cA A ad sh n nL (pc + 1) (lv) (.inl v :: st) (S)) : mw p l e R s m args below meth c Q cells slots D cl cA A ad sh n nL (pc) (lv) (.inr (.inr kk) :: st) (S) := fun H locs ls hP hS hl => by
  match z with
  | .inl 0 => exact va_alen C.1.1 C.1.2.1 C.2.2.1 hP kk t (by rw [mw_W_get hk, hs]; rfl) ht hv hd (k H locs ls hP hS hl)
  | .inl (_ + 1) => exact va_alen C.1.1 C.1.2.1 C.2.2.1 hP kk t (by rw [mw_W_get hk, hs]; rfl) ht hv hd (k H locs ls hP hS hl)
  | .inr f => exact va_alen C.1.1 C.1.2.1 C.2.2.1 hP kk t (by rw [mw_W_get hk, hs]; rfl) ht hv hd (k H locs ls hP hS hl)
theorem mw_iast (C : mw_C p m c s args cc nL own b0 tb D cl cA A ad n w) (hw0 : w = true) {kk N : Nat} {i x : Int32} (hd : decode cc pc = .ok (.iastore, 1)) (hk : kk < n) (hs : sh kk = .inl (0, N, .inl 0)) (hin : vp_in i N) (k : mw p l e R s m args below meth c Q cells slots D cl cA A ad sh n nL (pc + 1) (lv) (st) (mw_uI S kk i.toNatClampNeg x)) : mw p l e R s m args below meth c Q cells slots D cl cA A ad sh n nL (pc) (lv) (.inl x :: .inl i :: .inr (.inr kk) :: st) (S) := fun H locs ls hP hS hl => by
  refine va_iast C.1.1 C.1.2.1 C.2.2.1 hP (mw_D C.2.2.2.2.1 (C.2.2.2.2.2 hw0)) hS kk 0 (by rw [mw_W_get hk, hs]; rfl) rfl hin hd (fun H1 locs1 hP1 _ hS1 => ?_)
  rw [mw_W_set (S := S) (S' := mw_uI S kk i.toNatClampNeg x) hk (fun j hj => mw_rI_n S _ hj) (fun _ _ => rfl) (by rw [hs]; show Sum.inl (cA 0, N, Sum.inl ((mw_uI S kk i.toNatClampNeg x).1 kk)) = _; rw [mw_uI, mw_rI_s])] at hP1
  exact k H1 locs1 ls hP1 hS1 hl
theorem mw_zast (C : mw_C p m c s args cc nL own b0 tb D cl cA A ad n w) (hw0 : w = true) {kk N : Nat} {i x : Int32} (hd : decode cc pc = .ok (.bastore, 1)) (hk : kk < n) (hs : sh kk = .inl (2, N, .inl 0)) (hin : vp_in i N) (hb : vp_nar .boolean x = x) (k : mw p l e R s m args below meth c Q cells slots D cl cA A ad sh n nL (pc + 1) (lv) (st) (mw_uI S kk i.toNatClampNeg x)) : mw p l e R s m args below meth c Q cells slots D cl cA A ad sh n nL (pc) (lv) (.inl x :: .inl i :: .inr (.inr kk) :: st) (S) := fun H locs ls hP hS hl => by
  refine va_zast C.1.1 C.1.2.1 C.2.2.1 hP (mw_D C.2.2.2.2.1 (C.2.2.2.2.2 hw0)) hS kk 2 (by rw [mw_W_get hk, hs]; rfl) rfl hin hd (fun H1 locs1 hP1 _ hS1 => ?_)
  rw [hb, mw_W_set (S := S) (S' := mw_uI S kk i.toNatClampNeg x) hk (fun j hj => mw_rI_n S _ hj) (fun _ _ => rfl) (by rw [hs]; show Sum.inl (cA 2, N, Sum.inl ((mw_uI S kk i.toNatClampNeg x).1 kk)) = _; rw [mw_uI, mw_rI_s])] at hP1
  exact k H1 locs1 ls hP1 hS1 hl
theorem mw_last (C : mw_C p m c s args cc nL own b0 tb D cl cA A ad n w) (hw0 : w = true) {kk N : Nat} {i : Int32} {x : Int64} (hd : decode cc pc = .ok (.lastore, 1)) (hk : kk < n) (hs : sh kk = .inl (1, N, .inl 1)) (hin : vp_in i N) (k : mw p l e R s m args below meth c Q cells slots D cl cA A ad sh n nL (pc + 1) (lv) (st) (mw_uL S kk i.toNatClampNeg x)) : mw p l e R s m args below meth c Q cells slots D cl cA A ad sh n nL (pc) (lv) (.inr (.inl x) :: .inl i :: .inr (.inr kk) :: st) (S) := fun H locs ls hP hS hl => by
  refine va_last C.1.1 C.1.2.1 C.2.2.1 hP (mw_D C.2.2.2.2.1 (C.2.2.2.2.2 hw0)) hS kk 1 (by rw [mw_W_get hk, hs]; rfl) rfl hin hd (fun H1 locs1 hP1 _ hS1 => ?_)
  rw [mw_W_set (S := S) (S' := mw_uL S kk i.toNatClampNeg x) hk (fun _ _ => rfl) (fun j hj => mw_rL_n S _ hj) (by rw [hs]; show Sum.inl (cA 1, N, Sum.inr (Sum.inl ((mw_uL S kk i.toNatClampNeg x).2 kk))) = _; rw [mw_uL, mw_rL_s])] at hP1
  exact k H1 locs1 ls hP1 hS1 hl
/-- System.arraycopy within one row of ints -/
theorem mw_copy (C : mw_C p m c s args cc nL own b0 tb D cl cA A ad n w) (hw0 : w = true) {index kk N : Nat} {sp dp z : Int32} (hw : Cond.methodLink own index arraycopyName ∈ mw_G tb) (hw2 : Cond.native arraycopyName ∈ mw_G tb) (hw3 : Cond.static arraycopyName ∈ mw_G tb) (hw4 : Cond.initialized "java/lang/System" ∈ mw_G tb) (hd : decode cc pc = .ok (.invokestatic index, 3)) (hk : kk < n) (hs : sh kk = .inl (0, N, .inl 0)) (h1 : ¬ sp < 0) (h2 : ¬ dp < 0) (h3 : ¬ z < 0) (h4 : sp.toNatClampNeg + z.toNatClampNeg ≤ N) (h5 : dp.toNatClampNeg + z.toNatClampNeg ≤ N) (hframes : 1 ≤ R.frames) (hlocals : ((st.map (mw_tv ad)).map fun v => v.category).sum + (nativeFrameWords "java/lang/System" "arraycopy" 5 + 11) ≤ R.locals) (k : mw p l e R s m args below meth c Q cells slots D cl cA A ad sh n nL (pc + 3) (lv) (st) (mw_rI S kk (va_cpy (S.1 kk) (S.1 kk) sp.toNatClampNeg dp.toNatClampNeg z.toNatClampNeg))) : mw p l e R s m args below meth c Q cells slots D cl cA A ad sh n nL (pc) (lv) (.inl z :: .inl dp :: .inr (.inr kk) :: .inl sp :: .inr (.inr kk) :: st) (S) := fun H locs ls hP hS hl => by
  refine va_copyi C.1.1 C.1.2.1 (C.1.2.2.1.trans hl.1.symm) C.1.2.2.2.1 (C.1.2.2.2.2 _ (List.mem_cons_of_mem _ hw)) (C.1.2.2.2.2 _ (List.mem_cons_of_mem _ hw2)) (C.1.2.2.2.2 _ (List.mem_cons_of_mem _ hw3)) (C.1.2.2.2.2 _ (List.mem_cons_of_mem _ hw4)) C.2.2.1 hP (mw_D C.2.2.2.2.1 (C.2.2.2.2.2 hw0)) hS kk kk 0 0 (f := S.1 kk) (g := S.1 kk) (ty := .int) (by rw [mw_W_get hk, hs]; rfl) (by rw [mw_W_get hk, hs]; rfl) rfl rfl rfl h1 h2 h3 h4 h5 (fun _ _ => rfl) hframes hlocals hd (fun H1 locs1 hP1 _ hS1 => ?_)
  rw [mw_W_set (S := S) (S' := mw_rI S kk (va_cpy (S.1 kk) (S.1 kk) sp.toNatClampNeg dp.toNatClampNeg z.toNatClampNeg)) hk (fun j hj => mw_rI_n S _ hj) (fun _ _ => rfl) (by rw [hs]; show Sum.inl (cA 0, N, Sum.inl ((mw_rI S kk _).1 kk)) = _; rw [mw_rI_s])] at hP1
  exact k H1 locs1 ls hP1 hS1 hl
end MWR
end
section
/-! CONTRACTS OVER THE MINI WORLD, AND CALLS -/
-- a callee's world out of its caller's
def mw_ixf (ix : List Nat) (k : Nat) : Nat := ix.getD k 0
def mw_rs (S : mw_S) (ix : List Nat) : mw_S := (fun k => S.1 (mw_ixf ix k), fun k => S.2 (mw_ixf ix k))
def mw_pos : List Nat → Nat → Option Nat
  | [], _ => none
  | a :: l, i => cond (Nat.beq a i) (some 0) ((mw_pos l i).map Nat.succ)
def mw_mg (S : mw_S) (ix : List Nat) (S' : mw_S) : mw_S := (fun i => match mw_pos ix i with
  | some k => S'.1 k
  | none => S.1 i, fun i => match mw_pos ix i with
  | some k => S'.2 k
  | none => S.2 i)
def mw_rfk (ix : List Nat) : Nat ⊕ Nat → Nat ⊕ Nat
  | .inl z => .inl z
  | .inr r => .inr (mw_ixf ix r)
def mw_okc (ix : List Nat) (h' h : mw_H) : Bool := match h' with
  | .inl (t, n, .inl z) => decide (h = .inl (t, n, .inl z))
  | .inl (t, n, .inr f) => decide (h = .inl (t, n, .inr f)) && (f.all (fun r => Nat.beq (mw_ixf ix r) r) && Nat.beq (mw_ixf ix 0) 0)
  | .inr (ci, fk) => decide (h = .inr (ci, fk.map (mw_rfk ix)))
def mw_rv (ix : List Nat) : mw_V → mw_V
  | .inl x => .inl x
  | .inr (.inl y) => .inr (.inl y)
  | .inr (.inr k) => .inr (.inr (mw_ixf ix k))
theorem mw_rv_tv (ad : Nat → Nat) (ix : List Nat) (v : mw_V) : mw_tv (fun k => ad (mw_ixf ix k)) v = mw_tv ad (mw_rv ix v) := by
  match v with
  | .inl _ => rfl
  | .inr (.inl _) => rfl
  | .inr (.inr _) => rfl
theorem mw_pos_lt : ∀ {ix : List Nat} {i k : Nat}, mw_pos ix i = some k → k < ix.length ∧ mw_ixf ix k = i
  | [], i, k, h => by cases h
  | a :: l, i, k, h => by
    unfold mw_pos at h
    cases hb : Nat.beq a i with
    | true =>
      rw [hb] at h
      have e : (0 : Nat) = k := Option.some.inj h
      subst e
      exact ⟨by simp, Nat.eq_of_beq_eq_true hb⟩
    | false =>
      rw [hb] at h
      cases hp : mw_pos l i with
      | none => rw [hp] at h; cases h
      | some j =>
        rw [hp] at h
        have e : Nat.succ j = k := Option.some.inj h
        subst e
        obtain ⟨h1, h2⟩ := mw_pos_lt hp
        refine ⟨by simp only [List.length_cons]; omega, ?_⟩
        show (a :: l).getD (j + 1) 0 = i
        simpa [mw_ixf] using h2
theorem mw_okc_e {cA : Nat → ClassId} {ad : Nat → Nat} {S : mw_S} {ix : List Nat} {k : Nat} {h' h : mw_H} (ho : mw_okc ix h' h = true) : mw_e cA (fun k => ad (mw_ixf ix k)) (mw_rs S ix) k h' = mw_e cA ad S (mw_ixf ix k) h := by
  match h' with
  | .inl (t, n, .inl 0) =>
    have e : h = .inl (t, n, .inl 0) := of_decide_eq_true ho
    subst e; rfl
  | .inl (t, n, .inl (z + 1)) =>
    have e : h = .inl (t, n, .inl (z + 1)) := of_decide_eq_true ho
    subst e; rfl
  | .inl (t, n, .inr f) =>
    unfold mw_okc at ho
    simp only [Bool.and_eq_true, decide_eq_true_eq, List.all_eq_true] at ho
    obtain ⟨rfl, h1, h2⟩ := ho
    have e : ∀ j, mw_ixf ix (f.getD j 0) = f.getD j 0 := fun j => by
      by_cases hj : j < f.length
      · have hm : f.getD j 0 ∈ f := by
          rw [List.getD_eq_getElem?_getD, List.getElem?_eq_getElem hj]
          exact List.getElem_mem hj
        exact Nat.eq_of_beq_eq_true (h1 _ hm)
      · have e0 : f.getD j 0 = 0 := by
          rw [List.getD_eq_getElem?_getD, List.getElem?_eq_none (by omega)]
          rfl
        rw [e0]
        exact Nat.eq_of_beq_eq_true h2
    simp only [mw_e, e]
  | .inr (ci, fk) =>
    have e : h = .inr (ci, fk.map (mw_rfk ix)) := of_decide_eq_true ho
    subst e
    have e2 : mw_fv (fun k => ad (mw_ixf ix k)) (mw_rs S ix) k fk = mw_fv ad S (mw_ixf ix k) (fk.map (mw_rfk ix)) := by
      apply List.ext_getElem?
      intro j
      cases hx : fk[j]? with
      | none =>
        have hl : fk.length ≤ j := List.getElem?_eq_none_iff.mp hx
        rw [List.getElem?_eq_none (by rw [mw_fv_len]; exact hl), List.getElem?_eq_none (by rw [mw_fv_len, List.length_map]; exact hl)]
      | some z =>
        rw [mw_fv_at hx, mw_fv_at (fk := fk.map (mw_rfk ix)) (x := mw_rfk ix z) (by rw [List.getElem?_map, hx]; rfl)]
        match z with
        | .inl 0 => rfl
        | .inl (_ + 1) => rfl
        | .inr _ => rfl
    simp only [mw_e, e2]
/-- the callee's places ix among the caller's -/
def mw_ix (sh' : Nat → mw_H) (n' : Nat) (sh : Nat → mw_H) (n : Nat) (ix : List Nat) : Prop := ix.length = n' ∧ (∀ k, k < n' → mw_ixf ix k < n ∧ mw_okc ix (sh' k) (sh (mw_ixf ix k)) = true ∧ mw_pos ix (mw_ixf ix k) = some k)
def mw_ixb (sh' : Nat → mw_H) (n' : Nat) (sh : Nat → mw_H) (n : Nat) (ix : List Nat) : Bool := Nat.beq ix.length n' && (List.range n').all (fun k => decide (mw_ixf ix k < n) && (mw_okc ix (sh' k) (sh (mw_ixf ix k)) && decide (mw_pos ix (mw_ixf ix k) = some k)))
theorem mw_ix_of {sh' : Nat → mw_H} {n' : Nat} {sh : Nat → mw_H} {n : Nat} {ix : List Nat} (h : mw_ixb sh' n' sh n ix = true) : mw_ix sh' n' sh n ix := by
  unfold mw_ixb at h
  simp only [Bool.and_eq_true, List.all_eq_true, decide_eq_true_eq, List.mem_range] at h
  exact ⟨Nat.eq_of_beq_eq_true h.1, fun k hk => ⟨(h.2 k hk).1, (h.2 k hk).2.1, (h.2 k hk).2.2⟩⟩
-- contracts: w: it may write its world's cells
def mw_fr (w : Bool) (ws : va_W) (sz : Nat) : Nat → Prop := fun q => (w = true ∧ ∃ (k : Nat) (z : va_E), ws[k]? = some (q, z)) ∨ sz ≤ q
def mw_Pc (D : va_G) (cl : List vw_C) (cA : Nat → ClassId) (tb : List Cond) (ad : Nat → Nat) (sh : Nat → mw_H) (n sz : Nat) (as : List mw_V) (S : mw_S) : Array Value → State → Prop := va_Pc (as.map (mw_tv ad)) (fun U => U.heap.size = sz ∧ va_P D cl (mw_W cA ad sh n S) U.heap ∧ va_K D cl (mw_T cA) U ∧ (∀ w ∈ mw_N tb, va_Nw w U) ∧ ∀ i j, i < n → j < n → ad i = ad j → i = j)
def mw_Qc (w : Bool) (D : va_G) (cl : List vw_C) (cA : Nat → ClassId) (ad : Nat → Nat) (sh : Nat → mw_H) (n sz : Nat) (S : mw_S) (post : Option mw_V → mw_S → Prop) : Array Value → State → Outcome → State → Prop := fun _ st oc t => (∃ (r : Option mw_V) (S' : mw_S), oc = .returned (r.map (mw_tv ad)) ∧ post r S' ∧ va_P D cl (mw_W cA ad sh n S') t.heap) ∧ va_F (mw_fr w (mw_W cA ad sh n S) sz) st t
def mw_M (w : Bool) (l : Launch) (tb : List Cond) (y : MethodName) (cc : ByteArray) (maxL : Nat) (ret : Option FieldType) (rm : Room) (D : va_G) (cl : List vw_C) (cA : Nat → ClassId) (sh : Nat → mw_H) (n : Nat) (as : List mw_V) (S : mw_S) (post : Option mw_V → mw_S → Prop) : Prop := ∀ (ad : Nat → Nat) (sz : Nat), Met l y (Cond.code y cc maxL ret :: mw_G tb) rm (mw_Pc D cl cA tb ad sh n sz as S) (mw_Qc w D cl cA ad sh n sz S post) 0 0 (mw_fr w (mw_W cA ad sh n S) sz)
def mw_Pi (post : Int32 → mw_S → Prop) : Option mw_V → mw_S → Prop := fun r S' => ∃ x, r = some (.inl x) ∧ post x S'
def mw_Pl (post : Int64 → mw_S → Prop) : Option mw_V → mw_S → Prop := fun r S' => ∃ x, r = some (.inr (.inl x)) ∧ post x S'
def mw_Pv (post : mw_S → Prop) : Option mw_V → mw_S → Prop := fun r S' => r = none ∧ post S'
theorem mw_M_of {w : Bool} {l : Launch} {y : MethodName} {tb : List Cond} {rm : Room} {D : va_G} {cl : List vw_C} {cA : Nat → ClassId} {sh : Nat → mw_H} {n : Nat} {as : List mw_V} {S : mw_S} {post : Option mw_V → mw_S → Prop} {cc : ByteArray} {maxL : Nat} {ret : Option FieldType}
    (hy : plainName y.cls = true) (hlen : mw_words as ≤ maxL)
    (body : ∀ (p : Program) (e : Env) (s : State) (m : MethodId) (args : Array Value) (below : List Frame) (meth : Method) (c : Code) (A : Nat → Prop) (ad : Nat → Nat), mw_C p m c s args cc maxL y.cls (Cond.code y cc maxL ret) tb D cl cA A ad n w → (meth.sig.returnType = ret ∧ meth.locks = false ∧ A = mw_fr w (mw_W cA ad sh n S) s.heap.size) →
      mw p l e rm s m args below meth c (MQ below (mw_Qc w D cl cA ad sh n s.heap.size S post) args s 0 0 A) 0 0 D cl cA A ad sh n maxL 0 (mw_args 0 as) [] S) : mw_M w l tb y cc maxL ret rm D cl cA sh n as S post := by
  intro ad sz
  refine Met.ofW (cc := cc) (maxL := maxL) (ret := ret) hy rfl ?_
  intro p e s m args below meth c s₁ B hml hv
  obtain ⟨rfl, hsz, hP, hK, hN, hi⟩ := hv
  subst hsz
  have hts := atoms_spec (ws := Cond.code y cc maxL ret :: mw_G tb) B.pre
  have hown : s.vm.findClass y.cls = some m.cls := findClass_of_methodNamed B.named
  have hl := lv_entry (as.map (mw_tv ad)) (n := maxL) (by rw [mw_words_len]; exact hlen)
  rw [mw_args_map] at hl
  rw [lg_entry_eq]
  exact body p e s m _ below meth c _ ad ⟨⟨B.exec, B.bytes, hml, hown, hts⟩, hN, hK, fun q h => Or.inr h, hi, fun hw k hk => Or.inl ⟨hw, k, _, mw_W_get hk⟩⟩ ⟨B.returns, B.notSynchronized, rfl⟩ s.heap [] _ hP va_S.rf hl
section MWC
variable {p : Program} {l : Launch} {e : Env} {R : Room} {s : State} {m : MethodId} {args : Array Value} {below : List Frame} {meth : Method} {c : Code} {Q : State → Prop} {cells slots : Nat}
variable {cc : ByteArray} {nL : Nat} {own : String} {b0 : Cond} {tb : List Cond} {D : va_G} {cl : List vw_C} {cA : Nat → ClassId} {A : Nat → Prop} {ad : Nat → Nat} {sh : Nat → mw_H} {n : Nat} {w w' : Bool}
variable {pc : Nat} {lv : List (Nat × mw_V)} {st : List mw_V} {S S0 : mw_S}
theorem mw_iret (C : mw_C p m c s args cc nL own b0 tb D cl cA A ad n w) {post : Int32 → mw_S → Prop} {v : Int32} (hR : meth.sig.returnType = some .int ∧ meth.locks = false ∧ A = mw_fr w (mw_W cA ad sh n S0) s.heap.size) (hd : decode cc pc = .ok (.ireturn, 1)) (hq : post v S) : mw p l e R s m args below meth c (MQ below (mw_Qc w D cl cA ad sh n s.heap.size S0 (mw_Pi post)) args s cells slots A) cells slots D cl cA A ad sh n nL (pc) (lv) ([.inl v]) (S) := fun H locs ls hP hS hl =>
  W.iret C.1.1 C.1.2.1 hR.1 (fun t ht _ => ⟨⟨some (.inl v), S, rfl, ⟨v, rfl, hq⟩, by rw [ht]; exact hP⟩, by have h9 := hS.F ht; rw [hR.2.2] at h9; exact h9⟩) hS.2.2 hd hR.2.1
theorem mw_zret (C : mw_C p m c s args cc nL own b0 tb D cl cA A ad n w) {post : Int32 → mw_S → Prop} {v : Int32} (hR : meth.sig.returnType = some .boolean ∧ meth.locks = false ∧ A = mw_fr w (mw_W cA ad sh n S0) s.heap.size) (hd : decode cc pc = .ok (.ireturn, 1)) (hb : narrow .boolean (.int v) = .int v) (hq : post v S) : mw p l e R s m args below meth c (MQ below (mw_Qc w D cl cA ad sh n s.heap.size S0 (mw_Pi post)) args s cells slots A) cells slots D cl cA A ad sh n nL (pc) (lv) ([.inl v]) (S) := fun H locs ls hP hS hl =>
  W.zret C.1.1 C.1.2.1 hR.1 hb (fun t ht _ => ⟨⟨some (.inl v), S, rfl, ⟨v, rfl, hq⟩, by rw [ht]; exact hP⟩, by have h9 := hS.F ht; rw [hR.2.2] at h9; exact h9⟩) hS.2.2 hd hR.2.1
theorem mw_lret (C : mw_C p m c s args cc nL own b0 tb D cl cA A ad n w) {post : Int64 → mw_S → Prop} {v : Int64} (hR : meth.sig.returnType = some .long ∧ meth.locks = false ∧ A = mw_fr w (mw_W cA ad sh n S0) s.heap.size) (hd : decode cc pc = .ok (.lreturn, 1)) (hq : post v S) : mw p l e R s m args below meth c (MQ below (mw_Qc w D cl cA ad sh n s.heap.size S0 (mw_Pl post)) args s cells slots A) cells slots D cl cA A ad sh n nL (pc) (lv) ([.inr (.inl v)]) (S) := fun H locs ls hP hS hl =>
  W.lret C.1.1 C.1.2.1 hR.1 (fun t ht _ => ⟨⟨some (.inr (.inl v)), S, rfl, ⟨v, rfl, hq⟩, by rw [ht]; exact hP⟩, by have h9 := hS.F ht; rw [hR.2.2] at h9; exact h9⟩) hS.2.2 hd hR.2.1
theorem mw_vret (C : mw_C p m c s args cc nL own b0 tb D cl cA A ad n w) {post : mw_S → Prop} (hR : meth.sig.returnType = none ∧ meth.locks = false ∧ A = mw_fr w (mw_W cA ad sh n S0) s.heap.size) (hd : decode cc pc = .ok (.return_, 1)) (hq : post S) : mw p l e R s m args below meth c (MQ below (mw_Qc w D cl cA ad sh n s.heap.size S0 (mw_Pv post)) args s cells slots A) cells slots D cl cA A ad sh n nL (pc) (lv) ([]) (S) := fun H locs ls hP hS hl =>
  W.vret C.1.1 C.1.2.1 hR.1 (fun t ht _ => ⟨⟨none, S, rfl, ⟨rfl, hq⟩, by rw [ht]; exact hP⟩, by have h9 := hS.F ht; rw [hR.2.2] at h9; exact h9⟩) hS.2.2 hd hR.2.1
/-- the callee's part of the caller's world -/
theorem mw_part {sh' : Nat → mw_H} {n' : Nat} {ix : List Nat} (hx : mw_ix sh' n' sh n ix) {H : Heap} (hP : va_P D cl (mw_W cA ad sh n S) H) : va_P D cl (mw_W cA (fun k => ad (mw_ixf ix k)) sh' n' (mw_rs S ix)) H := by
  intro k q hq
  obtain ⟨hk, rfl⟩ := mw_W_some hq
  obtain ⟨h1, h2, -⟩ := hx.2 k hk
  have h3 := hP (mw_ixf ix k) _ (mw_W_get h1)
  rw [mw_okc_e h2]
  exact h3
/-- a call is under way: the run of the callee, with the world ix out of this one's -/
def mw_Rn (w' : Bool) (p : Program) (l : Launch) (e : Env) (R : Room) (s : State) (m : MethodId) (args : Array Value) (below : List Frame) (meth : Method) (c : Code) (cells slots : Nat) (D : va_G) (cl : List vw_C) (cA : Nat → ClassId) (A : Nat → Prop) (ad : Nat → Nat) (sh : Nat → mw_H) (n nL pc : Nat) (lv : List (Nat × mw_V)) (st rest : List mw_V) (S : mw_S) (sh' : Nat → mw_H) (n' : Nat) (ix : List Nat) (post : Option mw_V → mw_S → Prop) : Prop :=
  ∀ (H : Heap) (locs : List Loc) (ls : Array Slot), va_P D cl (mw_W cA ad sh n S) H → lv_has ls nL (mw_lm ad lv) → ∃ a : Array Value, va_Run p l e R s m args below meth c H locs cells slots 0 0 (F0 m pc ls (st.map (mw_tv ad))) (rest.map (mw_tv ad)) (mw_Qc w' D cl cA (fun k => ad (mw_ixf ix k)) sh' n' H.size (mw_rs S ix) post a) (mw_fr w' (mw_W cA (fun k => ad (mw_ixf ix k)) sh' n' (mw_rs S ix)) H.size)
theorem mw_run (C : mw_C p m c s args cc nL own b0 tb D cl cA A ad n w) {sh' : Nat → mw_H} {n' : Nat} {ix : List Nat} {rest : List mw_V} {post : Option mw_V → mw_S → Prop} (hx : mw_ix sh' n' sh n ix) (hww : w' = true → w = true) (hr : mw_Rn w' p l e R s m args below meth c cells slots D cl cA A ad sh n nL pc lv st rest S sh' n' ix post)
    (k : ∀ (r : Option mw_V) (S1 : mw_S), post r S1 → mw p l e R s m args below meth c Q cells slots D cl cA A ad sh n nL (pc + 3) (lv) ((r.map (mw_rv ix)).toList ++ rest) (cond w' (mw_mg S ix S1) S)) : mw p l e R s m args below meth c Q cells slots D cl cA A ad sh n nL (pc) (lv) (st) (S) := by
  intro H locs ls hP hS hl T hT X
  obtain ⟨a, hrun⟩ := hr H locs ls hP hl
  obtain ⟨v, st₀, t, T', L, h0, X', hL, e1, e2, ⟨⟨r, S1, hv, hpost, hP1⟩, hF⟩, hgo⟩ := hrun T hT X
  have hA1 : ∀ q, mw_fr w' (mw_W cA (fun k => ad (mw_ixf ix k)) sh' n' (mw_rs S ix)) H.size q → A q := by
    intro q hq
    rcases hq with ⟨hw1, k, z, hz⟩ | hq
    · obtain ⟨hk, hz⟩ := mw_W_some hz
      have e9 : q = ad (mw_ixf ix k) := congrArg Prod.fst hz
      rw [e9]
      exact C.2.2.2.2.2 (hww hw1) _ (hx.2 k hk).1
    · exact C.2.2.2.1 q (Nat.le_trans hS.1 hq)
  have hF1 : ∀ q, q < H.size → ¬ mw_fr w' (mw_W cA (fun k => ad (mw_ixf ix k)) sh' n' (mw_rs S ix)) H.size q → T'.heap[q]? = H[q]? := fun q h1 h2 => by
    rw [e1, ← h0]
    exact hF.2 q (by rw [h0]; exact h1) h2
  have hsz : H.size ≤ T'.heap.size := by rw [e1, ← h0]; exact hF.1
  have hP2 : va_P D cl (mw_W cA ad sh n (cond w' (mw_mg S ix S1) S)) T'.heap := by
    cases w' with
    | false =>
      intro i q hq
      obtain ⟨hi, rfl⟩ := mw_W_some hq
      have h3 := hP i _ (mw_W_get hi)
      refine h3.kept (hF1 _ h3.lt ?_)
      rintro (⟨hw1, -⟩ | hq)
      · cases hw1
      · exact absurd h3.lt (Nat.not_lt.mpr hq)
    | true =>
      show va_P D cl (mw_W cA ad sh n (mw_mg S ix S1)) T'.heap
      intro i q hq
      obtain ⟨hi, rfl⟩ := mw_W_some hq
      cases hp : mw_pos ix i with
      | some k =>
        obtain ⟨hk, hik⟩ := mw_pos_lt hp
        rw [hx.1] at hk
        obtain ⟨-, h2, -⟩ := hx.2 k hk
        have h3 := hP1 k _ (mw_W_get hk)
        have e8 : mw_e cA (fun k => ad (mw_ixf ix k)) S1 k (sh' k) = mw_e cA ad (mw_mg S ix S1) i (sh i) := by
          have e7 : mw_e cA (fun k => ad (mw_ixf ix k)) S1 k (sh' k) = mw_e cA (fun k => ad (mw_ixf ix k)) (mw_rs (mw_mg S ix S1) ix) k (sh' k) := by
            refine mw_e_congr ?_ ?_ _
            · show S1.1 k = (mw_mg S ix S1).1 (mw_ixf ix k)
              simp only [mw_mg, hik, hp]
            · show S1.2 k = (mw_mg S ix S1).2 (mw_ixf ix k)
              simp only [mw_mg, hik, hp]
          rw [e7, mw_okc_e h2, hik]
        rw [e8] at h3
        have h4 : va_at D cl (ad i, mw_e cA ad (mw_mg S ix S1) i (sh i)) t.heap := by
          have e6 : ad (mw_ixf ix k) = ad i := by rw [hik]
          rw [← e6]; exact h3
        rw [e1]
        exact h4
      | none =>
        have h3 := hP i _ (mw_W_get hi)
        have e8 : mw_e cA ad (mw_mg S ix S1) i (sh i) = mw_e cA ad S i (sh i) := by
          refine mw_e_congr ?_ ?_ _
          · simp only [mw_mg, hp]
          · simp only [mw_mg, hp]
        rw [e8]
        refine h3.kept (hF1 _ h3.lt ?_)
        rintro (⟨-, k, z, hz⟩ | hq)
        · obtain ⟨hk, hz⟩ := mw_W_some hz
          have e9 : ad i = ad (mw_ixf ix k) := congrArg Prod.fst hz
          have e10 := C.2.2.2.2.1 _ _ hi (hx.2 k hk).1 e9
          rw [e10, (hx.2 k hk).2.2] at hp
          cases hp
        · exact absurd h3.lt (Nat.not_lt.mpr hq)
  have hS2 : va_S A s.heap T'.heap (locs ++ L) := by
    refine ⟨Nat.le_trans hS.1 hsz, fun q h1 h2 => ?_, fun q hq => ?_⟩
    · rw [hF1 q (Nat.lt_of_lt_of_le h1 hS.1) (fun h => h2 (hA1 q h))]
      exact hS.2.1 q h1 h2
    · rcases List.mem_append.mp hq with hq | hq
      · exact hS.2.2 q hq
      · exact hA1 _ (hL q hq)
  obtain ⟨t2, a1, b1⟩ := k r S1 hpost T'.heap (locs ++ L) ls hP2 hS2 hl T' rfl X'
  refine ⟨t2, hgo t2 ?_, b1⟩
  have ev : v = r.map (mw_tv (fun k => ad (mw_ixf ix k))) := by injection hv
  have es : ((r.map (mw_rv ix)).toList ++ rest).map (mw_tv ad) = v.toList ++ rest.map (mw_tv ad) := by
    rw [ev]
    cases r with
    | none => rfl
    | some z => show mw_tv ad (mw_rv ix z) :: rest.map (mw_tv ad) = _; rw [← mw_rv_tv]; rfl
  rw [es] at a1
  exact a1
theorem mw_runi (C : mw_C p m c s args cc nL own b0 tb D cl cA A ad n w) {sh' : Nat → mw_H} {n' : Nat} {ix : List Nat} {rest : List mw_V} {post : Int32 → mw_S → Prop} (hx : mw_ix sh' n' sh n ix) (hw1 : w = true) (hr : mw_Rn true p l e R s m args below meth c cells slots D cl cA A ad sh n nL pc lv st rest S sh' n' ix (mw_Pi post))
    (k : ∀ (x : Int32) (S1 : mw_S), post x S1 → mw p l e R s m args below meth c Q cells slots D cl cA A ad sh n nL (pc + 3) (lv) (.inl x :: rest) (mw_mg S ix S1)) : mw p l e R s m args below meth c Q cells slots D cl cA A ad sh n nL (pc) (lv) (st) (S) := mw_run C hx (fun _ => hw1) hr (fun r S1 h => by obtain ⟨x, rfl, h⟩ := h; exact k x S1 h)
theorem mw_runl (C : mw_C p m c s args cc nL own b0 tb D cl cA A ad n w) {sh' : Nat → mw_H} {n' : Nat} {ix : List Nat} {rest : List mw_V} {post : Int64 → mw_S → Prop} (hx : mw_ix sh' n' sh n ix) (hw1 : w = true) (hr : mw_Rn true p l e R s m args below meth c cells slots D cl cA A ad sh n nL pc lv st rest S sh' n' ix (mw_Pl post))
    (k : ∀ (x : Int64) (S1 : mw_S), post x S1 → mw p l e R s m args below meth c Q cells slots D cl cA A ad sh n nL (pc + 3) (lv) (.inr (.inl x) :: rest) (mw_mg S ix S1)) : mw p l e R s m args below meth c Q cells slots D cl cA A ad sh n nL (pc) (lv) (st) (S) := mw_run C hx (fun _ => hw1) hr (fun r S1 h => by obtain ⟨x, rfl, h⟩ := h; exact k x S1 h)
theorem mw_runv (C : mw_C p m c s args cc nL own b0 tb D cl cA A ad n w) {sh' : Nat → mw_H} {n' : Nat} {ix : List Nat} {rest : List mw_V} {post : mw_S → Prop} (hx : mw_ix sh' n' sh n ix) (hw1 : w = true) (hr : mw_Rn true p l e R s m args below meth c cells slots D cl cA A ad sh n nL pc lv st rest S sh' n' ix (mw_Pv post))
    (k : ∀ (S1 : mw_S), post S1 → mw p l e R s m args below meth c Q cells slots D cl cA A ad sh n nL (pc + 3) (lv) (rest) (mw_mg S ix S1)) : mw p l e R s m args below meth c Q cells slots D cl cA A ad sh n nL (pc) (lv) (st) (S) := mw_run C hx (fun _ => hw1) hr (fun r S1 h => by obtain ⟨rfl, h⟩ := h; exact k S1 h)
/-- callees that write nothing -/
theorem mw_run0i (C : mw_C p m c s args cc nL own b0 tb D cl cA A ad n w) {sh' : Nat → mw_H} {n' : Nat} {ix : List Nat} {rest : List mw_V} {post : Int32 → Prop} (hx : mw_ix sh' n' sh n ix) (hr : mw_Rn false p l e R s m args below meth c cells slots D cl cA A ad sh n nL pc lv st rest S sh' n' ix (mw_Pi (fun x _ => post x)))
    (k : ∀ (x : Int32), post x → mw p l e R s m args below meth c Q cells slots D cl cA A ad sh n nL (pc + 3) (lv) (.inl x :: rest) (S)) : mw p l e R s m args below meth c Q cells slots D cl cA A ad sh n nL (pc) (lv) (st) (S) := mw_run C hx (fun h => by cases h) hr (fun r S1 h => by obtain ⟨x, rfl, h⟩ := h; exact k x h)
theorem mw_run0l (C : mw_C p m c s args cc nL own b0 tb D cl cA A ad n w) {sh' : Nat → mw_H} {n' : Nat} {ix : List Nat} {rest : List mw_V} {post : Int64 → Prop} (hx : mw_ix sh' n' sh n ix) (hr : mw_Rn false p l e R s m args below meth c cells slots D cl cA A ad sh n nL pc lv st rest S sh' n' ix (mw_Pl (fun x _ => post x)))
    (k : ∀ (x : Int64), post x → mw p l e R s m args below meth c Q cells slots D cl cA A ad sh n nL (pc + 3) (lv) (.inr (.inl x) :: rest) (S)) : mw p l e R s m args below meth c Q cells slots D cl cA A ad sh n nL (pc) (lv) (st) (S) := mw_run C hx (fun h => by cases h) hr (fun r S1 h => by obtain ⟨x, rfl, h⟩ := h; exact k x h)
theorem mw_blind {as : List mw_V} {sz : Nat} : FrameBlind (mw_Pc D cl cA tb ad sh n sz as S) := fun a U g mk q => by
  obtain ⟨q0, q1, qP, qK, qN, qi⟩ := q
  exact ⟨q0, q1, qP, va_K.moved (u := U) (U := U.calling g mk a) (Vm.Alike.refl U.vm) qK, fun w hw => va_Nw.same (u := U) (U := U.calling g mk a) (mw_nk_tabs (List.mem_filter.mp hw).2) rfl (qN w hw), qi⟩
theorem mw_pre {sh' : Nat → mw_H} {n' : Nat} {ix : List Nat} {as : List mw_V} (C : mw_C p m c s args cc nL own b0 tb D cl cA A ad n w) (hx : mw_ix sh' n' sh n ix) {H : Heap} (hP : va_P D cl (mw_W cA ad sh n S) H) : ∀ U : State, U.heap = H → s.WarmedH U.vm → mw_Pc D cl cA tb (fun k => ad (mw_ixf ix k)) sh' n' H.size as (mw_rs S ix) ((as.map (mw_tv (fun k => ad (mw_ixf ix k)))).toArray) U := fun U hU hW =>
  ⟨rfl, by rw [hU], by rw [hU]; exact mw_part hx hP, va_K.moved hW.alike C.2.2.1, fun w hw => mw_nk_warm (List.mem_filter.mp hw).2 hW (C.2.1 w hw), fun i j hi hj h => by
    have h1 := C.2.2.2.2.1 _ _ (hx.2 i hi).1 (hx.2 j hj).1 h
    have h2 := (hx.2 i hi).2.2
    rw [h1, (hx.2 j hj).2.2] at h2
    exact (Option.some.inj h2).symm⟩
theorem mw_asr (ix : List Nat) (as rest : List mw_V) : (((as.map (mw_rv ix)).reverse ++ rest).map (mw_tv ad)) = (as.map (mw_tv (fun k => ad (mw_ixf ix k)))).reverse ++ rest.map (mw_tv ad) := by
  rw [List.map_append, List.map_reverse, List.map_map]
  congr 2
  exact List.map_congr_left (fun v _ => (mw_rv_tv ad ix v).symm)
theorem mw_sum_le {k : Nat} (h : mw_words st ≤ k) : ((st.map (mw_tv ad)).map fun v => v.category).sum ≤ k := by
  have e : ∀ st : List mw_V, ((st.map (mw_tv ad)).map fun v => v.category).sum = mw_words st := by
    intro st
    induction st with
    | nil => rfl
    | cons v t ih =>
      simp only [List.map_cons, List.sum_cons, ih, mw_words]
      cases h : mw_is2 v with
      | true => rw [mw_cat2 h]; rfl
      | false => rw [mw_cat1 h]; rfl
  rw [e]; exact h
/-- what a call's link and its callee's code rest on -/
def mw_KB (tb : List Cond) (own : String) (index : Nat) (y : MethodName) (bytes : ByteArray) (maxL : Nat) (ret : Option FieldType) (n : Nat) : Prop := Cond.code y bytes maxL ret ∈ mw_G tb ∧ Cond.initialized y.cls ∈ mw_G tb ∧ (y.cls ≠ "java/lang/invoke/MethodHandle" ∧ y.cls ≠ "java/lang/invoke/VarHandle" ∧ (parseMethodDescriptor y.desc).map (fun d => d.parameters.length) = some n) ∧ (Cond.methodLink own index y ∈ mw_G tb ∨ ∃ host, Cond.methodLinkNest own index y host ∈ mw_N tb)
theorem mw_invS (C : mw_C p m c s args cc nL own b0 tb D cl cA A ad n w) {index : Nat} {y : MethodName} {bytes : ByteArray} {maxL : Nat} {ret : Option FieldType} {np : Nat} {rm : Room} {sh' : Nat → mw_H} {n' : Nat} {ix : List Nat} {as rest : List mw_V} {post : Option mw_V → mw_S → Prop}
    (hM : mw_M w' l tb y bytes maxL ret rm D cl cA sh' n' as (mw_rs S ix) post) (hx : mw_ix sh' n' sh n ix) (hK : mw_KB tb own index y bytes maxL ret np) (hst : Cond.static y ∈ mw_G tb) (hd : decode cc pc = .ok (.invokestatic index, 3)) (hn : as.length = np) (hs : (as.map (mw_rv ix)).reverse ++ rest = st) (hrest : mw_words rest ≤ 8)
    (hrc : rm.cells = 0) (hrs : rm.slots = 0) (hR : rm.frames + 1 ≤ R.frames ∧ 8 + (maxL + 11) + rm.locals ≤ R.locals) (hc : cells ≤ R.cells ∧ slots ≤ R.slots) : mw_Rn w' p l e R s m args below meth c cells slots D cl cA A ad sh n nL pc lv st rest S sh' n' ix post := by
  subst hs
  intro H locs ls hP hl
  obtain ⟨k1, k2, k3, k4⟩ := hK
  have ht := C.1.2.2.2.2
  have hmem : ∀ w, w ∈ mw_G tb → w.before args s = true := fun w h => ht w (List.mem_cons_of_mem _ h)
  refine ⟨(as.map (mw_tv (fun k => ad (mw_ixf ix k)))).toArray, ?_⟩
  rcases k4 with k4 | ⟨host, k4⟩
  · exact va_runS C.1 (hM (fun k => ad (mw_ixf ix k)) H.size) ⟨callB_of np ht (mw_good k1) rfl hrc hrs (hmem _ k2) (hmem _ k4) k3 hR, hmem _ hst⟩ ⟨mw_blind, mw_pre C hx hP⟩ rfl (by rw [List.length_map]; exact hn) hl.1 (mw_asr ix as rest) (lv_room (mw_sum_le hrest)) hd hc
  · exact va_runSN C.1 (hM (fun k => ad (mw_ixf ix k)) H.size) ⟨va_cnB np ht (mw_good k1) rfl hrc hrs (C.2.1 _ k4) (hmem _ k2) k3 hR, hmem _ hst, trivial⟩ ⟨mw_blind, mw_pre C hx hP⟩ rfl (by rw [List.length_map]; exact hn) hl.1 (mw_asr ix as rest) (lv_room (mw_sum_le hrest)) hd hc
theorem mw_invV (C : mw_C p m c s args cc nL own b0 tb D cl cA A ad n w) {index : Nat} {y : MethodName} {bytes : ByteArray} {maxL : Nat} {ret : Option FieldType} {np : Nat} {rm : Room} {sh' : Nat → mw_H} {n' : Nat} {ix : List Nat} {kk : Nat} {as rest : List mw_V} {post : Option mw_V → mw_S → Prop} {ci : Nat} {T : u_T} {N : Nat} {fk : List (Nat ⊕ Nat)}
    (hM : mw_M w' l tb y bytes maxL ret rm D cl cA sh' n' (.inr (.inr kk) :: as) (mw_rs S ix) post) (hx : mw_ix sh' n' sh n ix) (hK : mw_KB tb own index y bytes maxL ret np) (hin : Cond.instanceMethod y ∈ mw_G tb) (hse : Cond.selects y.cls y y ∈ mw_G tb) (hkk : kk < n') (hsh : sh' kk = .inr (ci, fk)) (hci : cl[ci]? = some (y.cls, T, N)) (hd : decode cc pc = .ok (.invokevirtual index, 3)) (hn : as.length = np) (hs : (as.map (mw_rv ix)).reverse ++ .inr (.inr (mw_ixf ix kk)) :: rest = st) (hrest : mw_words rest ≤ 8)
    (hrc : rm.cells = 0) (hrs : rm.slots = 0) (hR : rm.frames + 1 ≤ R.frames ∧ 8 + (maxL + 11) + rm.locals ≤ R.locals) (hc : cells ≤ R.cells ∧ slots ≤ R.slots) : mw_Rn w' p l e R s m args below meth c cells slots D cl cA A ad sh n nL pc lv st rest S sh' n' ix post := by
  subst hs
  intro H locs ls hP hl
  obtain ⟨k1, k2, k3, k4⟩ := hK
  have ht := C.1.2.2.2.2
  have hmem : ∀ w, w ∈ mw_G tb → w.before args s = true := fun w h => ht w (List.mem_cons_of_mem _ h)
  have hrecv := va_recv C.2.2.1 (mw_part hx hP) hci (show (mw_W cA (fun k => ad (mw_ixf ix k)) sh' n' (mw_rs S ix))[kk]? = some (ad (mw_ixf ix kk), .inr (ci, _)) by rw [mw_W_get hkk, hsh]; rfl)
  refine ⟨((.inr (.inr kk) :: as).map (mw_tv (fun k => ad (mw_ixf ix k)))).toArray, ?_⟩
  have hstk : (((as.map (mw_rv ix)).reverse ++ .inr (.inr (mw_ixf ix kk)) :: rest).map (mw_tv ad)) = (as.map (mw_tv (fun k => ad (mw_ixf ix k)))).reverse ++ .ref (ad (mw_ixf ix kk)) :: rest.map (mw_tv ad) := mw_asr ix as (.inr (.inr (mw_ixf ix kk)) :: rest)
  rcases k4 with k4 | ⟨host, k4⟩
  · exact va_runV (As := as.map (mw_tv (fun k => ad (mw_ixf ix k)))) C.1 (hM (fun k => ad (mw_ixf ix k)) H.size) ⟨callB_of np ht (mw_good k1) rfl hrc hrs (hmem _ k2) (hmem _ k4) k3 hR, hmem _ hin, hmem _ hse⟩ ⟨mw_blind, hrecv, mw_pre C hx hP⟩ rfl (by rw [List.length_map]; exact hn) hl.1 hstk (lv_room (mw_sum_le hrest)) hd hc
  · exact va_runVN (As := as.map (mw_tv (fun k => ad (mw_ixf ix k)))) C.1 (hM (fun k => ad (mw_ixf ix k)) H.size) ⟨va_cnB np ht (mw_good k1) rfl hrc hrs (C.2.1 _ k4) (hmem _ k2) k3 hR, hmem _ hin, hmem _ hse⟩ ⟨mw_blind, hrecv, mw_pre C hx hP⟩ rfl (by rw [List.length_map]; exact hn) hl.1 hstk (lv_room (mw_sum_le hrest)) hd hc
end MWC
end
section
-- ===== PART A: goes FIRST, ahead of the names: the tables' words, and 'selects' of the private methods out of them =====
/-- a private method of a class that the tables say can be made, by its rows of tables_1 -/
def lw_okq (q : MethodName × Nat) : Prop := (q.1.cls ≠ "java/lang/invoke/MethodHandle" ∧ q.1.cls ≠ "java/lang/invoke/VarHandle") ∧ Cond.instantiable q.1.cls q.2 ∈ tables_1 ∧ Cond.privateMethod q.1 ∈ tables_1 ∧ Cond.instanceMethod q.1 ∈ tables_1
theorem lw_p0 : lw_okq (⟨"WaveLedger", "isActive", "(I)Z"⟩, 7) := ⟨⟨by decide +kernel, by decide +kernel⟩, List.mem_of_getElem? (i := 19) (by decide +kernel), List.mem_of_getElem? (i := 237) (by decide +kernel), List.mem_of_getElem? (i := 238) (by decide +kernel)⟩
theorem lw_p1 : lw_okq (⟨"WaveLedger$Node", "mayCommit", "(I)Z"⟩, 15) := ⟨⟨by decide +kernel, by decide +kernel⟩, List.mem_of_getElem? (i := 81) (by decide +kernel), List.mem_of_getElem? (i := 262) (by decide +kernel), List.mem_of_getElem? (i := 263) (by decide +kernel)⟩
theorem lw_p2 : lw_okq (⟨"WaveLedger$Node", "leaderOf", "(I)I"⟩, 15) := ⟨⟨by decide +kernel, by decide +kernel⟩, List.mem_of_getElem? (i := 81) (by decide +kernel), List.mem_of_getElem? (i := 266) (by decide +kernel), List.mem_of_getElem? (i := 267) (by decide +kernel)⟩
theorem lw_p3 : lw_okq (⟨"WaveLedger$Node", "commit", "(I)V"⟩, 15) := ⟨⟨by decide +kernel, by decide +kernel⟩, List.mem_of_getElem? (i := 81) (by decide +kernel), List.mem_of_getElem? (i := 286) (by decide +kernel), List.mem_of_getElem? (i := 287) (by decide +kernel)⟩
theorem lw_p4 : lw_okq (⟨"WaveLedger$Node", "orderFrom", "(I)V"⟩, 15) := ⟨⟨by decide +kernel, by decide +kernel⟩, List.mem_of_getElem? (i := 81) (by decide +kernel), List.mem_of_getElem? (i := 291) (by decide +kernel), List.mem_of_getElem? (i := 292) (by decide +kernel)⟩
theorem lw_p5 : lw_okq (⟨"WaveLedger$Node", "broadcastOwnVertex", "()V"⟩, 15) := ⟨⟨by decide +kernel, by decide +kernel⟩, List.mem_of_getElem? (i := 81) (by decide +kernel), List.mem_of_getElem? (i := 311) (by decide +kernel), List.mem_of_getElem? (i := 312) (by decide +kernel)⟩
theorem lw_p6 : lw_okq (⟨"WaveLedger", "arrive", "(I)V"⟩, 7) := ⟨⟨by decide +kernel, by decide +kernel⟩, List.mem_of_getElem? (i := 19) (by decide +kernel), List.mem_of_getElem? (i := 352) (by decide +kernel), List.mem_of_getElem? (i := 353) (by decide +kernel)⟩
theorem lw_p7 : lw_okq (⟨"WaveLedger$Node", "broadcastReadyOnce", "(II)V"⟩, 15) := ⟨⟨by decide +kernel, by decide +kernel⟩, List.mem_of_getElem? (i := 81) (by decide +kernel), List.mem_of_getElem? (i := 389) (by decide +kernel), List.mem_of_getElem? (i := 390) (by decide +kernel)⟩
theorem lw_p8 : lw_okq (⟨"WaveLedger$Graph", "addIfAllowed", "(I)V"⟩, 5) := ⟨⟨by decide +kernel, by decide +kernel⟩, List.mem_of_getElem? (i := 134) (by decide +kernel), List.mem_of_getElem? (i := 401) (by decide +kernel), List.mem_of_getElem? (i := 402) (by decide +kernel)⟩
theorem lw_p9 : lw_okq (⟨"java/lang/Throwable", "fillInStackTrace", "(I)Ljava/lang/Throwable;"⟩, 6) := ⟨⟨by decide +kernel, by decide +kernel⟩, List.mem_of_getElem? (i := 509) (by decide +kernel), List.mem_of_getElem? (i := 507) (by decide +kernel), List.mem_of_getElem? (i := 508) (by decide +kernel)⟩
theorem lw_p10 : lw_okq (⟨"WaveLedgerModel", "isFaulty", "(I)Z"⟩, 29) := ⟨⟨by decide +kernel, by decide +kernel⟩, List.mem_of_getElem? (i := 601) (by decide +kernel), List.mem_of_getElem? (i := 707) (by decide +kernel), List.mem_of_getElem? (i := 708) (by decide +kernel)⟩
theorem lw_p11 : lw_okq (⟨"WaveLedgerModel", "refuse", "(I)I"⟩, 29) := ⟨⟨by decide +kernel, by decide +kernel⟩, List.mem_of_getElem? (i := 601) (by decide +kernel), List.mem_of_getElem? (i := 714) (by decide +kernel), List.mem_of_getElem? (i := 715) (by decide +kernel)⟩
theorem lw_p12 : lw_okq (⟨"WaveLedgerModel", "goesOn", "(I)V"⟩, 29) := ⟨⟨by decide +kernel, by decide +kernel⟩, List.mem_of_getElem? (i := 601) (by decide +kernel), List.mem_of_getElem? (i := 722) (by decide +kernel), List.mem_of_getElem? (i := 723) (by decide +kernel)⟩
theorem lw_p13 : lw_okq (⟨"WaveLedgerModel", "isFull", "(I)Z"⟩, 29) := ⟨⟨by decide +kernel, by decide +kernel⟩, List.mem_of_getElem? (i := 601) (by decide +kernel), List.mem_of_getElem? (i := 726) (by decide +kernel), List.mem_of_getElem? (i := 727) (by decide +kernel)⟩
theorem lw_p14 : lw_okq (⟨"WaveLedgerModel", "inRound", "(II)I"⟩, 29) := ⟨⟨by decide +kernel, by decide +kernel⟩, List.mem_of_getElem? (i := 601) (by decide +kernel), List.mem_of_getElem? (i := 730) (by decide +kernel), List.mem_of_getElem? (i := 731) (by decide +kernel)⟩
theorem lw_p15 : lw_okq (⟨"WaveLedgerModel", "done", "(II)V"⟩, 29) := ⟨⟨by decide +kernel, by decide +kernel⟩, List.mem_of_getElem? (i := 601) (by decide +kernel), List.mem_of_getElem? (i := 737) (by decide +kernel), List.mem_of_getElem? (i := 738) (by decide +kernel)⟩
def lw_privs_1 : List (MethodName × Nat) := [(⟨"WaveLedger", "isActive", "(I)Z"⟩, 7), (⟨"WaveLedger$Node", "mayCommit", "(I)Z"⟩, 15), (⟨"WaveLedger$Node", "leaderOf", "(I)I"⟩, 15), (⟨"WaveLedger$Node", "commit", "(I)V"⟩, 15), (⟨"WaveLedger$Node", "orderFrom", "(I)V"⟩, 15), (⟨"WaveLedger$Node", "broadcastOwnVertex", "()V"⟩, 15), (⟨"WaveLedger", "arrive", "(I)V"⟩, 7), (⟨"WaveLedger$Node", "broadcastReadyOnce", "(II)V"⟩, 15), (⟨"WaveLedger$Graph", "addIfAllowed", "(I)V"⟩, 5), (⟨"java/lang/Throwable", "fillInStackTrace", "(I)Ljava/lang/Throwable;"⟩, 6), (⟨"WaveLedgerModel", "isFaulty", "(I)Z"⟩, 29), (⟨"WaveLedgerModel", "refuse", "(I)I"⟩, 29), (⟨"WaveLedgerModel", "goesOn", "(I)V"⟩, 29), (⟨"WaveLedgerModel", "isFull", "(I)Z"⟩, 29), (⟨"WaveLedgerModel", "inRound", "(II)I"⟩, 29), (⟨"WaveLedgerModel", "done", "(II)V"⟩, 29)]
theorem lw_r1 : ∀ q ∈ lw_privs_1, lw_okq q := List.forall_mem_cons.mpr ⟨lw_p0, List.forall_mem_cons.mpr ⟨lw_p1, List.forall_mem_cons.mpr ⟨lw_p2, List.forall_mem_cons.mpr ⟨lw_p3, List.forall_mem_cons.mpr ⟨lw_p4, List.forall_mem_cons.mpr ⟨lw_p5, List.forall_mem_cons.mpr ⟨lw_p6, List.forall_mem_cons.mpr ⟨lw_p7, List.forall_mem_cons.mpr ⟨lw_p8, List.forall_mem_cons.mpr ⟨lw_p9, List.forall_mem_cons.mpr ⟨lw_p10, List.forall_mem_cons.mpr ⟨lw_p11, List.forall_mem_cons.mpr ⟨lw_p12, List.forall_mem_cons.mpr ⟨lw_p13, List.forall_mem_cons.mpr ⟨lw_p14, List.forall_mem_cons.mpr ⟨lw_p15, fun _ h => absurd h List.not_mem_nil⟩⟩⟩⟩⟩⟩⟩⟩⟩⟩⟩⟩⟩⟩⟩⟩
theorem lw_p16 : lw_okq (⟨"WaveLedgerModel", "leader", "(I)I"⟩, 29) := ⟨⟨by decide +kernel, by decide +kernel⟩, List.mem_of_getElem? (i := 601) (by decide +kernel), List.mem_of_getElem? (i := 741) (by decide +kernel), List.mem_of_getElem? (i := 742) (by decide +kernel)⟩
theorem lw_p17 : lw_okq (⟨"WaveLedgerModel", "below", "(IJZ)J"⟩, 29) := ⟨⟨by decide +kernel, by decide +kernel⟩, List.mem_of_getElem? (i := 601) (by decide +kernel), List.mem_of_getElem? (i := 745) (by decide +kernel), List.mem_of_getElem? (i := 746) (by decide +kernel)⟩
theorem lw_p18 : lw_okq (⟨"WaveLedgerModel", "points", "(IZ)J"⟩, 29) := ⟨⟨by decide +kernel, by decide +kernel⟩, List.mem_of_getElem? (i := 601) (by decide +kernel), List.mem_of_getElem? (i := 749) (by decide +kernel), List.mem_of_getElem? (i := 750) (by decide +kernel)⟩
theorem lw_p19 : lw_okq (⟨"WaveLedgerModel", "orderBelow", "(II)V"⟩, 29) := ⟨⟨by decide +kernel, by decide +kernel⟩, List.mem_of_getElem? (i := 601) (by decide +kernel), List.mem_of_getElem? (i := 753) (by decide +kernel), List.mem_of_getElem? (i := 754) (by decide +kernel)⟩
theorem lw_p20 : lw_okq (⟨"WaveLedgerModel", "make", "(II)V"⟩, 29) := ⟨⟨by decide +kernel, by decide +kernel⟩, List.mem_of_getElem? (i := 601) (by decide +kernel), List.mem_of_getElem? (i := 757) (by decide +kernel), List.mem_of_getElem? (i := 758) (by decide +kernel)⟩
theorem lw_p21 : lw_okq (⟨"WaveLedgerModel", "makeVertex", "(II)V"⟩, 29) := ⟨⟨by decide +kernel, by decide +kernel⟩, List.mem_of_getElem? (i := 601) (by decide +kernel), List.mem_of_getElem? (i := 761) (by decide +kernel), List.mem_of_getElem? (i := 762) (by decide +kernel)⟩
theorem lw_p22 : lw_okq (⟨"WaveLedgerModel", "firstTransfer", "(I)I"⟩, 29) := ⟨⟨by decide +kernel, by decide +kernel⟩, List.mem_of_getElem? (i := 601) (by decide +kernel), List.mem_of_getElem? (i := 765) (by decide +kernel), List.mem_of_getElem? (i := 766) (by decide +kernel)⟩
theorem lw_p23 : lw_okq (⟨"WaveLedgerModel", "newVertex", "(IIJI)I"⟩, 29) := ⟨⟨by decide +kernel, by decide +kernel⟩, List.mem_of_getElem? (i := 601) (by decide +kernel), List.mem_of_getElem? (i := 769) (by decide +kernel), List.mem_of_getElem? (i := 770) (by decide +kernel)⟩
theorem lw_p24 : lw_okq (⟨"WaveLedgerModel", "broadcast", "(III)V"⟩, 29) := ⟨⟨by decide +kernel, by decide +kernel⟩, List.mem_of_getElem? (i := 601) (by decide +kernel), List.mem_of_getElem? (i := 773) (by decide +kernel), List.mem_of_getElem? (i := 774) (by decide +kernel)⟩
theorem lw_p25 : lw_okq (⟨"WaveLedgerModel", "sendOne", "(IIII)V"⟩, 29) := ⟨⟨by decide +kernel, by decide +kernel⟩, List.mem_of_getElem? (i := 601) (by decide +kernel), List.mem_of_getElem? (i := 777) (by decide +kernel), List.mem_of_getElem? (i := 778) (by decide +kernel)⟩
theorem lw_p26 : lw_okq (⟨"WaveLedgerModel", "draw", "(I)I"⟩, 29) := ⟨⟨by decide +kernel, by decide +kernel⟩, List.mem_of_getElem? (i := 601) (by decide +kernel), List.mem_of_getElem? (i := 785) (by decide +kernel), List.mem_of_getElem? (i := 786) (by decide +kernel)⟩
theorem lw_p27 : lw_okq (⟨"WaveLedgerModel", "comes", "(I)V"⟩, 29) := ⟨⟨by decide +kernel, by decide +kernel⟩, List.mem_of_getElem? (i := 601) (by decide +kernel), List.mem_of_getElem? (i := 790) (by decide +kernel), List.mem_of_getElem? (i := 791) (by decide +kernel)⟩
theorem lw_p28 : lw_okq (⟨"WaveLedgerModel", "sendComes", "(IIII)V"⟩, 29) := ⟨⟨by decide +kernel, by decide +kernel⟩, List.mem_of_getElem? (i := 601) (by decide +kernel), List.mem_of_getElem? (i := 794) (by decide +kernel), List.mem_of_getElem? (i := 795) (by decide +kernel)⟩
theorem lw_p29 : lw_okq (⟨"WaveLedgerModel", "echoComes", "(IIII)V"⟩, 29) := ⟨⟨by decide +kernel, by decide +kernel⟩, List.mem_of_getElem? (i := 601) (by decide +kernel), List.mem_of_getElem? (i := 798) (by decide +kernel), List.mem_of_getElem? (i := 799) (by decide +kernel)⟩
theorem lw_p30 : lw_okq (⟨"WaveLedgerModel", "ready", "(III)V"⟩, 29) := ⟨⟨by decide +kernel, by decide +kernel⟩, List.mem_of_getElem? (i := 601) (by decide +kernel), List.mem_of_getElem? (i := 805) (by decide +kernel), List.mem_of_getElem? (i := 806) (by decide +kernel)⟩
theorem lw_p31 : lw_okq (⟨"WaveLedgerModel", "readyComes", "(IIII)V"⟩, 29) := ⟨⟨by decide +kernel, by decide +kernel⟩, List.mem_of_getElem? (i := 601) (by decide +kernel), List.mem_of_getElem? (i := 809) (by decide +kernel), List.mem_of_getElem? (i := 810) (by decide +kernel)⟩
def lw_privs_2 : List (MethodName × Nat) := [(⟨"WaveLedgerModel", "leader", "(I)I"⟩, 29), (⟨"WaveLedgerModel", "below", "(IJZ)J"⟩, 29), (⟨"WaveLedgerModel", "points", "(IZ)J"⟩, 29), (⟨"WaveLedgerModel", "orderBelow", "(II)V"⟩, 29), (⟨"WaveLedgerModel", "make", "(II)V"⟩, 29), (⟨"WaveLedgerModel", "makeVertex", "(II)V"⟩, 29), (⟨"WaveLedgerModel", "firstTransfer", "(I)I"⟩, 29), (⟨"WaveLedgerModel", "newVertex", "(IIJI)I"⟩, 29), (⟨"WaveLedgerModel", "broadcast", "(III)V"⟩, 29), (⟨"WaveLedgerModel", "sendOne", "(IIII)V"⟩, 29), (⟨"WaveLedgerModel", "draw", "(I)I"⟩, 29), (⟨"WaveLedgerModel", "comes", "(I)V"⟩, 29), (⟨"WaveLedgerModel", "sendComes", "(IIII)V"⟩, 29), (⟨"WaveLedgerModel", "echoComes", "(IIII)V"⟩, 29), (⟨"WaveLedgerModel", "ready", "(III)V"⟩, 29), (⟨"WaveLedgerModel", "readyComes", "(IIII)V"⟩, 29)]
theorem lw_r2 : ∀ q ∈ lw_privs_2, lw_okq q := List.forall_mem_cons.mpr ⟨lw_p16, List.forall_mem_cons.mpr ⟨lw_p17, List.forall_mem_cons.mpr ⟨lw_p18, List.forall_mem_cons.mpr ⟨lw_p19, List.forall_mem_cons.mpr ⟨lw_p20, List.forall_mem_cons.mpr ⟨lw_p21, List.forall_mem_cons.mpr ⟨lw_p22, List.forall_mem_cons.mpr ⟨lw_p23, List.forall_mem_cons.mpr ⟨lw_p24, List.forall_mem_cons.mpr ⟨lw_p25, List.forall_mem_cons.mpr ⟨lw_p26, List.forall_mem_cons.mpr ⟨lw_p27, List.forall_mem_cons.mpr ⟨lw_p28, List.forall_mem_cons.mpr ⟨lw_p29, List.forall_mem_cons.mpr ⟨lw_p30, List.forall_mem_cons.mpr ⟨lw_p31, fun _ h => absurd h List.not_mem_nil⟩⟩⟩⟩⟩⟩⟩⟩⟩⟩⟩⟩⟩⟩⟩⟩
theorem lw_p32 : lw_okq (⟨"WaveLedgerModel", "addAll", "(I)V"⟩, 29) := ⟨⟨by decide +kernel, by decide +kernel⟩, List.mem_of_getElem? (i := 601) (by decide +kernel), List.mem_of_getElem? (i := 813) (by decide +kernel), List.mem_of_getElem? (i := 814) (by decide +kernel)⟩
theorem lw_p33 : lw_okq (⟨"WaveLedgerModel", "graphOf", "(I)J"⟩, 29) := ⟨⟨by decide +kernel, by decide +kernel⟩, List.mem_of_getElem? (i := 601) (by decide +kernel), List.mem_of_getElem? (i := 817) (by decide +kernel), List.mem_of_getElem? (i := 818) (by decide +kernel)⟩
theorem lw_p34 : lw_okq (⟨"WaveLedgerModel", "isRight", "(I)Z"⟩, 29) := ⟨⟨by decide +kernel, by decide +kernel⟩, List.mem_of_getElem? (i := 601) (by decide +kernel), List.mem_of_getElem? (i := 821) (by decide +kernel), List.mem_of_getElem? (i := 822) (by decide +kernel)⟩
theorem lw_p35 : lw_okq (⟨"WaveLedgerModel", "graphSize", "(I)I"⟩, 29) := ⟨⟨by decide +kernel, by decide +kernel⟩, List.mem_of_getElem? (i := 601) (by decide +kernel), List.mem_of_getElem? (i := 854) (by decide +kernel), List.mem_of_getElem? (i := 855) (by decide +kernel)⟩
def lw_privs_3 : List (MethodName × Nat) := [(⟨"WaveLedgerModel", "addAll", "(I)V"⟩, 29), (⟨"WaveLedgerModel", "graphOf", "(I)J"⟩, 29), (⟨"WaveLedgerModel", "isRight", "(I)Z"⟩, 29), (⟨"WaveLedgerModel", "graphSize", "(I)I"⟩, 29)]
theorem lw_r3 : ∀ q ∈ lw_privs_3, lw_okq q := List.forall_mem_cons.mpr ⟨lw_p32, List.forall_mem_cons.mpr ⟨lw_p33, List.forall_mem_cons.mpr ⟨lw_p34, List.forall_mem_cons.mpr ⟨lw_p35, fun _ h => absurd h List.not_mem_nil⟩⟩⟩⟩
def lw_privs : List (MethodName × Nat) := lw_privs_1 ++ (lw_privs_2 ++ (lw_privs_3))
def lw_tbl : List Cond := k2_sels lw_privs ++ tables_1
theorem lw_privs_ok : ∀ q ∈ lw_privs, lw_okq q := by
  show ∀ q ∈ lw_privs_1 ++ (lw_privs_2 ++ (lw_privs_3)), lw_okq q
  exact List.forall_mem_append.mpr ⟨lw_r1, List.forall_mem_append.mpr ⟨lw_r2, lw_r3⟩⟩
end
section
/-! names: classes, their fields by the slots, methods -/
def R_Bo : String := "WaveLedger$Book"
def T_Bo : u_T := fun k => match k with
  | 0 => ("WaveLedger$Book", "places", "[I", true)
  | 1 => ("WaveLedger$Book", "balances", "[I", true)
  | 2 => ("WaveLedger$Book", "entered", "J", false)
  | _ => ("WaveLedger$Book", "count", "I", false)
def t_Bo : Nat → FieldType := fun k => match k with
  | 0 => .array .int
  | 1 => .array .int
  | 2 => .long
  | _ => .int
theorem n_Bo : ∀ a, a < 4 → ∀ b, b < 4 → a ≠ b → (T_Bo a).2.1 ≠ (T_Bo b).2.1 := by decide +kernel
theorem t_Bo_ok : ∀ k, k < 4 → parseFieldDescriptor (T_Bo k).2.2.1 = some (t_Bo k) := by decide +kernel
def R_Gr : String := "WaveLedger$Graph"
def T_Gr : u_T := fun k => match k with
  | 0 => ("WaveLedger$Graph", "vertices", "LWaveLedger$Vertices;", true)
  | 1 => ("WaveLedger$Graph", "accepted", "[I", true)
  | 2 => ("WaveLedger$Graph", "paths", "[J", true)
  | 3 => ("WaveLedger$Graph", "strongPaths", "[J", true)
  | _ => ("WaveLedger$Graph", "added", "J", false)
def t_Gr : Nat → FieldType := fun k => match k with
  | 0 => .object "WaveLedger$Vertices"
  | 1 => .array .int
  | 2 => .array .long
  | 3 => .array .long
  | _ => .long
theorem n_Gr : ∀ a, a < 5 → ∀ b, b < 5 → a ≠ b → (T_Gr a).2.1 ≠ (T_Gr b).2.1 := by decide +kernel
theorem t_Gr_ok : ∀ k, k < 5 → parseFieldDescriptor (T_Gr k).2.2.1 = some (t_Gr k) := by decide +kernel
def R_Ma : String := "WaveLedger$Mail"
def T_Ma : u_T := fun k => match k with
  | 0 => ("WaveLedger$Mail", "silent", "I", true)
  | 1 => ("WaveLedger$Mail", "waiting", "[I", true)
  | _ => ("WaveLedger$Mail", "count", "I", false)
def t_Ma : Nat → FieldType := fun k => match k with
  | 0 => .int
  | 1 => .array .int
  | _ => .int
theorem n_Ma : ∀ a, a < 3 → ∀ b, b < 3 → a ≠ b → (T_Ma a).2.1 ≠ (T_Ma b).2.1 := by decide +kernel
theorem t_Ma_ok : ∀ k, k < 3 → parseFieldDescriptor (T_Ma k).2.2.1 = some (t_Ma k) := by decide +kernel
def R_No : String := "WaveLedger$Node"
def T_No : u_T := fun k => match k with
  | 0 => ("WaveLedger$Node", "self", "I", true)
  | 1 => ("WaveLedger$Node", "coins", "I", true)
  | 2 => ("WaveLedger$Node", "vertices", "LWaveLedger$Vertices;", true)
  | 3 => ("WaveLedger$Node", "mail", "LWaveLedger$Mail;", true)
  | 4 => ("WaveLedger$Node", "known", "LWaveLedger$Graph;", true)
  | 5 => ("WaveLedger$Node", "book", "LWaveLedger$Book;", true)
  | 6 => ("WaveLedger$Node", "queue", "LWaveLedger$TransferQueue;", true)
  | 7 => ("WaveLedger$Node", "echoes", "LWaveLedger$Votes;", true)
  | 8 => ("WaveLedger$Node", "readies", "LWaveLedger$Votes;", true)
  | 9 => ("WaveLedger$Node", "leaders", "[I", true)
  | 10 => ("WaveLedger$Node", "echoedPlaces", "J", false)
  | 11 => ("WaveLedger$Node", "readyPlaces", "J", false)
  | 12 => ("WaveLedger$Node", "ownRound", "I", false)
  | 13 => ("WaveLedger$Node", "committed", "I", false)
  | _ => ("WaveLedger$Node", "lastWaveDone", "Z", false)
def t_No : Nat → FieldType := fun k => match k with
  | 0 => .int
  | 1 => .int
  | 2 => .object "WaveLedger$Vertices"
  | 3 => .object "WaveLedger$Mail"
  | 4 => .object "WaveLedger$Graph"
  | 5 => .object "WaveLedger$Book"
  | 6 => .object "WaveLedger$TransferQueue"
  | 7 => .object "WaveLedger$Votes"
  | 8 => .object "WaveLedger$Votes"
  | 9 => .array .int
  | 10 => .long
  | 11 => .long
  | 12 => .int
  | 13 => .int
  | _ => .boolean
theorem n_No : ∀ a, a < 15 → ∀ b, b < 15 → a ≠ b → (T_No a).2.1 ≠ (T_No b).2.1 := by decide +kernel
theorem t_No_ok : ∀ k, k < 15 → parseFieldDescriptor (T_No k).2.2.1 = some (t_No k) := by decide +kernel
def R_Tq : String := "WaveLedger$TransferQueue"
def T_Tq : u_T := fun k => match k with
  | 0 => ("WaveLedger$TransferQueue", "written", "[I", true)
  | _ => ("WaveLedger$TransferQueue", "count", "I", false)
def t_Tq : Nat → FieldType := fun k => match k with
  | 0 => .array .int
  | _ => .int
theorem n_Tq : ∀ a, a < 2 → ∀ b, b < 2 → a ≠ b → (T_Tq a).2.1 ≠ (T_Tq b).2.1 := by decide +kernel
theorem t_Tq_ok : ∀ k, k < 2 → parseFieldDescriptor (T_Tq k).2.2.1 = some (t_Tq k) := by decide +kernel
def R_Ve : String := "WaveLedger$Vertices"
def T_Ve : u_T := fun k => match k with
  | 0 => ("WaveLedger$Vertices", "places", "[I", true)
  | 1 => ("WaveLedger$Vertices", "strongNodes", "[I", true)
  | 2 => ("WaveLedger$Vertices", "weakPlaces", "[J", true)
  | 3 => ("WaveLedger$Vertices", "transfers", "[I", true)
  | _ => ("WaveLedger$Vertices", "made", "I", false)
def t_Ve : Nat → FieldType := fun k => match k with
  | 0 => .array .int
  | 1 => .array .int
  | 2 => .array .long
  | 3 => .array .int
  | _ => .int
theorem n_Ve : ∀ a, a < 5 → ∀ b, b < 5 → a ≠ b → (T_Ve a).2.1 ≠ (T_Ve b).2.1 := by decide +kernel
theorem t_Ve_ok : ∀ k, k < 5 → parseFieldDescriptor (T_Ve k).2.2.1 = some (t_Ve k) := by decide +kernel
def R_Vo : String := "WaveLedger$Votes"
def T_Vo : u_T := fun k => match k with
  | _ => ("WaveLedger$Votes", "votes", "[I", true)
def t_Vo : Nat → FieldType := fun k => match k with
  | _ => .array .int
theorem n_Vo : ∀ a, a < 1 → ∀ b, b < 1 → a ≠ b → (T_Vo a).2.1 ≠ (T_Vo b).2.1 := by decide +kernel
theorem t_Vo_ok : ∀ k, k < 1 → parseFieldDescriptor (T_Vo k).2.2.1 = some (t_Vo k) := by decide +kernel
def R_Wl : String := "WaveLedger"
def T_Wl : u_T := fun k => match k with
  | 0 => ("WaveLedger", "faulty", "I", true)
  | 1 => ("WaveLedger", "vertices", "LWaveLedger$Vertices;", true)
  | 2 => ("WaveLedger", "mail", "LWaveLedger$Mail;", true)
  | 3 => ("WaveLedger", "nodes", "[LWaveLedger$Node;", true)
  | 4 => ("WaveLedger", "drawn", "I", false)
  | 5 => ("WaveLedger", "forged", "I", false)
  | _ => ("WaveLedger", "begun", "Z", false)
def t_Wl : Nat → FieldType := fun k => match k with
  | 0 => .int
  | 1 => .object "WaveLedger$Vertices"
  | 2 => .object "WaveLedger$Mail"
  | 3 => .array (.object "WaveLedger$Node")
  | 4 => .int
  | 5 => .int
  | _ => .boolean
theorem n_Wl : ∀ a, a < 7 → ∀ b, b < 7 → a ≠ b → (T_Wl a).2.1 ≠ (T_Wl b).2.1 := by decide +kernel
theorem t_Wl_ok : ∀ k, k < 7 → parseFieldDescriptor (T_Wl k).2.2.1 = some (t_Wl k) := by decide +kernel
def R_Mo : String := "WaveLedgerModel"
def T_Mo : u_T := fun k => match k with
  | 0 => ("WaveLedgerModel", "refusal", "I", false)
  | 1 => ("WaveLedgerModel", "drawn", "I", false)
  | 2 => ("WaveLedgerModel", "coins", "I", true)
  | 3 => ("WaveLedgerModel", "faulty", "I", true)
  | 4 => ("WaveLedgerModel", "begun", "Z", false)
  | 5 => ("WaveLedgerModel", "vertices", "I", false)
  | 6 => ("WaveLedgerModel", "placeOf", "[I", false)
  | 7 => ("WaveLedgerModel", "strong", "[I", false)
  | 8 => ("WaveLedgerModel", "weakOf", "[J", false)
  | 9 => ("WaveLedgerModel", "transferOf", "[I", false)
  | 10 => ("WaveLedgerModel", "forged", "I", false)
  | 11 => ("WaveLedgerModel", "waiting", "[I", false)
  | 12 => ("WaveLedgerModel", "many", "I", false)
  | 13 => ("WaveLedgerModel", "echoed", "[Z", false)
  | 14 => ("WaveLedgerModel", "readied", "[Z", false)
  | 15 => ("WaveLedgerModel", "accepted", "[I", false)
  | 16 => ("WaveLedgerModel", "inGraph", "[Z", false)
  | 17 => ("WaveLedgerModel", "isOrdered", "[Z", false)
  | 18 => ("WaveLedgerModel", "order", "[I", false)
  | 19 => ("WaveLedgerModel", "echoes", "[I", false)
  | 20 => ("WaveLedgerModel", "readies", "[I", false)
  | 21 => ("WaveLedgerModel", "ownRound", "[I", false)
  | 22 => ("WaveLedgerModel", "finished", "[Z", false)
  | 23 => ("WaveLedgerModel", "committed", "[I", false)
  | 24 => ("WaveLedgerModel", "orderedCount", "[I", false)
  | 25 => ("WaveLedgerModel", "balances", "[I", false)
  | 26 => ("WaveLedgerModel", "queue", "[I", false)
  | 27 => ("WaveLedgerModel", "queued", "[I", false)
  | _ => ("WaveLedgerModel", "list", "[I", false)
def t_Mo : Nat → FieldType := fun k => match k with
  | 0 => .int
  | 1 => .int
  | 2 => .int
  | 3 => .int
  | 4 => .boolean
  | 5 => .int
  | 6 => .array .int
  | 7 => .array .int
  | 8 => .array .long
  | 9 => .array .int
  | 10 => .int
  | 11 => .array .int
  | 12 => .int
  | 13 => .array .boolean
  | 14 => .array .boolean
  | 15 => .array .int
  | 16 => .array .boolean
  | 17 => .array .boolean
  | 18 => .array .int
  | 19 => .array .int
  | 20 => .array .int
  | 21 => .array .int
  | 22 => .array .boolean
  | 23 => .array .int
  | 24 => .array .int
  | 25 => .array .int
  | 26 => .array .int
  | 27 => .array .int
  | _ => .array .int
theorem n_Mo : ∀ a, a < 29 → ∀ b, b < 29 → a ≠ b → (T_Mo a).2.1 ≠ (T_Mo b).2.1 := by decide +kernel
theorem t_Mo_ok : ∀ k, k < 29 → parseFieldDescriptor (T_Mo k).2.2.1 = some (t_Mo k) := by decide +kernel
abbrev vCl : List vw_C := [(R_Bo, T_Bo, 4), (R_Gr, T_Gr, 5), (R_Ma, T_Ma, 3), (R_No, T_No, 15), (R_Tq, T_Tq, 2), (R_Ve, T_Ve, 5), (R_Vo, T_Vo, 1), (R_Wl, T_Wl, 7), (R_Mo, T_Mo, 29)]
abbrev b_Bo_init : ByteArray := prog_2_method_1_code
def y_Bo_init : MethodName := ⟨"WaveLedger$Book", "<init>", "()V"⟩
abbrev b_Bo_enter : ByteArray := prog_2_method_2_code
def y_Bo_enter : MethodName := ⟨"WaveLedger$Book", "enter", "(II)V"⟩
abbrev b_Gr_init : ByteArray := prog_3_method_1_code
def y_Gr_init : MethodName := ⟨"WaveLedger$Graph", "<init>", "(LWaveLedger$Vertices;)V"⟩
abbrev b_Gr_has : ByteArray := prog_3_method_2_code
def y_Gr_has : MethodName := ⟨"WaveLedger$Graph", "has", "(I)Z"⟩
abbrev b_Gr_accept : ByteArray := prog_3_method_3_code
def y_Gr_accept : MethodName := ⟨"WaveLedger$Graph", "accept", "(I)V"⟩
abbrev b_Gr_addIfAllowed : ByteArray := prog_3_method_4_code
def y_Gr_addIfAllowed : MethodName := ⟨"WaveLedger$Graph", "addIfAllowed", "(I)V"⟩
abbrev b_Gr_follow : ByteArray := prog_3_method_5_code
def y_Gr_follow : MethodName := ⟨"WaveLedger$Graph", "follow", "([JJ)J"⟩
abbrev b_Gr_nodesIn : ByteArray := prog_3_method_6_code
def y_Gr_nodesIn : MethodName := ⟨"WaveLedger$Graph", "nodesIn", "(I)I"⟩
abbrev b_Gr_hasQuorumIn : ByteArray := prog_3_method_7_code
def y_Gr_hasQuorumIn : MethodName := ⟨"WaveLedger$Graph", "hasQuorumIn", "(I)Z"⟩
abbrev b_Gr_leadsStrongly : ByteArray := prog_3_method_8_code
def y_Gr_leadsStrongly : MethodName := ⟨"WaveLedger$Graph", "leadsStrongly", "(II)Z"⟩
abbrev b_Gr_supportFrom : ByteArray := prog_3_method_9_code
def y_Gr_supportFrom : MethodName := ⟨"WaveLedger$Graph", "supportFrom", "(II)I"⟩
abbrev b_Gr_weakPlacesFor : ByteArray := prog_3_method_10_code
def y_Gr_weakPlacesFor : MethodName := ⟨"WaveLedger$Graph", "weakPlacesFor", "(I)J"⟩
abbrev b_Ma_init : ByteArray := prog_4_method_1_code
def y_Ma_init : MethodName := ⟨"WaveLedger$Mail", "<init>", "(I)V"⟩
abbrev b_Ma_send : ByteArray := prog_4_method_2_code
def y_Ma_send : MethodName := ⟨"WaveLedger$Mail", "send", "(IIII)V"⟩
abbrev b_Ma_broadcast : ByteArray := prog_4_method_3_code
def y_Ma_broadcast : MethodName := ⟨"WaveLedger$Mail", "broadcast", "(III)V"⟩
abbrev b_Ma_has : ByteArray := prog_4_method_4_code
def y_Ma_has : MethodName := ⟨"WaveLedger$Mail", "has", "(I)Z"⟩
abbrev b_Ma_take : ByteArray := prog_4_method_5_code
def y_Ma_take : MethodName := ⟨"WaveLedger$Mail", "take", "(I)I"⟩
abbrev b_Ma_kindOf : ByteArray := prog_4_method_6_code
def y_Ma_kindOf : MethodName := ⟨"WaveLedger$Mail", "kindOf", "(I)I"⟩
abbrev b_Ma_senderOf : ByteArray := prog_4_method_7_code
def y_Ma_senderOf : MethodName := ⟨"WaveLedger$Mail", "senderOf", "(I)I"⟩
abbrev b_Ma_receiverOf : ByteArray := prog_4_method_8_code
def y_Ma_receiverOf : MethodName := ⟨"WaveLedger$Mail", "receiverOf", "(I)I"⟩
abbrev b_Ma_subjectOf : ByteArray := prog_4_method_9_code
def y_Ma_subjectOf : MethodName := ⟨"WaveLedger$Mail", "subjectOf", "(I)I"⟩
abbrev b_No_init : ByteArray := prog_5_method_1_code
def y_No_init : MethodName := ⟨"WaveLedger$Node", "<init>", "(IILWaveLedger$Vertices;LWaveLedger$Mail;)V"⟩
abbrev b_No_receiveSend : ByteArray := prog_5_method_2_code
def y_No_receiveSend : MethodName := ⟨"WaveLedger$Node", "receiveSend", "(II)V"⟩
abbrev b_No_receiveEcho : ByteArray := prog_5_method_3_code
def y_No_receiveEcho : MethodName := ⟨"WaveLedger$Node", "receiveEcho", "(II)V"⟩
abbrev b_No_receiveReady : ByteArray := prog_5_method_4_code
def y_No_receiveReady : MethodName := ⟨"WaveLedger$Node", "receiveReady", "(II)V"⟩
abbrev b_No_broadcastReadyOnce : ByteArray := prog_5_method_5_code
def y_No_broadcastReadyOnce : MethodName := ⟨"WaveLedger$Node", "broadcastReadyOnce", "(II)V"⟩
abbrev b_No_goOn : ByteArray := prog_5_method_6_code
def y_No_goOn : MethodName := ⟨"WaveLedger$Node", "goOn", "()V"⟩
abbrev b_No_broadcastOwnVertex : ByteArray := prog_5_method_7_code
def y_No_broadcastOwnVertex : MethodName := ⟨"WaveLedger$Node", "broadcastOwnVertex", "()V"⟩
abbrev b_No_mayCommit : ByteArray := prog_5_method_8_code
def y_No_mayCommit : MethodName := ⟨"WaveLedger$Node", "mayCommit", "(I)Z"⟩
abbrev b_No_leaderOf : ByteArray := prog_5_method_9_code
def y_No_leaderOf : MethodName := ⟨"WaveLedger$Node", "leaderOf", "(I)I"⟩
abbrev b_No_commit : ByteArray := prog_5_method_10_code
def y_No_commit : MethodName := ⟨"WaveLedger$Node", "commit", "(I)V"⟩
abbrev b_No_orderFrom : ByteArray := prog_5_method_11_code
def y_No_orderFrom : MethodName := ⟨"WaveLedger$Node", "orderFrom", "(I)V"⟩
abbrev b_Tq_init : ByteArray := prog_6_method_1_code
def y_Tq_init : MethodName := ⟨"WaveLedger$TransferQueue", "<init>", "()V"⟩
abbrev b_Tq_isFull : ByteArray := prog_6_method_2_code
def y_Tq_isFull : MethodName := ⟨"WaveLedger$TransferQueue", "isFull", "()Z"⟩
abbrev b_Tq_append : ByteArray := prog_6_method_3_code
def y_Tq_append : MethodName := ⟨"WaveLedger$TransferQueue", "append", "(I)V"⟩
abbrev b_Tq_takeFirstOrNone : ByteArray := prog_6_method_4_code
def y_Tq_takeFirstOrNone : MethodName := ⟨"WaveLedger$TransferQueue", "takeFirstOrNone", "()I"⟩
abbrev b_Ve_init : ByteArray := prog_7_method_1_code
def y_Ve_init : MethodName := ⟨"WaveLedger$Vertices", "<init>", "()V"⟩
abbrev b_Ve_make : ByteArray := prog_7_method_2_code
def y_Ve_make : MethodName := ⟨"WaveLedger$Vertices", "make", "(IIJI)I"⟩
abbrev b_Ve_has : ByteArray := prog_7_method_3_code
def y_Ve_has : MethodName := ⟨"WaveLedger$Vertices", "has", "(I)Z"⟩
abbrev b_Ve_sourceOf : ByteArray := prog_7_method_4_code
def y_Ve_sourceOf : MethodName := ⟨"WaveLedger$Vertices", "sourceOf", "(I)I"⟩
abbrev b_Ve_isRight : ByteArray := prog_7_method_5_code
def y_Ve_isRight : MethodName := ⟨"WaveLedger$Vertices", "isRight", "(I)Z"⟩
abbrev b_Ve_strongPlacesOf : ByteArray := prog_7_method_6_code
def y_Ve_strongPlacesOf : MethodName := ⟨"WaveLedger$Vertices", "strongPlacesOf", "(I)J"⟩
abbrev b_Vo_init : ByteArray := prog_8_method_1_code
def y_Vo_init : MethodName := ⟨"WaveLedger$Votes", "<init>", "()V"⟩
abbrev b_Vo_note : ByteArray := prog_8_method_2_code
def y_Vo_note : MethodName := ⟨"WaveLedger$Votes", "note", "(III)I"⟩
abbrev b_Wl_init : ByteArray := prog_1_method_1_code
def y_Wl_init : MethodName := ⟨"WaveLedger", "<init>", "(III)V"⟩
abbrev b_Wl_transfer : ByteArray := prog_1_method_2_code
def y_Wl_transfer : MethodName := ⟨"WaveLedger", "transfer", "(IIII)I"⟩
abbrev b_Wl_begin : ByteArray := prog_1_method_3_code
def y_Wl_begin : MethodName := ⟨"WaveLedger", "begin", "()Z"⟩
abbrev b_Wl_run : ByteArray := prog_1_method_4_code
def y_Wl_run : MethodName := ⟨"WaveLedger", "run", "(I)I"⟩
abbrev b_Wl_deliver : ByteArray := prog_1_method_5_code
def y_Wl_deliver : MethodName := ⟨"WaveLedger", "deliver", "(I)Z"⟩
abbrev b_Wl_forge : ByteArray := prog_1_method_6_code
def y_Wl_forge : MethodName := ⟨"WaveLedger", "forge", "(IIJI)I"⟩
abbrev b_Wl_whisper : ByteArray := prog_1_method_7_code
def y_Wl_whisper : MethodName := ⟨"WaveLedger", "whisper", "(III)I"⟩
abbrev b_Wl_message : ByteArray := prog_1_method_8_code
def y_Wl_message : MethodName := ⟨"WaveLedger", "message", "(II)I"⟩
abbrev b_Wl_vertex : ByteArray := prog_1_method_9_code
def y_Wl_vertex : MethodName := ⟨"WaveLedger", "vertex", "(II)I"⟩
abbrev b_Wl_weak : ByteArray := prog_1_method_10_code
def y_Wl_weak : MethodName := ⟨"WaveLedger", "weak", "(I)J"⟩
abbrev b_Wl_node : ByteArray := prog_1_method_11_code
def y_Wl_node : MethodName := ⟨"WaveLedger", "node", "(II)I"⟩
abbrev b_Wl_graph : ByteArray := prog_1_method_12_code
def y_Wl_graph : MethodName := ⟨"WaveLedger", "graph", "(II)I"⟩
abbrev b_Wl_ordered : ByteArray := prog_1_method_13_code
def y_Wl_ordered : MethodName := ⟨"WaveLedger", "ordered", "(II)I"⟩
abbrev b_Wl_arrive : ByteArray := prog_1_method_14_code
def y_Wl_arrive : MethodName := ⟨"WaveLedger", "arrive", "(I)V"⟩
abbrev b_Wl_isActive : ByteArray := prog_1_method_15_code
def y_Wl_isActive : MethodName := ⟨"WaveLedger", "isActive", "(I)Z"⟩
abbrev b_Wl_isNode : ByteArray := prog_1_method_16_code
def y_Wl_isNode : MethodName := ⟨"WaveLedger", "isNode", "(I)Z"⟩
abbrev b_Wl_isAccount : ByteArray := prog_1_method_17_code
def y_Wl_isAccount : MethodName := ⟨"WaveLedger", "isAccount", "(I)Z"⟩
abbrev b_Wl_isTransferOrNone : ByteArray := prog_1_method_18_code
def y_Wl_isTransferOrNone : MethodName := ⟨"WaveLedger", "isTransferOrNone", "(I)Z"⟩
abbrev b_Wl_payerOf : ByteArray := prog_1_method_19_code
def y_Wl_payerOf : MethodName := ⟨"WaveLedger", "payerOf", "(I)I"⟩
abbrev b_Wl_payeeOf : ByteArray := prog_1_method_20_code
def y_Wl_payeeOf : MethodName := ⟨"WaveLedger", "payeeOf", "(I)I"⟩
abbrev b_Wl_numberOf : ByteArray := prog_1_method_21_code
def y_Wl_numberOf : MethodName := ⟨"WaveLedger", "numberOf", "(II)I"⟩
abbrev b_Wl_roundOf : ByteArray := prog_1_method_22_code
def y_Wl_roundOf : MethodName := ⟨"WaveLedger", "roundOf", "(I)I"⟩
abbrev b_Wl_bitOf : ByteArray := prog_1_method_23_code
def y_Wl_bitOf : MethodName := ⟨"WaveLedger", "bitOf", "(I)J"⟩
abbrev b_Wl_contains : ByteArray := prog_1_method_24_code
def y_Wl_contains : MethodName := ⟨"WaveLedger", "contains", "(JI)Z"⟩
abbrev b_Mo_init : ByteArray := prog_10_method_1_code
def y_Mo_init : MethodName := ⟨"WaveLedgerModel", "<init>", "(III)V"⟩
abbrev b_Mo_thrown : ByteArray := prog_10_method_2_code
def y_Mo_thrown : MethodName := ⟨"WaveLedgerModel", "thrown", "()I"⟩
abbrev b_Mo_refuse : ByteArray := prog_10_method_3_code
def y_Mo_refuse : MethodName := ⟨"WaveLedgerModel", "refuse", "(I)I"⟩
abbrev b_Mo_isNode : ByteArray := prog_10_method_4_code
def y_Mo_isNode : MethodName := ⟨"WaveLedgerModel", "isNode", "(I)Z"⟩
abbrev b_Mo_isFaulty : ByteArray := prog_10_method_5_code
def y_Mo_isFaulty : MethodName := ⟨"WaveLedgerModel", "isFaulty", "(I)Z"⟩
abbrev b_Mo_draw : ByteArray := prog_10_method_6_code
def y_Mo_draw : MethodName := ⟨"WaveLedgerModel", "draw", "(I)I"⟩
abbrev b_Mo_sendOne : ByteArray := prog_10_method_7_code
def y_Mo_sendOne : MethodName := ⟨"WaveLedgerModel", "sendOne", "(IIII)V"⟩
abbrev b_Mo_broadcast : ByteArray := prog_10_method_8_code
def y_Mo_broadcast : MethodName := ⟨"WaveLedgerModel", "broadcast", "(III)V"⟩
abbrev b_Mo_comes : ByteArray := prog_10_method_9_code
def y_Mo_comes : MethodName := ⟨"WaveLedgerModel", "comes", "(I)V"⟩
abbrev b_Mo_sendComes : ByteArray := prog_10_method_10_code
def y_Mo_sendComes : MethodName := ⟨"WaveLedgerModel", "sendComes", "(IIII)V"⟩
abbrev b_Mo_noted : ByteArray := prog_10_method_11_code
def y_Mo_noted : MethodName := ⟨"WaveLedgerModel", "noted", "([III)I"⟩
abbrev b_Mo_ready : ByteArray := prog_10_method_12_code
def y_Mo_ready : MethodName := ⟨"WaveLedgerModel", "ready", "(III)V"⟩
abbrev b_Mo_echoComes : ByteArray := prog_10_method_13_code
def y_Mo_echoComes : MethodName := ⟨"WaveLedgerModel", "echoComes", "(IIII)V"⟩
abbrev b_Mo_readyComes : ByteArray := prog_10_method_14_code
def y_Mo_readyComes : MethodName := ⟨"WaveLedgerModel", "readyComes", "(IIII)V"⟩
abbrev b_Mo_bits : ByteArray := prog_10_method_15_code
def y_Mo_bits : MethodName := ⟨"WaveLedgerModel", "bits", "(I)I"⟩
abbrev b_Mo_isRight : ByteArray := prog_10_method_16_code
def y_Mo_isRight : MethodName := ⟨"WaveLedgerModel", "isRight", "(I)Z"⟩
abbrev b_Mo_points : ByteArray := prog_10_method_17_code
def y_Mo_points : MethodName := ⟨"WaveLedgerModel", "points", "(IZ)J"⟩
abbrev b_Mo_graphOf : ByteArray := prog_10_method_18_code
def y_Mo_graphOf : MethodName := ⟨"WaveLedgerModel", "graphOf", "(I)J"⟩
abbrev b_Mo_addAll : ByteArray := prog_10_method_19_code
def y_Mo_addAll : MethodName := ⟨"WaveLedgerModel", "addAll", "(I)V"⟩
abbrev b_Mo_below : ByteArray := prog_10_method_20_code
def y_Mo_below : MethodName := ⟨"WaveLedgerModel", "below", "(IJZ)J"⟩
abbrev b_Mo_inRound : ByteArray := prog_10_method_21_code
def y_Mo_inRound : MethodName := ⟨"WaveLedgerModel", "inRound", "(II)I"⟩
abbrev b_Mo_leader : ByteArray := prog_10_method_22_code
def y_Mo_leader : MethodName := ⟨"WaveLedgerModel", "leader", "(I)I"⟩
abbrev b_Mo_done : ByteArray := prog_10_method_23_code
def y_Mo_done : MethodName := ⟨"WaveLedgerModel", "done", "(II)V"⟩
abbrev b_Mo_orderBelow : ByteArray := prog_10_method_24_code
def y_Mo_orderBelow : MethodName := ⟨"WaveLedgerModel", "orderBelow", "(II)V"⟩
abbrev b_Mo_make : ByteArray := prog_10_method_25_code
def y_Mo_make : MethodName := ⟨"WaveLedgerModel", "make", "(II)V"⟩
abbrev b_Mo_newVertex : ByteArray := prog_10_method_26_code
def y_Mo_newVertex : MethodName := ⟨"WaveLedgerModel", "newVertex", "(IIJI)I"⟩
abbrev b_Mo_firstTransfer : ByteArray := prog_10_method_27_code
def y_Mo_firstTransfer : MethodName := ⟨"WaveLedgerModel", "firstTransfer", "(I)I"⟩
abbrev b_Mo_makeVertex : ByteArray := prog_10_method_28_code
def y_Mo_makeVertex : MethodName := ⟨"WaveLedgerModel", "makeVertex", "(II)V"⟩
abbrev b_Mo_isFull : ByteArray := prog_10_method_29_code
def y_Mo_isFull : MethodName := ⟨"WaveLedgerModel", "isFull", "(I)Z"⟩
abbrev b_Mo_goesOn : ByteArray := prog_10_method_30_code
def y_Mo_goesOn : MethodName := ⟨"WaveLedgerModel", "goesOn", "(I)V"⟩
abbrev b_Mo_isTransfer : ByteArray := prog_10_method_31_code
def y_Mo_isTransfer : MethodName := ⟨"WaveLedgerModel", "isTransfer", "(III)Z"⟩
abbrev b_Mo_transfer : ByteArray := prog_10_method_32_code
def y_Mo_transfer : MethodName := ⟨"WaveLedgerModel", "transfer", "(IIII)I"⟩
abbrev b_Mo_begin : ByteArray := prog_10_method_33_code
def y_Mo_begin : MethodName := ⟨"WaveLedgerModel", "begin", "()Z"⟩
abbrev b_Mo_run : ByteArray := prog_10_method_34_code
def y_Mo_run : MethodName := ⟨"WaveLedgerModel", "run", "(I)I"⟩
abbrev b_Mo_deliver : ByteArray := prog_10_method_35_code
def y_Mo_deliver : MethodName := ⟨"WaveLedgerModel", "deliver", "(I)Z"⟩
abbrev b_Mo_forge : ByteArray := prog_10_method_36_code
def y_Mo_forge : MethodName := ⟨"WaveLedgerModel", "forge", "(IIJI)I"⟩
abbrev b_Mo_whisper : ByteArray := prog_10_method_37_code
def y_Mo_whisper : MethodName := ⟨"WaveLedgerModel", "whisper", "(III)I"⟩
abbrev b_Mo_message : ByteArray := prog_10_method_38_code
def y_Mo_message : MethodName := ⟨"WaveLedgerModel", "message", "(II)I"⟩
abbrev b_Mo_vertex : ByteArray := prog_10_method_39_code
def y_Mo_vertex : MethodName := ⟨"WaveLedgerModel", "vertex", "(II)I"⟩
abbrev b_Mo_weak : ByteArray := prog_10_method_40_code
def y_Mo_weak : MethodName := ⟨"WaveLedgerModel", "weak", "(I)J"⟩
abbrev b_Mo_graphSize : ByteArray := prog_10_method_41_code
def y_Mo_graphSize : MethodName := ⟨"WaveLedgerModel", "graphSize", "(I)I"⟩
abbrev b_Mo_node : ByteArray := prog_10_method_42_code
def y_Mo_node : MethodName := ⟨"WaveLedgerModel", "node", "(II)I"⟩
abbrev b_Mo_graph : ByteArray := prog_10_method_43_code
def y_Mo_graph : MethodName := ⟨"WaveLedgerModel", "graph", "(II)I"⟩
abbrev b_Mo_ordered : ByteArray := prog_10_method_44_code
def y_Mo_ordered : MethodName := ⟨"WaveLedgerModel", "ordered", "(II)I"⟩
abbrev b_La_cell : ByteArray := method_2_code
def y_La_cell : MethodName := ⟨"WaveLedgerLaw", "cell", "([II)I"⟩
abbrev b_La_transfer : ByteArray := method_3_code
def y_La_transfer : MethodName := ⟨"WaveLedgerLaw", "transfer", "(LWaveLedger;IIII[J)I"⟩
abbrev b_La_run : ByteArray := method_4_code
def y_La_run : MethodName := ⟨"WaveLedgerLaw", "run", "(LWaveLedger;I[J)I"⟩
abbrev b_La_forge : ByteArray := method_5_code
def y_La_forge : MethodName := ⟨"WaveLedgerLaw", "forge", "(LWaveLedger;IIJI[J)I"⟩
abbrev b_La_whisper : ByteArray := method_6_code
def y_La_whisper : MethodName := ⟨"WaveLedgerLaw", "whisper", "(LWaveLedger;III[J)I"⟩
abbrev b_La_law : ByteArray := code
def y_La_law : MethodName := ⟨"WaveLedgerLaw", "law", "([I)Z"⟩
abbrev b_In_bitCount : ByteArray := prog_14_method_49_code
def y_In_bitCount : MethodName := ⟨"java/lang/Integer", "bitCount", "(I)I"⟩
abbrev b_Lo_bitCount : ByteArray := prog_15_method_50_code
def y_Lo_bitCount : MethodName := ⟨"java/lang/Long", "bitCount", "(J)I"⟩
end
section
theorem d_Bo_init_0 : decode b_Bo_init 0 = .ok (.aload_n 0, 1) := by decide +kernel
theorem d_Bo_init_1 : decode b_Bo_init 1 = .ok (.invokespecial 3, 3) := by decide +kernel
theorem d_Bo_init_4 : decode b_Bo_init 4 = .ok (.aload_n 0, 1) := by decide +kernel
theorem d_Bo_init_5 : decode b_Bo_init 5 = .ok (.bipush 48, 2) := by decide +kernel
theorem d_Bo_init_7 : decode b_Bo_init 7 = .ok (.newarray .int, 2) := by decide +kernel
theorem d_Bo_init_9 : decode b_Bo_init 9 = .ok (.putfield 9, 3) := by decide +kernel
theorem d_Bo_init_12 : decode b_Bo_init 12 = .ok (.aload_n 0, 1) := by decide +kernel
theorem d_Bo_init_13 : decode b_Bo_init 13 = .ok (.iconst 4, 1) := by decide +kernel
theorem d_Bo_init_14 : decode b_Bo_init 14 = .ok (.newarray .int, 2) := by decide +kernel
theorem d_Bo_init_16 : decode b_Bo_init 16 = .ok (.putfield 15, 3) := by decide +kernel
theorem d_Bo_init_19 : decode b_Bo_init 19 = .ok (.iconst 0, 1) := by decide +kernel
theorem d_Bo_init_20 : decode b_Bo_init 20 = .ok (.istore_n 1, 1) := by decide +kernel
theorem d_Bo_init_21 : decode b_Bo_init 21 = .ok (.iload_n 1, 1) := by decide +kernel
theorem d_Bo_init_22 : decode b_Bo_init 22 = .ok (.iconst 4, 1) := by decide +kernel
theorem d_Bo_init_23 : decode b_Bo_init 23 = .ok (.if_icmp .ge 17, 3) := by decide +kernel
theorem d_Bo_init_26 : decode b_Bo_init 26 = .ok (.aload_n 0, 1) := by decide +kernel
theorem d_Bo_init_27 : decode b_Bo_init 27 = .ok (.getfield 15, 3) := by decide +kernel
theorem d_Bo_init_30 : decode b_Bo_init 30 = .ok (.iload_n 1, 1) := by decide +kernel
theorem d_Bo_init_31 : decode b_Bo_init 31 = .ok (.bipush 100, 2) := by decide +kernel
theorem d_Bo_init_33 : decode b_Bo_init 33 = .ok (.iastore, 1) := by decide +kernel
theorem d_Bo_init_34 : decode b_Bo_init 34 = .ok (.iinc 1 1, 3) := by decide +kernel
theorem d_Bo_init_37 : decode b_Bo_init 37 = .ok (.goto (-16), 3) := by decide +kernel
theorem d_Bo_init_40 : decode b_Bo_init 40 = .ok (.return_, 1) := by decide +kernel
theorem d_Bo_enter_0 : decode b_Bo_enter 0 = .ok (.aload_n 0, 1) := by decide +kernel
theorem d_Bo_enter_1 : decode b_Bo_enter 1 = .ok (.getfield 9, 3) := by decide +kernel
theorem d_Bo_enter_4 : decode b_Bo_enter 4 = .ok (.aload_n 0, 1) := by decide +kernel
theorem d_Bo_enter_5 : decode b_Bo_enter 5 = .ok (.getfield 18, 3) := by decide +kernel
theorem d_Bo_enter_8 : decode b_Bo_enter 8 = .ok (.iload_n 1, 1) := by decide +kernel
theorem d_Bo_enter_9 : decode b_Bo_enter 9 = .ok (.iastore, 1) := by decide +kernel
theorem d_Bo_enter_10 : decode b_Bo_enter 10 = .ok (.aload_n 0, 1) := by decide +kernel
theorem d_Bo_enter_11 : decode b_Bo_enter 11 = .ok (.dup, 1) := by decide +kernel
theorem d_Bo_enter_12 : decode b_Bo_enter 12 = .ok (.getfield 18, 3) := by decide +kernel
theorem d_Bo_enter_15 : decode b_Bo_enter 15 = .ok (.iconst 1, 1) := by decide +kernel
theorem d_Bo_enter_16 : decode b_Bo_enter 16 = .ok (.iadd, 1) := by decide +kernel
theorem d_Bo_enter_17 : decode b_Bo_enter 17 = .ok (.putfield 18, 3) := by decide +kernel
theorem d_Bo_enter_20 : decode b_Bo_enter 20 = .ok (.aload_n 0, 1) := by decide +kernel
theorem d_Bo_enter_21 : decode b_Bo_enter 21 = .ok (.dup, 1) := by decide +kernel
theorem d_Bo_enter_22 : decode b_Bo_enter 22 = .ok (.getfield 22, 3) := by decide +kernel
theorem d_Bo_enter_25 : decode b_Bo_enter 25 = .ok (.iload_n 1, 1) := by decide +kernel
theorem d_Bo_enter_26 : decode b_Bo_enter 26 = .ok (.invokestatic 26, 3) := by decide +kernel
theorem d_Bo_enter_29 : decode b_Bo_enter 29 = .ok (.lor, 1) := by decide +kernel
theorem d_Bo_enter_30 : decode b_Bo_enter 30 = .ok (.putfield 22, 3) := by decide +kernel
theorem d_Bo_enter_33 : decode b_Bo_enter 33 = .ok (.iload_n 2, 1) := by decide +kernel
theorem d_Bo_enter_34 : decode b_Bo_enter 34 = .ok (.sipush 1000, 3) := by decide +kernel
theorem d_Bo_enter_37 : decode b_Bo_enter 37 = .ok (.idiv, 1) := by decide +kernel
theorem d_Bo_enter_38 : decode b_Bo_enter 38 = .ok (.istore_n 3, 1) := by decide +kernel
theorem d_Bo_enter_39 : decode b_Bo_enter 39 = .ok (.aload_n 0, 1) := by decide +kernel
theorem d_Bo_enter_40 : decode b_Bo_enter 40 = .ok (.getfield 15, 3) := by decide +kernel
theorem d_Bo_enter_43 : decode b_Bo_enter 43 = .ok (.iload_n 2, 1) := by decide +kernel
theorem d_Bo_enter_44 : decode b_Bo_enter 44 = .ok (.invokestatic 30, 3) := by decide +kernel
theorem d_Bo_enter_47 : decode b_Bo_enter 47 = .ok (.iaload, 1) := by decide +kernel
theorem d_Bo_enter_48 : decode b_Bo_enter 48 = .ok (.iload_n 3, 1) := by decide +kernel
theorem d_Bo_enter_49 : decode b_Bo_enter 49 = .ok (.if_icmp .lt 29, 3) := by decide +kernel
theorem d_Bo_enter_52 : decode b_Bo_enter 52 = .ok (.aload_n 0, 1) := by decide +kernel
theorem d_Bo_enter_53 : decode b_Bo_enter 53 = .ok (.getfield 15, 3) := by decide +kernel
theorem d_Bo_enter_56 : decode b_Bo_enter 56 = .ok (.iload_n 2, 1) := by decide +kernel
theorem d_Bo_enter_57 : decode b_Bo_enter 57 = .ok (.invokestatic 30, 3) := by decide +kernel
theorem d_Bo_enter_60 : decode b_Bo_enter 60 = .ok (.dup2, 1) := by decide +kernel
theorem d_Bo_enter_61 : decode b_Bo_enter 61 = .ok (.iaload, 1) := by decide +kernel
theorem d_Bo_enter_62 : decode b_Bo_enter 62 = .ok (.iload_n 3, 1) := by decide +kernel
theorem d_Bo_enter_63 : decode b_Bo_enter 63 = .ok (.isub, 1) := by decide +kernel
theorem d_Bo_enter_64 : decode b_Bo_enter 64 = .ok (.iastore, 1) := by decide +kernel
theorem d_Bo_enter_65 : decode b_Bo_enter 65 = .ok (.aload_n 0, 1) := by decide +kernel
theorem d_Bo_enter_66 : decode b_Bo_enter 66 = .ok (.getfield 15, 3) := by decide +kernel
theorem d_Bo_enter_69 : decode b_Bo_enter 69 = .ok (.iload_n 2, 1) := by decide +kernel
theorem d_Bo_enter_70 : decode b_Bo_enter 70 = .ok (.invokestatic 34, 3) := by decide +kernel
theorem d_Bo_enter_73 : decode b_Bo_enter 73 = .ok (.dup2, 1) := by decide +kernel
theorem d_Bo_enter_74 : decode b_Bo_enter 74 = .ok (.iaload, 1) := by decide +kernel
theorem d_Bo_enter_75 : decode b_Bo_enter 75 = .ok (.iload_n 3, 1) := by decide +kernel
theorem d_Bo_enter_76 : decode b_Bo_enter 76 = .ok (.iadd, 1) := by decide +kernel
theorem d_Bo_enter_77 : decode b_Bo_enter 77 = .ok (.iastore, 1) := by decide +kernel
theorem d_Bo_enter_78 : decode b_Bo_enter 78 = .ok (.return_, 1) := by decide +kernel
theorem d_Gr_init_0 : decode b_Gr_init 0 = .ok (.aload_n 0, 1) := by decide +kernel
theorem d_Gr_init_1 : decode b_Gr_init 1 = .ok (.invokespecial 3, 3) := by decide +kernel
theorem d_Gr_init_4 : decode b_Gr_init 4 = .ok (.aload_n 0, 1) := by decide +kernel
theorem d_Gr_init_5 : decode b_Gr_init 5 = .ok (.bipush 48, 2) := by decide +kernel
theorem d_Gr_init_7 : decode b_Gr_init 7 = .ok (.newarray .int, 2) := by decide +kernel
theorem d_Gr_init_9 : decode b_Gr_init 9 = .ok (.putfield 9, 3) := by decide +kernel
theorem d_Gr_init_12 : decode b_Gr_init 12 = .ok (.aload_n 0, 1) := by decide +kernel
theorem d_Gr_init_13 : decode b_Gr_init 13 = .ok (.bipush 48, 2) := by decide +kernel
theorem d_Gr_init_15 : decode b_Gr_init 15 = .ok (.newarray .long, 2) := by decide +kernel
theorem d_Gr_init_17 : decode b_Gr_init 17 = .ok (.putfield 15, 3) := by decide +kernel
theorem d_Gr_init_20 : decode b_Gr_init 20 = .ok (.aload_n 0, 1) := by decide +kernel
theorem d_Gr_init_21 : decode b_Gr_init 21 = .ok (.bipush 48, 2) := by decide +kernel
theorem d_Gr_init_23 : decode b_Gr_init 23 = .ok (.newarray .long, 2) := by decide +kernel
theorem d_Gr_init_25 : decode b_Gr_init 25 = .ok (.putfield 19, 3) := by decide +kernel
theorem d_Gr_init_28 : decode b_Gr_init 28 = .ok (.aload_n 0, 1) := by decide +kernel
theorem d_Gr_init_29 : decode b_Gr_init 29 = .ok (.aload_n 1, 1) := by decide +kernel
theorem d_Gr_init_30 : decode b_Gr_init 30 = .ok (.putfield 22, 3) := by decide +kernel
theorem d_Gr_init_33 : decode b_Gr_init 33 = .ok (.return_, 1) := by decide +kernel
theorem d_Gr_has_0 : decode b_Gr_has 0 = .ok (.aload_n 0, 1) := by decide +kernel
theorem d_Gr_has_1 : decode b_Gr_has 1 = .ok (.getfield 26, 3) := by decide +kernel
theorem d_Gr_has_4 : decode b_Gr_has 4 = .ok (.iload_n 1, 1) := by decide +kernel
theorem d_Gr_has_5 : decode b_Gr_has 5 = .ok (.invokestatic 30, 3) := by decide +kernel
theorem d_Gr_has_8 : decode b_Gr_has 8 = .ok (.ireturn, 1) := by decide +kernel
theorem d_Gr_accept_0 : decode b_Gr_accept 0 = .ok (.aload_n 0, 1) := by decide +kernel
theorem d_Gr_accept_1 : decode b_Gr_accept 1 = .ok (.getfield 9, 3) := by decide +kernel
theorem d_Gr_accept_4 : decode b_Gr_accept 4 = .ok (.aload_n 0, 1) := by decide +kernel
theorem d_Gr_accept_5 : decode b_Gr_accept 5 = .ok (.getfield 22, 3) := by decide +kernel
theorem d_Gr_accept_8 : decode b_Gr_accept 8 = .ok (.getfield 34, 3) := by decide +kernel
theorem d_Gr_accept_11 : decode b_Gr_accept 11 = .ok (.iload_n 1, 1) := by decide +kernel
theorem d_Gr_accept_12 : decode b_Gr_accept 12 = .ok (.iaload, 1) := by decide +kernel
theorem d_Gr_accept_13 : decode b_Gr_accept 13 = .ok (.iload_n 1, 1) := by decide +kernel
theorem d_Gr_accept_14 : decode b_Gr_accept 14 = .ok (.iastore, 1) := by decide +kernel
theorem d_Gr_accept_15 : decode b_Gr_accept 15 = .ok (.iconst 0, 1) := by decide +kernel
theorem d_Gr_accept_16 : decode b_Gr_accept 16 = .ok (.istore_n 2, 1) := by decide +kernel
theorem d_Gr_accept_17 : decode b_Gr_accept 17 = .ok (.iload_n 2, 1) := by decide +kernel
theorem d_Gr_accept_18 : decode b_Gr_accept 18 = .ok (.bipush 48, 2) := by decide +kernel
theorem d_Gr_accept_20 : decode b_Gr_accept 20 = .ok (.if_icmp .ge 31, 3) := by decide +kernel
theorem d_Gr_accept_23 : decode b_Gr_accept 23 = .ok (.aload_n 0, 1) := by decide +kernel
theorem d_Gr_accept_24 : decode b_Gr_accept 24 = .ok (.getfield 9, 3) := by decide +kernel
theorem d_Gr_accept_27 : decode b_Gr_accept 27 = .ok (.iload_n 2, 1) := by decide +kernel
theorem d_Gr_accept_28 : decode b_Gr_accept 28 = .ok (.iaload, 1) := by decide +kernel
theorem d_Gr_accept_29 : decode b_Gr_accept 29 = .ok (.ifCond .eq 16, 3) := by decide +kernel
theorem d_Gr_accept_32 : decode b_Gr_accept 32 = .ok (.aload_n 0, 1) := by decide +kernel
theorem d_Gr_accept_33 : decode b_Gr_accept 33 = .ok (.iload_n 2, 1) := by decide +kernel
theorem d_Gr_accept_34 : decode b_Gr_accept 34 = .ok (.invokevirtual 39, 3) := by decide +kernel
theorem d_Gr_accept_37 : decode b_Gr_accept 37 = .ok (.ifCond .ne 8, 3) := by decide +kernel
theorem d_Gr_accept_40 : decode b_Gr_accept 40 = .ok (.aload_n 0, 1) := by decide +kernel
theorem d_Gr_accept_41 : decode b_Gr_accept 41 = .ok (.iload_n 2, 1) := by decide +kernel
theorem d_Gr_accept_42 : decode b_Gr_accept 42 = .ok (.invokevirtual 43, 3) := by decide +kernel
theorem d_Gr_accept_45 : decode b_Gr_accept 45 = .ok (.iinc 2 1, 3) := by decide +kernel
theorem d_Gr_accept_48 : decode b_Gr_accept 48 = .ok (.goto (-31), 3) := by decide +kernel
theorem d_Gr_accept_51 : decode b_Gr_accept 51 = .ok (.return_, 1) := by decide +kernel
theorem d_Gr_addIfAllowed_0 : decode b_Gr_addIfAllowed 0 = .ok (.aload_n 0, 1) := by decide +kernel
theorem d_Gr_addIfAllowed_1 : decode b_Gr_addIfAllowed 1 = .ok (.getfield 9, 3) := by decide +kernel
theorem d_Gr_addIfAllowed_4 : decode b_Gr_addIfAllowed 4 = .ok (.iload_n 1, 1) := by decide +kernel
theorem d_Gr_addIfAllowed_5 : decode b_Gr_addIfAllowed 5 = .ok (.iaload, 1) := by decide +kernel
theorem d_Gr_addIfAllowed_6 : decode b_Gr_addIfAllowed 6 = .ok (.istore_n 2, 1) := by decide +kernel
theorem d_Gr_addIfAllowed_7 : decode b_Gr_addIfAllowed 7 = .ok (.aload_n 0, 1) := by decide +kernel
theorem d_Gr_addIfAllowed_8 : decode b_Gr_addIfAllowed 8 = .ok (.getfield 22, 3) := by decide +kernel
theorem d_Gr_addIfAllowed_11 : decode b_Gr_addIfAllowed 11 = .ok (.iload_n 2, 1) := by decide +kernel
theorem d_Gr_addIfAllowed_12 : decode b_Gr_addIfAllowed 12 = .ok (.invokevirtual 47, 3) := by decide +kernel
theorem d_Gr_addIfAllowed_15 : decode b_Gr_addIfAllowed 15 = .ok (.ifCond .ne 4, 3) := by decide +kernel
theorem d_Gr_addIfAllowed_18 : decode b_Gr_addIfAllowed 18 = .ok (.return_, 1) := by decide +kernel
theorem d_Gr_addIfAllowed_19 : decode b_Gr_addIfAllowed 19 = .ok (.aload_n 0, 1) := by decide +kernel
theorem d_Gr_addIfAllowed_20 : decode b_Gr_addIfAllowed 20 = .ok (.getfield 22, 3) := by decide +kernel
theorem d_Gr_addIfAllowed_23 : decode b_Gr_addIfAllowed 23 = .ok (.iload_n 2, 1) := by decide +kernel
theorem d_Gr_addIfAllowed_24 : decode b_Gr_addIfAllowed 24 = .ok (.invokevirtual 50, 3) := by decide +kernel
theorem d_Gr_addIfAllowed_27 : decode b_Gr_addIfAllowed 27 = .ok (.lstore_n 3, 1) := by decide +kernel
theorem d_Gr_addIfAllowed_28 : decode b_Gr_addIfAllowed 28 = .ok (.lload_n 3, 1) := by decide +kernel
theorem d_Gr_addIfAllowed_29 : decode b_Gr_addIfAllowed 29 = .ok (.aload_n 0, 1) := by decide +kernel
theorem d_Gr_addIfAllowed_30 : decode b_Gr_addIfAllowed 30 = .ok (.getfield 22, 3) := by decide +kernel
theorem d_Gr_addIfAllowed_33 : decode b_Gr_addIfAllowed 33 = .ok (.getfield 54, 3) := by decide +kernel
theorem d_Gr_addIfAllowed_36 : decode b_Gr_addIfAllowed 36 = .ok (.iload_n 2, 1) := by decide +kernel
theorem d_Gr_addIfAllowed_37 : decode b_Gr_addIfAllowed 37 = .ok (.laload, 1) := by decide +kernel
theorem d_Gr_addIfAllowed_38 : decode b_Gr_addIfAllowed 38 = .ok (.lor, 1) := by decide +kernel
theorem d_Gr_addIfAllowed_39 : decode b_Gr_addIfAllowed 39 = .ok (.lstore 5, 2) := by decide +kernel
theorem d_Gr_addIfAllowed_41 : decode b_Gr_addIfAllowed 41 = .ok (.lload 5, 2) := by decide +kernel
theorem d_Gr_addIfAllowed_43 : decode b_Gr_addIfAllowed 43 = .ok (.aload_n 0, 1) := by decide +kernel
theorem d_Gr_addIfAllowed_44 : decode b_Gr_addIfAllowed 44 = .ok (.getfield 26, 3) := by decide +kernel
theorem d_Gr_addIfAllowed_47 : decode b_Gr_addIfAllowed 47 = .ok (.ldc2_w 57, 3) := by decide +kernel
theorem d_Gr_addIfAllowed_50 : decode b_Gr_addIfAllowed 50 = .ok (.lxor, 1) := by decide +kernel
theorem d_Gr_addIfAllowed_51 : decode b_Gr_addIfAllowed 51 = .ok (.land, 1) := by decide +kernel
theorem d_Gr_addIfAllowed_52 : decode b_Gr_addIfAllowed 52 = .ok (.lconst 0, 1) := by decide +kernel
theorem d_Gr_addIfAllowed_53 : decode b_Gr_addIfAllowed 53 = .ok (.lcmp, 1) := by decide +kernel
theorem d_Gr_addIfAllowed_54 : decode b_Gr_addIfAllowed 54 = .ok (.ifCond .ne 45, 3) := by decide +kernel
theorem d_Gr_addIfAllowed_57 : decode b_Gr_addIfAllowed 57 = .ok (.aload_n 0, 1) := by decide +kernel
theorem d_Gr_addIfAllowed_58 : decode b_Gr_addIfAllowed 58 = .ok (.getfield 15, 3) := by decide +kernel
theorem d_Gr_addIfAllowed_61 : decode b_Gr_addIfAllowed 61 = .ok (.iload_n 1, 1) := by decide +kernel
theorem d_Gr_addIfAllowed_62 : decode b_Gr_addIfAllowed 62 = .ok (.aload_n 0, 1) := by decide +kernel
theorem d_Gr_addIfAllowed_63 : decode b_Gr_addIfAllowed 63 = .ok (.getfield 15, 3) := by decide +kernel
theorem d_Gr_addIfAllowed_66 : decode b_Gr_addIfAllowed 66 = .ok (.lload 5, 2) := by decide +kernel
theorem d_Gr_addIfAllowed_68 : decode b_Gr_addIfAllowed 68 = .ok (.invokestatic 59, 3) := by decide +kernel
theorem d_Gr_addIfAllowed_71 : decode b_Gr_addIfAllowed 71 = .ok (.lastore, 1) := by decide +kernel
theorem d_Gr_addIfAllowed_72 : decode b_Gr_addIfAllowed 72 = .ok (.aload_n 0, 1) := by decide +kernel
theorem d_Gr_addIfAllowed_73 : decode b_Gr_addIfAllowed 73 = .ok (.getfield 19, 3) := by decide +kernel
theorem d_Gr_addIfAllowed_76 : decode b_Gr_addIfAllowed 76 = .ok (.iload_n 1, 1) := by decide +kernel
theorem d_Gr_addIfAllowed_77 : decode b_Gr_addIfAllowed 77 = .ok (.aload_n 0, 1) := by decide +kernel
theorem d_Gr_addIfAllowed_78 : decode b_Gr_addIfAllowed 78 = .ok (.getfield 19, 3) := by decide +kernel
theorem d_Gr_addIfAllowed_81 : decode b_Gr_addIfAllowed 81 = .ok (.lload_n 3, 1) := by decide +kernel
theorem d_Gr_addIfAllowed_82 : decode b_Gr_addIfAllowed 82 = .ok (.invokestatic 59, 3) := by decide +kernel
theorem d_Gr_addIfAllowed_85 : decode b_Gr_addIfAllowed 85 = .ok (.lastore, 1) := by decide +kernel
theorem d_Gr_addIfAllowed_86 : decode b_Gr_addIfAllowed 86 = .ok (.aload_n 0, 1) := by decide +kernel
theorem d_Gr_addIfAllowed_87 : decode b_Gr_addIfAllowed 87 = .ok (.dup, 1) := by decide +kernel
theorem d_Gr_addIfAllowed_88 : decode b_Gr_addIfAllowed 88 = .ok (.getfield 26, 3) := by decide +kernel
theorem d_Gr_addIfAllowed_91 : decode b_Gr_addIfAllowed 91 = .ok (.iload_n 1, 1) := by decide +kernel
theorem d_Gr_addIfAllowed_92 : decode b_Gr_addIfAllowed 92 = .ok (.invokestatic 63, 3) := by decide +kernel
theorem d_Gr_addIfAllowed_95 : decode b_Gr_addIfAllowed 95 = .ok (.lor, 1) := by decide +kernel
theorem d_Gr_addIfAllowed_96 : decode b_Gr_addIfAllowed 96 = .ok (.putfield 26, 3) := by decide +kernel
theorem d_Gr_addIfAllowed_99 : decode b_Gr_addIfAllowed 99 = .ok (.return_, 1) := by decide +kernel
theorem d_Gr_follow_0 : decode b_Gr_follow 0 = .ok (.lload_n 1, 1) := by decide +kernel
theorem d_Gr_follow_1 : decode b_Gr_follow 1 = .ok (.lstore_n 3, 1) := by decide +kernel
theorem d_Gr_follow_2 : decode b_Gr_follow 2 = .ok (.iconst 0, 1) := by decide +kernel
theorem d_Gr_follow_3 : decode b_Gr_follow 3 = .ok (.istore 5, 2) := by decide +kernel
theorem d_Gr_follow_5 : decode b_Gr_follow 5 = .ok (.iload 5, 2) := by decide +kernel
theorem d_Gr_follow_7 : decode b_Gr_follow 7 = .ok (.bipush 48, 2) := by decide +kernel
theorem d_Gr_follow_9 : decode b_Gr_follow 9 = .ok (.if_icmp .ge 25, 3) := by decide +kernel
theorem d_Gr_follow_12 : decode b_Gr_follow 12 = .ok (.lload_n 1, 1) := by decide +kernel
theorem d_Gr_follow_13 : decode b_Gr_follow 13 = .ok (.iload 5, 2) := by decide +kernel
theorem d_Gr_follow_15 : decode b_Gr_follow 15 = .ok (.invokestatic 30, 3) := by decide +kernel
theorem d_Gr_follow_18 : decode b_Gr_follow 18 = .ok (.ifCond .eq 10, 3) := by decide +kernel
theorem d_Gr_follow_21 : decode b_Gr_follow 21 = .ok (.lload_n 3, 1) := by decide +kernel
theorem d_Gr_follow_22 : decode b_Gr_follow 22 = .ok (.aload_n 0, 1) := by decide +kernel
theorem d_Gr_follow_23 : decode b_Gr_follow 23 = .ok (.iload 5, 2) := by decide +kernel
theorem d_Gr_follow_25 : decode b_Gr_follow 25 = .ok (.laload, 1) := by decide +kernel
theorem d_Gr_follow_26 : decode b_Gr_follow 26 = .ok (.lor, 1) := by decide +kernel
theorem d_Gr_follow_27 : decode b_Gr_follow 27 = .ok (.lstore_n 3, 1) := by decide +kernel
theorem d_Gr_follow_28 : decode b_Gr_follow 28 = .ok (.iinc 5 1, 3) := by decide +kernel
theorem d_Gr_follow_31 : decode b_Gr_follow 31 = .ok (.goto (-26), 3) := by decide +kernel
theorem d_Gr_follow_34 : decode b_Gr_follow 34 = .ok (.lload_n 3, 1) := by decide +kernel
theorem d_Gr_follow_35 : decode b_Gr_follow 35 = .ok (.lreturn, 1) := by decide +kernel
theorem d_Gr_nodesIn_0 : decode b_Gr_nodesIn 0 = .ok (.aload_n 0, 1) := by decide +kernel
theorem d_Gr_nodesIn_1 : decode b_Gr_nodesIn 1 = .ok (.getfield 26, 3) := by decide +kernel
theorem d_Gr_nodesIn_4 : decode b_Gr_nodesIn 4 = .ok (.iload_n 1, 1) := by decide +kernel
theorem d_Gr_nodesIn_5 : decode b_Gr_nodesIn 5 = .ok (.iconst 0, 1) := by decide +kernel
theorem d_Gr_nodesIn_6 : decode b_Gr_nodesIn 6 = .ok (.invokestatic 66, 3) := by decide +kernel
theorem d_Gr_nodesIn_9 : decode b_Gr_nodesIn 9 = .ok (.lushr, 1) := by decide +kernel
theorem d_Gr_nodesIn_10 : decode b_Gr_nodesIn 10 = .ok (.l2i, 1) := by decide +kernel
theorem d_Gr_nodesIn_11 : decode b_Gr_nodesIn 11 = .ok (.bipush 15, 2) := by decide +kernel
theorem d_Gr_nodesIn_13 : decode b_Gr_nodesIn 13 = .ok (.iand, 1) := by decide +kernel
theorem d_Gr_nodesIn_14 : decode b_Gr_nodesIn 14 = .ok (.ireturn, 1) := by decide +kernel
theorem d_Gr_hasQuorumIn_0 : decode b_Gr_hasQuorumIn 0 = .ok (.aload_n 0, 1) := by decide +kernel
theorem d_Gr_hasQuorumIn_1 : decode b_Gr_hasQuorumIn 1 = .ok (.iload_n 1, 1) := by decide +kernel
theorem d_Gr_hasQuorumIn_2 : decode b_Gr_hasQuorumIn 2 = .ok (.invokevirtual 70, 3) := by decide +kernel
theorem d_Gr_hasQuorumIn_5 : decode b_Gr_hasQuorumIn 5 = .ok (.invokestatic 74, 3) := by decide +kernel
theorem d_Gr_hasQuorumIn_8 : decode b_Gr_hasQuorumIn 8 = .ok (.iconst 3, 1) := by decide +kernel
theorem d_Gr_hasQuorumIn_9 : decode b_Gr_hasQuorumIn 9 = .ok (.if_icmp .lt 7, 3) := by decide +kernel
theorem d_Gr_hasQuorumIn_12 : decode b_Gr_hasQuorumIn 12 = .ok (.iconst 1, 1) := by decide +kernel
theorem d_Gr_hasQuorumIn_13 : decode b_Gr_hasQuorumIn 13 = .ok (.goto 4, 3) := by decide +kernel
theorem d_Gr_hasQuorumIn_16 : decode b_Gr_hasQuorumIn 16 = .ok (.iconst 0, 1) := by decide +kernel
theorem d_Gr_hasQuorumIn_17 : decode b_Gr_hasQuorumIn 17 = .ok (.ireturn, 1) := by decide +kernel
theorem d_Gr_leadsStrongly_0 : decode b_Gr_leadsStrongly 0 = .ok (.aload_n 0, 1) := by decide +kernel
theorem d_Gr_leadsStrongly_1 : decode b_Gr_leadsStrongly 1 = .ok (.getfield 19, 3) := by decide +kernel
theorem d_Gr_leadsStrongly_4 : decode b_Gr_leadsStrongly 4 = .ok (.iload_n 1, 1) := by decide +kernel
theorem d_Gr_leadsStrongly_5 : decode b_Gr_leadsStrongly 5 = .ok (.laload, 1) := by decide +kernel
theorem d_Gr_leadsStrongly_6 : decode b_Gr_leadsStrongly 6 = .ok (.iload_n 2, 1) := by decide +kernel
theorem d_Gr_leadsStrongly_7 : decode b_Gr_leadsStrongly 7 = .ok (.invokestatic 30, 3) := by decide +kernel
theorem d_Gr_leadsStrongly_10 : decode b_Gr_leadsStrongly 10 = .ok (.ireturn, 1) := by decide +kernel
theorem d_Gr_supportFrom_0 : decode b_Gr_supportFrom 0 = .ok (.iconst 0, 1) := by decide +kernel
theorem d_Gr_supportFrom_1 : decode b_Gr_supportFrom 1 = .ok (.istore_n 3, 1) := by decide +kernel
theorem d_Gr_supportFrom_2 : decode b_Gr_supportFrom 2 = .ok (.iconst 0, 1) := by decide +kernel
theorem d_Gr_supportFrom_3 : decode b_Gr_supportFrom 3 = .ok (.istore 4, 2) := by decide +kernel
theorem d_Gr_supportFrom_5 : decode b_Gr_supportFrom 5 = .ok (.iload 4, 2) := by decide +kernel
theorem d_Gr_supportFrom_7 : decode b_Gr_supportFrom 7 = .ok (.iconst 4, 1) := by decide +kernel
theorem d_Gr_supportFrom_8 : decode b_Gr_supportFrom 8 = .ok (.if_icmp .ge 26, 3) := by decide +kernel
theorem d_Gr_supportFrom_11 : decode b_Gr_supportFrom 11 = .ok (.aload_n 0, 1) := by decide +kernel
theorem d_Gr_supportFrom_12 : decode b_Gr_supportFrom 12 = .ok (.iload_n 1, 1) := by decide +kernel
theorem d_Gr_supportFrom_13 : decode b_Gr_supportFrom 13 = .ok (.iload 4, 2) := by decide +kernel
theorem d_Gr_supportFrom_15 : decode b_Gr_supportFrom 15 = .ok (.invokestatic 66, 3) := by decide +kernel
theorem d_Gr_supportFrom_18 : decode b_Gr_supportFrom 18 = .ok (.iload_n 2, 1) := by decide +kernel
theorem d_Gr_supportFrom_19 : decode b_Gr_supportFrom 19 = .ok (.invokevirtual 79, 3) := by decide +kernel
theorem d_Gr_supportFrom_22 : decode b_Gr_supportFrom 22 = .ok (.ifCond .eq 6, 3) := by decide +kernel
theorem d_Gr_supportFrom_25 : decode b_Gr_supportFrom 25 = .ok (.iinc 3 1, 3) := by decide +kernel
theorem d_Gr_supportFrom_28 : decode b_Gr_supportFrom 28 = .ok (.iinc 4 1, 3) := by decide +kernel
theorem d_Gr_supportFrom_31 : decode b_Gr_supportFrom 31 = .ok (.goto (-26), 3) := by decide +kernel
theorem d_Gr_supportFrom_34 : decode b_Gr_supportFrom 34 = .ok (.iload_n 3, 1) := by decide +kernel
theorem d_Gr_supportFrom_35 : decode b_Gr_supportFrom 35 = .ok (.ireturn, 1) := by decide +kernel
theorem d_Gr_weakPlacesFor_0 : decode b_Gr_weakPlacesFor 0 = .ok (.aload_n 0, 1) := by decide +kernel
theorem d_Gr_weakPlacesFor_1 : decode b_Gr_weakPlacesFor 1 = .ok (.iload_n 1, 1) := by decide +kernel
theorem d_Gr_weakPlacesFor_2 : decode b_Gr_weakPlacesFor 2 = .ok (.iconst 1, 1) := by decide +kernel
theorem d_Gr_weakPlacesFor_3 : decode b_Gr_weakPlacesFor 3 = .ok (.isub, 1) := by decide +kernel
theorem d_Gr_weakPlacesFor_4 : decode b_Gr_weakPlacesFor 4 = .ok (.invokevirtual 70, 3) := by decide +kernel
theorem d_Gr_weakPlacesFor_7 : decode b_Gr_weakPlacesFor 7 = .ok (.i2l, 1) := by decide +kernel
theorem d_Gr_weakPlacesFor_8 : decode b_Gr_weakPlacesFor 8 = .ok (.iload_n 1, 1) := by decide +kernel
theorem d_Gr_weakPlacesFor_9 : decode b_Gr_weakPlacesFor 9 = .ok (.iconst 1, 1) := by decide +kernel
theorem d_Gr_weakPlacesFor_10 : decode b_Gr_weakPlacesFor 10 = .ok (.isub, 1) := by decide +kernel
theorem d_Gr_weakPlacesFor_11 : decode b_Gr_weakPlacesFor 11 = .ok (.iconst 0, 1) := by decide +kernel
theorem d_Gr_weakPlacesFor_12 : decode b_Gr_weakPlacesFor 12 = .ok (.invokestatic 66, 3) := by decide +kernel
theorem d_Gr_weakPlacesFor_15 : decode b_Gr_weakPlacesFor 15 = .ok (.lshl, 1) := by decide +kernel
theorem d_Gr_weakPlacesFor_16 : decode b_Gr_weakPlacesFor 16 = .ok (.lstore_n 2, 1) := by decide +kernel
theorem d_Gr_weakPlacesFor_17 : decode b_Gr_weakPlacesFor 17 = .ok (.aload_n 0, 1) := by decide +kernel
theorem d_Gr_weakPlacesFor_18 : decode b_Gr_weakPlacesFor 18 = .ok (.getfield 15, 3) := by decide +kernel
theorem d_Gr_weakPlacesFor_21 : decode b_Gr_weakPlacesFor 21 = .ok (.lload_n 2, 1) := by decide +kernel
theorem d_Gr_weakPlacesFor_22 : decode b_Gr_weakPlacesFor 22 = .ok (.invokestatic 59, 3) := by decide +kernel
theorem d_Gr_weakPlacesFor_25 : decode b_Gr_weakPlacesFor 25 = .ok (.lstore 4, 2) := by decide +kernel
theorem d_Gr_weakPlacesFor_27 : decode b_Gr_weakPlacesFor 27 = .ok (.lconst 0, 1) := by decide +kernel
theorem d_Gr_weakPlacesFor_28 : decode b_Gr_weakPlacesFor 28 = .ok (.lstore 6, 2) := by decide +kernel
theorem d_Gr_weakPlacesFor_30 : decode b_Gr_weakPlacesFor 30 = .ok (.iload_n 1, 1) := by decide +kernel
theorem d_Gr_weakPlacesFor_31 : decode b_Gr_weakPlacesFor 31 = .ok (.iconst 2, 1) := by decide +kernel
theorem d_Gr_weakPlacesFor_32 : decode b_Gr_weakPlacesFor 32 = .ok (.isub, 1) := by decide +kernel
theorem d_Gr_weakPlacesFor_33 : decode b_Gr_weakPlacesFor 33 = .ok (.istore 8, 2) := by decide +kernel
theorem d_Gr_weakPlacesFor_35 : decode b_Gr_weakPlacesFor 35 = .ok (.iload 8, 2) := by decide +kernel
theorem d_Gr_weakPlacesFor_37 : decode b_Gr_weakPlacesFor 37 = .ok (.iconst 1, 1) := by decide +kernel
theorem d_Gr_weakPlacesFor_38 : decode b_Gr_weakPlacesFor 38 = .ok (.if_icmp .lt 80, 3) := by decide +kernel
theorem d_Gr_weakPlacesFor_41 : decode b_Gr_weakPlacesFor 41 = .ok (.iconst 0, 1) := by decide +kernel
theorem d_Gr_weakPlacesFor_42 : decode b_Gr_weakPlacesFor 42 = .ok (.istore 9, 2) := by decide +kernel
theorem d_Gr_weakPlacesFor_44 : decode b_Gr_weakPlacesFor 44 = .ok (.iload 9, 2) := by decide +kernel
theorem d_Gr_weakPlacesFor_46 : decode b_Gr_weakPlacesFor 46 = .ok (.iconst 4, 1) := by decide +kernel
theorem d_Gr_weakPlacesFor_47 : decode b_Gr_weakPlacesFor 47 = .ok (.if_icmp .ge 65, 3) := by decide +kernel
theorem d_Gr_weakPlacesFor_50 : decode b_Gr_weakPlacesFor 50 = .ok (.iload 8, 2) := by decide +kernel
theorem d_Gr_weakPlacesFor_52 : decode b_Gr_weakPlacesFor 52 = .ok (.iload 9, 2) := by decide +kernel
theorem d_Gr_weakPlacesFor_54 : decode b_Gr_weakPlacesFor 54 = .ok (.invokestatic 66, 3) := by decide +kernel
theorem d_Gr_weakPlacesFor_57 : decode b_Gr_weakPlacesFor 57 = .ok (.istore 10, 2) := by decide +kernel
theorem d_Gr_weakPlacesFor_59 : decode b_Gr_weakPlacesFor 59 = .ok (.aload_n 0, 1) := by decide +kernel
theorem d_Gr_weakPlacesFor_60 : decode b_Gr_weakPlacesFor 60 = .ok (.iload 10, 2) := by decide +kernel
theorem d_Gr_weakPlacesFor_62 : decode b_Gr_weakPlacesFor 62 = .ok (.invokevirtual 39, 3) := by decide +kernel
theorem d_Gr_weakPlacesFor_65 : decode b_Gr_weakPlacesFor 65 = .ok (.ifCond .eq 41, 3) := by decide +kernel
theorem d_Gr_weakPlacesFor_68 : decode b_Gr_weakPlacesFor 68 = .ok (.lload 4, 2) := by decide +kernel
theorem d_Gr_weakPlacesFor_70 : decode b_Gr_weakPlacesFor 70 = .ok (.iload 10, 2) := by decide +kernel
theorem d_Gr_weakPlacesFor_72 : decode b_Gr_weakPlacesFor 72 = .ok (.invokestatic 30, 3) := by decide +kernel
theorem d_Gr_weakPlacesFor_75 : decode b_Gr_weakPlacesFor 75 = .ok (.ifCond .ne 31, 3) := by decide +kernel
theorem d_Gr_weakPlacesFor_78 : decode b_Gr_weakPlacesFor 78 = .ok (.lload 6, 2) := by decide +kernel
theorem d_Gr_weakPlacesFor_80 : decode b_Gr_weakPlacesFor 80 = .ok (.iload 10, 2) := by decide +kernel
theorem d_Gr_weakPlacesFor_82 : decode b_Gr_weakPlacesFor 82 = .ok (.invokestatic 63, 3) := by decide +kernel
theorem d_Gr_weakPlacesFor_85 : decode b_Gr_weakPlacesFor 85 = .ok (.lor, 1) := by decide +kernel
theorem d_Gr_weakPlacesFor_86 : decode b_Gr_weakPlacesFor 86 = .ok (.lstore 6, 2) := by decide +kernel
theorem d_Gr_weakPlacesFor_88 : decode b_Gr_weakPlacesFor 88 = .ok (.lload 4, 2) := by decide +kernel
theorem d_Gr_weakPlacesFor_90 : decode b_Gr_weakPlacesFor 90 = .ok (.iload 10, 2) := by decide +kernel
theorem d_Gr_weakPlacesFor_92 : decode b_Gr_weakPlacesFor 92 = .ok (.invokestatic 63, 3) := by decide +kernel
theorem d_Gr_weakPlacesFor_95 : decode b_Gr_weakPlacesFor 95 = .ok (.aload_n 0, 1) := by decide +kernel
theorem d_Gr_weakPlacesFor_96 : decode b_Gr_weakPlacesFor 96 = .ok (.getfield 15, 3) := by decide +kernel
theorem d_Gr_weakPlacesFor_99 : decode b_Gr_weakPlacesFor 99 = .ok (.iload 10, 2) := by decide +kernel
theorem d_Gr_weakPlacesFor_101 : decode b_Gr_weakPlacesFor 101 = .ok (.laload, 1) := by decide +kernel
theorem d_Gr_weakPlacesFor_102 : decode b_Gr_weakPlacesFor 102 = .ok (.lor, 1) := by decide +kernel
theorem d_Gr_weakPlacesFor_103 : decode b_Gr_weakPlacesFor 103 = .ok (.lor, 1) := by decide +kernel
theorem d_Gr_weakPlacesFor_104 : decode b_Gr_weakPlacesFor 104 = .ok (.lstore 4, 2) := by decide +kernel
theorem d_Gr_weakPlacesFor_106 : decode b_Gr_weakPlacesFor 106 = .ok (.iinc 9 1, 3) := by decide +kernel
theorem d_Gr_weakPlacesFor_109 : decode b_Gr_weakPlacesFor 109 = .ok (.goto (-65), 3) := by decide +kernel
theorem d_Gr_weakPlacesFor_112 : decode b_Gr_weakPlacesFor 112 = .ok (.iinc 8 (-1), 3) := by decide +kernel
theorem d_Gr_weakPlacesFor_115 : decode b_Gr_weakPlacesFor 115 = .ok (.goto (-80), 3) := by decide +kernel
theorem d_Gr_weakPlacesFor_118 : decode b_Gr_weakPlacesFor 118 = .ok (.lload 6, 2) := by decide +kernel
theorem d_Gr_weakPlacesFor_120 : decode b_Gr_weakPlacesFor 120 = .ok (.lreturn, 1) := by decide +kernel
theorem d_Ma_init_0 : decode b_Ma_init 0 = .ok (.aload_n 0, 1) := by decide +kernel
theorem d_Ma_init_1 : decode b_Ma_init 1 = .ok (.invokespecial 3, 3) := by decide +kernel
theorem d_Ma_init_4 : decode b_Ma_init 4 = .ok (.aload_n 0, 1) := by decide +kernel
theorem d_Ma_init_5 : decode b_Ma_init 5 = .ok (.sipush 2240, 3) := by decide +kernel
theorem d_Ma_init_8 : decode b_Ma_init 8 = .ok (.newarray .int, 2) := by decide +kernel
theorem d_Ma_init_10 : decode b_Ma_init 10 = .ok (.putfield 9, 3) := by decide +kernel
theorem d_Ma_init_13 : decode b_Ma_init 13 = .ok (.aload_n 0, 1) := by decide +kernel
theorem d_Ma_init_14 : decode b_Ma_init 14 = .ok (.iload_n 1, 1) := by decide +kernel
theorem d_Ma_init_15 : decode b_Ma_init 15 = .ok (.putfield 15, 3) := by decide +kernel
theorem d_Ma_init_18 : decode b_Ma_init 18 = .ok (.return_, 1) := by decide +kernel
theorem d_Ma_send_0 : decode b_Ma_send 0 = .ok (.aload_n 0, 1) := by decide +kernel
theorem d_Ma_send_1 : decode b_Ma_send 1 = .ok (.getfield 19, 3) := by decide +kernel
theorem d_Ma_send_4 : decode b_Ma_send 4 = .ok (.sipush 2240, 3) := by decide +kernel
theorem d_Ma_send_7 : decode b_Ma_send 7 = .ok (.if_icmp .ge 37, 3) := by decide +kernel
theorem d_Ma_send_10 : decode b_Ma_send 10 = .ok (.aload_n 0, 1) := by decide +kernel
theorem d_Ma_send_11 : decode b_Ma_send 11 = .ok (.getfield 9, 3) := by decide +kernel
theorem d_Ma_send_14 : decode b_Ma_send 14 = .ok (.aload_n 0, 1) := by decide +kernel
theorem d_Ma_send_15 : decode b_Ma_send 15 = .ok (.getfield 19, 3) := by decide +kernel
theorem d_Ma_send_18 : decode b_Ma_send 18 = .ok (.iload 4, 2) := by decide +kernel
theorem d_Ma_send_20 : decode b_Ma_send 20 = .ok (.bipush 6, 2) := by decide +kernel
theorem d_Ma_send_22 : decode b_Ma_send 22 = .ok (.ishl, 1) := by decide +kernel
theorem d_Ma_send_23 : decode b_Ma_send 23 = .ok (.iload_n 3, 1) := by decide +kernel
theorem d_Ma_send_24 : decode b_Ma_send 24 = .ok (.iconst 4, 1) := by decide +kernel
theorem d_Ma_send_25 : decode b_Ma_send 25 = .ok (.ishl, 1) := by decide +kernel
theorem d_Ma_send_26 : decode b_Ma_send 26 = .ok (.ior, 1) := by decide +kernel
theorem d_Ma_send_27 : decode b_Ma_send 27 = .ok (.iload_n 2, 1) := by decide +kernel
theorem d_Ma_send_28 : decode b_Ma_send 28 = .ok (.iconst 2, 1) := by decide +kernel
theorem d_Ma_send_29 : decode b_Ma_send 29 = .ok (.ishl, 1) := by decide +kernel
theorem d_Ma_send_30 : decode b_Ma_send 30 = .ok (.ior, 1) := by decide +kernel
theorem d_Ma_send_31 : decode b_Ma_send 31 = .ok (.iload_n 1, 1) := by decide +kernel
theorem d_Ma_send_32 : decode b_Ma_send 32 = .ok (.ior, 1) := by decide +kernel
theorem d_Ma_send_33 : decode b_Ma_send 33 = .ok (.iastore, 1) := by decide +kernel
theorem d_Ma_send_34 : decode b_Ma_send 34 = .ok (.aload_n 0, 1) := by decide +kernel
theorem d_Ma_send_35 : decode b_Ma_send 35 = .ok (.dup, 1) := by decide +kernel
theorem d_Ma_send_36 : decode b_Ma_send 36 = .ok (.getfield 19, 3) := by decide +kernel
theorem d_Ma_send_39 : decode b_Ma_send 39 = .ok (.iconst 1, 1) := by decide +kernel
theorem d_Ma_send_40 : decode b_Ma_send 40 = .ok (.iadd, 1) := by decide +kernel
theorem d_Ma_send_41 : decode b_Ma_send 41 = .ok (.putfield 19, 3) := by decide +kernel
theorem d_Ma_send_44 : decode b_Ma_send 44 = .ok (.return_, 1) := by decide +kernel
theorem d_Ma_broadcast_0 : decode b_Ma_broadcast 0 = .ok (.iconst 0, 1) := by decide +kernel
theorem d_Ma_broadcast_1 : decode b_Ma_broadcast 1 = .ok (.istore 4, 2) := by decide +kernel
theorem d_Ma_broadcast_3 : decode b_Ma_broadcast 3 = .ok (.iload 4, 2) := by decide +kernel
theorem d_Ma_broadcast_5 : decode b_Ma_broadcast 5 = .ok (.iconst 4, 1) := by decide +kernel
theorem d_Ma_broadcast_6 : decode b_Ma_broadcast 6 = .ok (.if_icmp .ge 27, 3) := by decide +kernel
theorem d_Ma_broadcast_9 : decode b_Ma_broadcast 9 = .ok (.iload 4, 2) := by decide +kernel
theorem d_Ma_broadcast_11 : decode b_Ma_broadcast 11 = .ok (.aload_n 0, 1) := by decide +kernel
theorem d_Ma_broadcast_12 : decode b_Ma_broadcast 12 = .ok (.getfield 15, 3) := by decide +kernel
theorem d_Ma_broadcast_15 : decode b_Ma_broadcast 15 = .ok (.if_icmp .eq 12, 3) := by decide +kernel
theorem d_Ma_broadcast_18 : decode b_Ma_broadcast 18 = .ok (.aload_n 0, 1) := by decide +kernel
theorem d_Ma_broadcast_19 : decode b_Ma_broadcast 19 = .ok (.iload_n 1, 1) := by decide +kernel
theorem d_Ma_broadcast_20 : decode b_Ma_broadcast 20 = .ok (.iload_n 2, 1) := by decide +kernel
theorem d_Ma_broadcast_21 : decode b_Ma_broadcast 21 = .ok (.iload 4, 2) := by decide +kernel
theorem d_Ma_broadcast_23 : decode b_Ma_broadcast 23 = .ok (.iload_n 3, 1) := by decide +kernel
theorem d_Ma_broadcast_24 : decode b_Ma_broadcast 24 = .ok (.invokevirtual 22, 3) := by decide +kernel
theorem d_Ma_broadcast_27 : decode b_Ma_broadcast 27 = .ok (.iinc 4 1, 3) := by decide +kernel
theorem d_Ma_broadcast_30 : decode b_Ma_broadcast 30 = .ok (.goto (-27), 3) := by decide +kernel
theorem d_Ma_broadcast_33 : decode b_Ma_broadcast 33 = .ok (.return_, 1) := by decide +kernel
theorem d_Ma_has_0 : decode b_Ma_has 0 = .ok (.iload_n 1, 1) := by decide +kernel
theorem d_Ma_has_1 : decode b_Ma_has 1 = .ok (.ifCond .lt 15, 3) := by decide +kernel
theorem d_Ma_has_4 : decode b_Ma_has 4 = .ok (.iload_n 1, 1) := by decide +kernel
theorem d_Ma_has_5 : decode b_Ma_has 5 = .ok (.aload_n 0, 1) := by decide +kernel
theorem d_Ma_has_6 : decode b_Ma_has 6 = .ok (.getfield 19, 3) := by decide +kernel
theorem d_Ma_has_9 : decode b_Ma_has 9 = .ok (.if_icmp .ge 7, 3) := by decide +kernel
theorem d_Ma_has_12 : decode b_Ma_has 12 = .ok (.iconst 1, 1) := by decide +kernel
theorem d_Ma_has_13 : decode b_Ma_has 13 = .ok (.goto 4, 3) := by decide +kernel
theorem d_Ma_has_16 : decode b_Ma_has 16 = .ok (.iconst 0, 1) := by decide +kernel
theorem d_Ma_has_17 : decode b_Ma_has 17 = .ok (.ireturn, 1) := by decide +kernel
theorem d_Ma_take_0 : decode b_Ma_take 0 = .ok (.aload_n 0, 1) := by decide +kernel
theorem d_Ma_take_1 : decode b_Ma_take 1 = .ok (.getfield 9, 3) := by decide +kernel
theorem d_Ma_take_4 : decode b_Ma_take 4 = .ok (.iload_n 1, 1) := by decide +kernel
theorem d_Ma_take_5 : decode b_Ma_take 5 = .ok (.iaload, 1) := by decide +kernel
theorem d_Ma_take_6 : decode b_Ma_take 6 = .ok (.istore_n 2, 1) := by decide +kernel
theorem d_Ma_take_7 : decode b_Ma_take 7 = .ok (.aload_n 0, 1) := by decide +kernel
theorem d_Ma_take_8 : decode b_Ma_take 8 = .ok (.dup, 1) := by decide +kernel
theorem d_Ma_take_9 : decode b_Ma_take 9 = .ok (.getfield 19, 3) := by decide +kernel
theorem d_Ma_take_12 : decode b_Ma_take 12 = .ok (.iconst 1, 1) := by decide +kernel
theorem d_Ma_take_13 : decode b_Ma_take 13 = .ok (.isub, 1) := by decide +kernel
theorem d_Ma_take_14 : decode b_Ma_take 14 = .ok (.putfield 19, 3) := by decide +kernel
theorem d_Ma_take_17 : decode b_Ma_take 17 = .ok (.aload_n 0, 1) := by decide +kernel
theorem d_Ma_take_18 : decode b_Ma_take 18 = .ok (.getfield 9, 3) := by decide +kernel
theorem d_Ma_take_21 : decode b_Ma_take 21 = .ok (.iload_n 1, 1) := by decide +kernel
theorem d_Ma_take_22 : decode b_Ma_take 22 = .ok (.iconst 1, 1) := by decide +kernel
theorem d_Ma_take_23 : decode b_Ma_take 23 = .ok (.iadd, 1) := by decide +kernel
theorem d_Ma_take_24 : decode b_Ma_take 24 = .ok (.aload_n 0, 1) := by decide +kernel
theorem d_Ma_take_25 : decode b_Ma_take 25 = .ok (.getfield 9, 3) := by decide +kernel
theorem d_Ma_take_28 : decode b_Ma_take 28 = .ok (.iload_n 1, 1) := by decide +kernel
theorem d_Ma_take_29 : decode b_Ma_take 29 = .ok (.aload_n 0, 1) := by decide +kernel
theorem d_Ma_take_30 : decode b_Ma_take 30 = .ok (.getfield 19, 3) := by decide +kernel
theorem d_Ma_take_33 : decode b_Ma_take 33 = .ok (.iload_n 1, 1) := by decide +kernel
theorem d_Ma_take_34 : decode b_Ma_take 34 = .ok (.isub, 1) := by decide +kernel
theorem d_Ma_take_35 : decode b_Ma_take 35 = .ok (.invokestatic 26, 3) := by decide +kernel
theorem d_Ma_take_38 : decode b_Ma_take 38 = .ok (.iload_n 2, 1) := by decide +kernel
theorem d_Ma_take_39 : decode b_Ma_take 39 = .ok (.ireturn, 1) := by decide +kernel
theorem d_Ma_kindOf_0 : decode b_Ma_kindOf 0 = .ok (.iload_n 0, 1) := by decide +kernel
theorem d_Ma_kindOf_1 : decode b_Ma_kindOf 1 = .ok (.iconst 3, 1) := by decide +kernel
theorem d_Ma_kindOf_2 : decode b_Ma_kindOf 2 = .ok (.iand, 1) := by decide +kernel
theorem d_Ma_kindOf_3 : decode b_Ma_kindOf 3 = .ok (.ireturn, 1) := by decide +kernel
theorem d_Ma_senderOf_0 : decode b_Ma_senderOf 0 = .ok (.iload_n 0, 1) := by decide +kernel
theorem d_Ma_senderOf_1 : decode b_Ma_senderOf 1 = .ok (.iconst 2, 1) := by decide +kernel
theorem d_Ma_senderOf_2 : decode b_Ma_senderOf 2 = .ok (.iushr, 1) := by decide +kernel
theorem d_Ma_senderOf_3 : decode b_Ma_senderOf 3 = .ok (.iconst 3, 1) := by decide +kernel
theorem d_Ma_senderOf_4 : decode b_Ma_senderOf 4 = .ok (.iand, 1) := by decide +kernel
theorem d_Ma_senderOf_5 : decode b_Ma_senderOf 5 = .ok (.ireturn, 1) := by decide +kernel
theorem d_Ma_receiverOf_0 : decode b_Ma_receiverOf 0 = .ok (.iload_n 0, 1) := by decide +kernel
theorem d_Ma_receiverOf_1 : decode b_Ma_receiverOf 1 = .ok (.iconst 4, 1) := by decide +kernel
theorem d_Ma_receiverOf_2 : decode b_Ma_receiverOf 2 = .ok (.iushr, 1) := by decide +kernel
theorem d_Ma_receiverOf_3 : decode b_Ma_receiverOf 3 = .ok (.iconst 3, 1) := by decide +kernel
theorem d_Ma_receiverOf_4 : decode b_Ma_receiverOf 4 = .ok (.iand, 1) := by decide +kernel
theorem d_Ma_receiverOf_5 : decode b_Ma_receiverOf 5 = .ok (.ireturn, 1) := by decide +kernel
theorem d_Ma_subjectOf_0 : decode b_Ma_subjectOf 0 = .ok (.iload_n 0, 1) := by decide +kernel
theorem d_Ma_subjectOf_1 : decode b_Ma_subjectOf 1 = .ok (.bipush 6, 2) := by decide +kernel
theorem d_Ma_subjectOf_3 : decode b_Ma_subjectOf 3 = .ok (.iushr, 1) := by decide +kernel
theorem d_Ma_subjectOf_4 : decode b_Ma_subjectOf 4 = .ok (.ireturn, 1) := by decide +kernel
theorem d_No_init_0 : decode b_No_init 0 = .ok (.aload_n 0, 1) := by decide +kernel
theorem d_No_init_1 : decode b_No_init 1 = .ok (.invokespecial 3, 3) := by decide +kernel
theorem d_No_init_4 : decode b_No_init 4 = .ok (.aload_n 0, 1) := by decide +kernel
theorem d_No_init_5 : decode b_No_init 5 = .ok (.new 9, 3) := by decide +kernel
theorem d_No_init_8 : decode b_No_init 8 = .ok (.dup, 1) := by decide +kernel
theorem d_No_init_9 : decode b_No_init 9 = .ok (.invokespecial 11, 3) := by decide +kernel
theorem d_No_init_12 : decode b_No_init 12 = .ok (.putfield 12, 3) := by decide +kernel
theorem d_No_init_15 : decode b_No_init 15 = .ok (.aload_n 0, 1) := by decide +kernel
theorem d_No_init_16 : decode b_No_init 16 = .ok (.new 18, 3) := by decide +kernel
theorem d_No_init_19 : decode b_No_init 19 = .ok (.dup, 1) := by decide +kernel
theorem d_No_init_20 : decode b_No_init 20 = .ok (.invokespecial 20, 3) := by decide +kernel
theorem d_No_init_23 : decode b_No_init 23 = .ok (.putfield 21, 3) := by decide +kernel
theorem d_No_init_26 : decode b_No_init 26 = .ok (.aload_n 0, 1) := by decide +kernel
theorem d_No_init_27 : decode b_No_init 27 = .ok (.new 25, 3) := by decide +kernel
theorem d_No_init_30 : decode b_No_init 30 = .ok (.dup, 1) := by decide +kernel
theorem d_No_init_31 : decode b_No_init 31 = .ok (.invokespecial 27, 3) := by decide +kernel
theorem d_No_init_34 : decode b_No_init 34 = .ok (.putfield 28, 3) := by decide +kernel
theorem d_No_init_37 : decode b_No_init 37 = .ok (.aload_n 0, 1) := by decide +kernel
theorem d_No_init_38 : decode b_No_init 38 = .ok (.new 25, 3) := by decide +kernel
theorem d_No_init_41 : decode b_No_init 41 = .ok (.dup, 1) := by decide +kernel
theorem d_No_init_42 : decode b_No_init 42 = .ok (.invokespecial 27, 3) := by decide +kernel
theorem d_No_init_45 : decode b_No_init 45 = .ok (.putfield 32, 3) := by decide +kernel
theorem d_No_init_48 : decode b_No_init 48 = .ok (.aload_n 0, 1) := by decide +kernel
theorem d_No_init_49 : decode b_No_init 49 = .ok (.iconst 3, 1) := by decide +kernel
theorem d_No_init_50 : decode b_No_init 50 = .ok (.newarray .int, 2) := by decide +kernel
theorem d_No_init_52 : decode b_No_init 52 = .ok (.putfield 35, 3) := by decide +kernel
theorem d_No_init_55 : decode b_No_init 55 = .ok (.aload_n 0, 1) := by decide +kernel
theorem d_No_init_56 : decode b_No_init 56 = .ok (.iload_n 1, 1) := by decide +kernel
theorem d_No_init_57 : decode b_No_init 57 = .ok (.putfield 39, 3) := by decide +kernel
theorem d_No_init_60 : decode b_No_init 60 = .ok (.aload_n 0, 1) := by decide +kernel
theorem d_No_init_61 : decode b_No_init 61 = .ok (.iload_n 2, 1) := by decide +kernel
theorem d_No_init_62 : decode b_No_init 62 = .ok (.putfield 43, 3) := by decide +kernel
theorem d_No_init_65 : decode b_No_init 65 = .ok (.aload_n 0, 1) := by decide +kernel
theorem d_No_init_66 : decode b_No_init 66 = .ok (.aload_n 3, 1) := by decide +kernel
theorem d_No_init_67 : decode b_No_init 67 = .ok (.putfield 46, 3) := by decide +kernel
theorem d_No_init_70 : decode b_No_init 70 = .ok (.aload_n 0, 1) := by decide +kernel
theorem d_No_init_71 : decode b_No_init 71 = .ok (.aload 4, 2) := by decide +kernel
theorem d_No_init_73 : decode b_No_init 73 = .ok (.putfield 50, 3) := by decide +kernel
theorem d_No_init_76 : decode b_No_init 76 = .ok (.aload_n 0, 1) := by decide +kernel
theorem d_No_init_77 : decode b_No_init 77 = .ok (.new 54, 3) := by decide +kernel
theorem d_No_init_80 : decode b_No_init 80 = .ok (.dup, 1) := by decide +kernel
theorem d_No_init_81 : decode b_No_init 81 = .ok (.aload_n 3, 1) := by decide +kernel
theorem d_No_init_82 : decode b_No_init 82 = .ok (.invokespecial 56, 3) := by decide +kernel
theorem d_No_init_85 : decode b_No_init 85 = .ok (.putfield 59, 3) := by decide +kernel
theorem d_No_init_88 : decode b_No_init 88 = .ok (.return_, 1) := by decide +kernel
theorem d_No_receiveSend_0 : decode b_No_receiveSend 0 = .ok (.aload_n 0, 1) := by decide +kernel
theorem d_No_receiveSend_1 : decode b_No_receiveSend 1 = .ok (.getfield 46, 3) := by decide +kernel
theorem d_No_receiveSend_4 : decode b_No_receiveSend 4 = .ok (.getfield 63, 3) := by decide +kernel
theorem d_No_receiveSend_7 : decode b_No_receiveSend 7 = .ok (.iload_n 2, 1) := by decide +kernel
theorem d_No_receiveSend_8 : decode b_No_receiveSend 8 = .ok (.iaload, 1) := by decide +kernel
theorem d_No_receiveSend_9 : decode b_No_receiveSend 9 = .ok (.istore_n 3, 1) := by decide +kernel
theorem d_No_receiveSend_10 : decode b_No_receiveSend 10 = .ok (.iload_n 1, 1) := by decide +kernel
theorem d_No_receiveSend_11 : decode b_No_receiveSend 11 = .ok (.aload_n 0, 1) := by decide +kernel
theorem d_No_receiveSend_12 : decode b_No_receiveSend 12 = .ok (.getfield 46, 3) := by decide +kernel
theorem d_No_receiveSend_15 : decode b_No_receiveSend 15 = .ok (.iload_n 2, 1) := by decide +kernel
theorem d_No_receiveSend_16 : decode b_No_receiveSend 16 = .ok (.invokevirtual 68, 3) := by decide +kernel
theorem d_No_receiveSend_19 : decode b_No_receiveSend 19 = .ok (.if_icmp .ne 40, 3) := by decide +kernel
theorem d_No_receiveSend_22 : decode b_No_receiveSend 22 = .ok (.aload_n 0, 1) := by decide +kernel
theorem d_No_receiveSend_23 : decode b_No_receiveSend 23 = .ok (.getfield 72, 3) := by decide +kernel
theorem d_No_receiveSend_26 : decode b_No_receiveSend 26 = .ok (.iload_n 3, 1) := by decide +kernel
theorem d_No_receiveSend_27 : decode b_No_receiveSend 27 = .ok (.invokestatic 76, 3) := by decide +kernel
theorem d_No_receiveSend_30 : decode b_No_receiveSend 30 = .ok (.ifCond .ne 29, 3) := by decide +kernel
theorem d_No_receiveSend_33 : decode b_No_receiveSend 33 = .ok (.aload_n 0, 1) := by decide +kernel
theorem d_No_receiveSend_34 : decode b_No_receiveSend 34 = .ok (.dup, 1) := by decide +kernel
theorem d_No_receiveSend_35 : decode b_No_receiveSend 35 = .ok (.getfield 72, 3) := by decide +kernel
theorem d_No_receiveSend_38 : decode b_No_receiveSend 38 = .ok (.iload_n 3, 1) := by decide +kernel
theorem d_No_receiveSend_39 : decode b_No_receiveSend 39 = .ok (.invokestatic 80, 3) := by decide +kernel
theorem d_No_receiveSend_42 : decode b_No_receiveSend 42 = .ok (.lor, 1) := by decide +kernel
theorem d_No_receiveSend_43 : decode b_No_receiveSend 43 = .ok (.putfield 72, 3) := by decide +kernel
theorem d_No_receiveSend_46 : decode b_No_receiveSend 46 = .ok (.aload_n 0, 1) := by decide +kernel
theorem d_No_receiveSend_47 : decode b_No_receiveSend 47 = .ok (.getfield 50, 3) := by decide +kernel
theorem d_No_receiveSend_50 : decode b_No_receiveSend 50 = .ok (.iconst 1, 1) := by decide +kernel
theorem d_No_receiveSend_51 : decode b_No_receiveSend 51 = .ok (.aload_n 0, 1) := by decide +kernel
theorem d_No_receiveSend_52 : decode b_No_receiveSend 52 = .ok (.getfield 39, 3) := by decide +kernel
theorem d_No_receiveSend_55 : decode b_No_receiveSend 55 = .ok (.iload_n 2, 1) := by decide +kernel
theorem d_No_receiveSend_56 : decode b_No_receiveSend 56 = .ok (.invokevirtual 84, 3) := by decide +kernel
theorem d_No_receiveSend_59 : decode b_No_receiveSend 59 = .ok (.return_, 1) := by decide +kernel
theorem d_No_receiveEcho_0 : decode b_No_receiveEcho 0 = .ok (.aload_n 0, 1) := by decide +kernel
theorem d_No_receiveEcho_1 : decode b_No_receiveEcho 1 = .ok (.getfield 46, 3) := by decide +kernel
theorem d_No_receiveEcho_4 : decode b_No_receiveEcho 4 = .ok (.getfield 63, 3) := by decide +kernel
theorem d_No_receiveEcho_7 : decode b_No_receiveEcho 7 = .ok (.iload_n 2, 1) := by decide +kernel
theorem d_No_receiveEcho_8 : decode b_No_receiveEcho 8 = .ok (.iaload, 1) := by decide +kernel
theorem d_No_receiveEcho_9 : decode b_No_receiveEcho 9 = .ok (.istore_n 3, 1) := by decide +kernel
theorem d_No_receiveEcho_10 : decode b_No_receiveEcho 10 = .ok (.aload_n 0, 1) := by decide +kernel
theorem d_No_receiveEcho_11 : decode b_No_receiveEcho 11 = .ok (.getfield 28, 3) := by decide +kernel
theorem d_No_receiveEcho_14 : decode b_No_receiveEcho 14 = .ok (.iload_n 1, 1) := by decide +kernel
theorem d_No_receiveEcho_15 : decode b_No_receiveEcho 15 = .ok (.iload_n 3, 1) := by decide +kernel
theorem d_No_receiveEcho_16 : decode b_No_receiveEcho 16 = .ok (.iload_n 2, 1) := by decide +kernel
theorem d_No_receiveEcho_17 : decode b_No_receiveEcho 17 = .ok (.invokevirtual 90, 3) := by decide +kernel
theorem d_No_receiveEcho_20 : decode b_No_receiveEcho 20 = .ok (.iconst 3, 1) := by decide +kernel
theorem d_No_receiveEcho_21 : decode b_No_receiveEcho 21 = .ok (.if_icmp .lt 9, 3) := by decide +kernel
theorem d_No_receiveEcho_24 : decode b_No_receiveEcho 24 = .ok (.aload_n 0, 1) := by decide +kernel
theorem d_No_receiveEcho_25 : decode b_No_receiveEcho 25 = .ok (.iload_n 3, 1) := by decide +kernel
theorem d_No_receiveEcho_26 : decode b_No_receiveEcho 26 = .ok (.iload_n 2, 1) := by decide +kernel
theorem d_No_receiveEcho_27 : decode b_No_receiveEcho 27 = .ok (.invokevirtual 94, 3) := by decide +kernel
theorem d_No_receiveEcho_30 : decode b_No_receiveEcho 30 = .ok (.return_, 1) := by decide +kernel
theorem d_No_receiveReady_0 : decode b_No_receiveReady 0 = .ok (.aload_n 0, 1) := by decide +kernel
theorem d_No_receiveReady_1 : decode b_No_receiveReady 1 = .ok (.getfield 46, 3) := by decide +kernel
theorem d_No_receiveReady_4 : decode b_No_receiveReady 4 = .ok (.getfield 63, 3) := by decide +kernel
theorem d_No_receiveReady_7 : decode b_No_receiveReady 7 = .ok (.iload_n 2, 1) := by decide +kernel
theorem d_No_receiveReady_8 : decode b_No_receiveReady 8 = .ok (.iaload, 1) := by decide +kernel
theorem d_No_receiveReady_9 : decode b_No_receiveReady 9 = .ok (.istore_n 3, 1) := by decide +kernel
theorem d_No_receiveReady_10 : decode b_No_receiveReady 10 = .ok (.aload_n 0, 1) := by decide +kernel
theorem d_No_receiveReady_11 : decode b_No_receiveReady 11 = .ok (.getfield 32, 3) := by decide +kernel
theorem d_No_receiveReady_14 : decode b_No_receiveReady 14 = .ok (.iload_n 1, 1) := by decide +kernel
theorem d_No_receiveReady_15 : decode b_No_receiveReady 15 = .ok (.iload_n 3, 1) := by decide +kernel
theorem d_No_receiveReady_16 : decode b_No_receiveReady 16 = .ok (.iload_n 2, 1) := by decide +kernel
theorem d_No_receiveReady_17 : decode b_No_receiveReady 17 = .ok (.invokevirtual 90, 3) := by decide +kernel
theorem d_No_receiveReady_20 : decode b_No_receiveReady 20 = .ok (.istore 4, 2) := by decide +kernel
theorem d_No_receiveReady_22 : decode b_No_receiveReady 22 = .ok (.iload 4, 2) := by decide +kernel
theorem d_No_receiveReady_24 : decode b_No_receiveReady 24 = .ok (.iconst 2, 1) := by decide +kernel
theorem d_No_receiveReady_25 : decode b_No_receiveReady 25 = .ok (.if_icmp .lt 9, 3) := by decide +kernel
theorem d_No_receiveReady_28 : decode b_No_receiveReady 28 = .ok (.aload_n 0, 1) := by decide +kernel
theorem d_No_receiveReady_29 : decode b_No_receiveReady 29 = .ok (.iload_n 3, 1) := by decide +kernel
theorem d_No_receiveReady_30 : decode b_No_receiveReady 30 = .ok (.iload_n 2, 1) := by decide +kernel
theorem d_No_receiveReady_31 : decode b_No_receiveReady 31 = .ok (.invokevirtual 94, 3) := by decide +kernel
theorem d_No_receiveReady_34 : decode b_No_receiveReady 34 = .ok (.iload 4, 2) := by decide +kernel
theorem d_No_receiveReady_36 : decode b_No_receiveReady 36 = .ok (.iconst 3, 1) := by decide +kernel
theorem d_No_receiveReady_37 : decode b_No_receiveReady 37 = .ok (.if_icmp .lt 23, 3) := by decide +kernel
theorem d_No_receiveReady_40 : decode b_No_receiveReady 40 = .ok (.aload_n 0, 1) := by decide +kernel
theorem d_No_receiveReady_41 : decode b_No_receiveReady 41 = .ok (.getfield 59, 3) := by decide +kernel
theorem d_No_receiveReady_44 : decode b_No_receiveReady 44 = .ok (.getfield 98, 3) := by decide +kernel
theorem d_No_receiveReady_47 : decode b_No_receiveReady 47 = .ok (.iload_n 3, 1) := by decide +kernel
theorem d_No_receiveReady_48 : decode b_No_receiveReady 48 = .ok (.iaload, 1) := by decide +kernel
theorem d_No_receiveReady_49 : decode b_No_receiveReady 49 = .ok (.ifCond .ne 11, 3) := by decide +kernel
theorem d_No_receiveReady_52 : decode b_No_receiveReady 52 = .ok (.aload_n 0, 1) := by decide +kernel
theorem d_No_receiveReady_53 : decode b_No_receiveReady 53 = .ok (.getfield 59, 3) := by decide +kernel
theorem d_No_receiveReady_56 : decode b_No_receiveReady 56 = .ok (.iload_n 2, 1) := by decide +kernel
theorem d_No_receiveReady_57 : decode b_No_receiveReady 57 = .ok (.invokevirtual 101, 3) := by decide +kernel
theorem d_No_receiveReady_60 : decode b_No_receiveReady 60 = .ok (.return_, 1) := by decide +kernel
theorem d_No_broadcastReadyOnce_0 : decode b_No_broadcastReadyOnce 0 = .ok (.aload_n 0, 1) := by decide +kernel
theorem d_No_broadcastReadyOnce_1 : decode b_No_broadcastReadyOnce 1 = .ok (.getfield 105, 3) := by decide +kernel
theorem d_No_broadcastReadyOnce_4 : decode b_No_broadcastReadyOnce 4 = .ok (.iload_n 1, 1) := by decide +kernel
theorem d_No_broadcastReadyOnce_5 : decode b_No_broadcastReadyOnce 5 = .ok (.invokestatic 76, 3) := by decide +kernel
theorem d_No_broadcastReadyOnce_8 : decode b_No_broadcastReadyOnce 8 = .ok (.ifCond .ne 29, 3) := by decide +kernel
theorem d_No_broadcastReadyOnce_11 : decode b_No_broadcastReadyOnce 11 = .ok (.aload_n 0, 1) := by decide +kernel
theorem d_No_broadcastReadyOnce_12 : decode b_No_broadcastReadyOnce 12 = .ok (.dup, 1) := by decide +kernel
theorem d_No_broadcastReadyOnce_13 : decode b_No_broadcastReadyOnce 13 = .ok (.getfield 105, 3) := by decide +kernel
theorem d_No_broadcastReadyOnce_16 : decode b_No_broadcastReadyOnce 16 = .ok (.iload_n 1, 1) := by decide +kernel
theorem d_No_broadcastReadyOnce_17 : decode b_No_broadcastReadyOnce 17 = .ok (.invokestatic 80, 3) := by decide +kernel
theorem d_No_broadcastReadyOnce_20 : decode b_No_broadcastReadyOnce 20 = .ok (.lor, 1) := by decide +kernel
theorem d_No_broadcastReadyOnce_21 : decode b_No_broadcastReadyOnce 21 = .ok (.putfield 105, 3) := by decide +kernel
theorem d_No_broadcastReadyOnce_24 : decode b_No_broadcastReadyOnce 24 = .ok (.aload_n 0, 1) := by decide +kernel
theorem d_No_broadcastReadyOnce_25 : decode b_No_broadcastReadyOnce 25 = .ok (.getfield 50, 3) := by decide +kernel
theorem d_No_broadcastReadyOnce_28 : decode b_No_broadcastReadyOnce 28 = .ok (.iconst 2, 1) := by decide +kernel
theorem d_No_broadcastReadyOnce_29 : decode b_No_broadcastReadyOnce 29 = .ok (.aload_n 0, 1) := by decide +kernel
theorem d_No_broadcastReadyOnce_30 : decode b_No_broadcastReadyOnce 30 = .ok (.getfield 39, 3) := by decide +kernel
theorem d_No_broadcastReadyOnce_33 : decode b_No_broadcastReadyOnce 33 = .ok (.iload_n 2, 1) := by decide +kernel
theorem d_No_broadcastReadyOnce_34 : decode b_No_broadcastReadyOnce 34 = .ok (.invokevirtual 84, 3) := by decide +kernel
theorem d_No_broadcastReadyOnce_37 : decode b_No_broadcastReadyOnce 37 = .ok (.return_, 1) := by decide +kernel
theorem d_No_goOn_0 : decode b_No_goOn 0 = .ok (.aload_n 0, 1) := by decide +kernel
theorem d_No_goOn_1 : decode b_No_goOn 1 = .ok (.getfield 108, 3) := by decide +kernel
theorem d_No_goOn_4 : decode b_No_goOn 4 = .ok (.bipush 12, 2) := by decide +kernel
theorem d_No_goOn_6 : decode b_No_goOn 6 = .ok (.if_icmp .ge 75, 3) := by decide +kernel
theorem d_No_goOn_9 : decode b_No_goOn 9 = .ok (.aload_n 0, 1) := by decide +kernel
theorem d_No_goOn_10 : decode b_No_goOn 10 = .ok (.getfield 108, 3) := by decide +kernel
theorem d_No_goOn_13 : decode b_No_goOn 13 = .ok (.ifCond .eq 17, 3) := by decide +kernel
theorem d_No_goOn_16 : decode b_No_goOn 16 = .ok (.aload_n 0, 1) := by decide +kernel
theorem d_No_goOn_17 : decode b_No_goOn 17 = .ok (.getfield 59, 3) := by decide +kernel
theorem d_No_goOn_20 : decode b_No_goOn 20 = .ok (.aload_n 0, 1) := by decide +kernel
theorem d_No_goOn_21 : decode b_No_goOn 21 = .ok (.getfield 108, 3) := by decide +kernel
theorem d_No_goOn_24 : decode b_No_goOn 24 = .ok (.invokevirtual 111, 3) := by decide +kernel
theorem d_No_goOn_27 : decode b_No_goOn 27 = .ok (.ifCond .eq 54, 3) := by decide +kernel
theorem d_No_goOn_30 : decode b_No_goOn 30 = .ok (.aload_n 0, 1) := by decide +kernel
theorem d_No_goOn_31 : decode b_No_goOn 31 = .ok (.getfield 108, 3) := by decide +kernel
theorem d_No_goOn_34 : decode b_No_goOn 34 = .ok (.iconst 4, 1) := by decide +kernel
theorem d_No_goOn_35 : decode b_No_goOn 35 = .ok (.idiv, 1) := by decide +kernel
theorem d_No_goOn_36 : decode b_No_goOn 36 = .ok (.istore_n 1, 1) := by decide +kernel
theorem d_No_goOn_37 : decode b_No_goOn 37 = .ok (.iload_n 1, 1) := by decide +kernel
theorem d_No_goOn_38 : decode b_No_goOn 38 = .ok (.ifCond .le 26, 3) := by decide +kernel
theorem d_No_goOn_41 : decode b_No_goOn 41 = .ok (.aload_n 0, 1) := by decide +kernel
theorem d_No_goOn_42 : decode b_No_goOn 42 = .ok (.getfield 108, 3) := by decide +kernel
theorem d_No_goOn_45 : decode b_No_goOn 45 = .ok (.iconst 4, 1) := by decide +kernel
theorem d_No_goOn_46 : decode b_No_goOn 46 = .ok (.iload_n 1, 1) := by decide +kernel
end
section
theorem d_No_goOn_47 : decode b_No_goOn 47 = .ok (.imul, 1) := by decide +kernel
theorem d_No_goOn_48 : decode b_No_goOn 48 = .ok (.if_icmp .ne 16, 3) := by decide +kernel
theorem d_No_goOn_51 : decode b_No_goOn 51 = .ok (.aload_n 0, 1) := by decide +kernel
theorem d_No_goOn_52 : decode b_No_goOn 52 = .ok (.iload_n 1, 1) := by decide +kernel
theorem d_No_goOn_53 : decode b_No_goOn 53 = .ok (.invokevirtual 115, 3) := by decide +kernel
theorem d_No_goOn_56 : decode b_No_goOn 56 = .ok (.ifCond .eq 8, 3) := by decide +kernel
theorem d_No_goOn_59 : decode b_No_goOn 59 = .ok (.aload_n 0, 1) := by decide +kernel
theorem d_No_goOn_60 : decode b_No_goOn 60 = .ok (.iload_n 1, 1) := by decide +kernel
theorem d_No_goOn_61 : decode b_No_goOn 61 = .ok (.invokevirtual 118, 3) := by decide +kernel
theorem d_No_goOn_64 : decode b_No_goOn 64 = .ok (.aload_n 0, 1) := by decide +kernel
theorem d_No_goOn_65 : decode b_No_goOn 65 = .ok (.dup, 1) := by decide +kernel
theorem d_No_goOn_66 : decode b_No_goOn 66 = .ok (.getfield 108, 3) := by decide +kernel
theorem d_No_goOn_69 : decode b_No_goOn 69 = .ok (.iconst 1, 1) := by decide +kernel
theorem d_No_goOn_70 : decode b_No_goOn 70 = .ok (.iadd, 1) := by decide +kernel
theorem d_No_goOn_71 : decode b_No_goOn 71 = .ok (.putfield 108, 3) := by decide +kernel
theorem d_No_goOn_74 : decode b_No_goOn 74 = .ok (.aload_n 0, 1) := by decide +kernel
theorem d_No_goOn_75 : decode b_No_goOn 75 = .ok (.invokevirtual 121, 3) := by decide +kernel
theorem d_No_goOn_78 : decode b_No_goOn 78 = .ok (.goto (-78), 3) := by decide +kernel
theorem d_No_goOn_81 : decode b_No_goOn 81 = .ok (.aload_n 0, 1) := by decide +kernel
theorem d_No_goOn_82 : decode b_No_goOn 82 = .ok (.getfield 124, 3) := by decide +kernel
theorem d_No_goOn_85 : decode b_No_goOn 85 = .ok (.ifCond .ne 33, 3) := by decide +kernel
theorem d_No_goOn_88 : decode b_No_goOn 88 = .ok (.aload_n 0, 1) := by decide +kernel
theorem d_No_goOn_89 : decode b_No_goOn 89 = .ok (.getfield 59, 3) := by decide +kernel
theorem d_No_goOn_92 : decode b_No_goOn 92 = .ok (.bipush 12, 2) := by decide +kernel
theorem d_No_goOn_94 : decode b_No_goOn 94 = .ok (.invokevirtual 111, 3) := by decide +kernel
theorem d_No_goOn_97 : decode b_No_goOn 97 = .ok (.ifCond .eq 21, 3) := by decide +kernel
theorem d_No_goOn_100 : decode b_No_goOn 100 = .ok (.aload_n 0, 1) := by decide +kernel
theorem d_No_goOn_101 : decode b_No_goOn 101 = .ok (.iconst 1, 1) := by decide +kernel
theorem d_No_goOn_102 : decode b_No_goOn 102 = .ok (.putfield 124, 3) := by decide +kernel
theorem d_No_goOn_105 : decode b_No_goOn 105 = .ok (.aload_n 0, 1) := by decide +kernel
theorem d_No_goOn_106 : decode b_No_goOn 106 = .ok (.iconst 3, 1) := by decide +kernel
theorem d_No_goOn_107 : decode b_No_goOn 107 = .ok (.invokevirtual 115, 3) := by decide +kernel
theorem d_No_goOn_110 : decode b_No_goOn 110 = .ok (.ifCond .eq 8, 3) := by decide +kernel
theorem d_No_goOn_113 : decode b_No_goOn 113 = .ok (.aload_n 0, 1) := by decide +kernel
theorem d_No_goOn_114 : decode b_No_goOn 114 = .ok (.iconst 3, 1) := by decide +kernel
theorem d_No_goOn_115 : decode b_No_goOn 115 = .ok (.invokevirtual 118, 3) := by decide +kernel
theorem d_No_goOn_118 : decode b_No_goOn 118 = .ok (.return_, 1) := by decide +kernel
theorem d_No_broadcastOwnVertex_0 : decode b_No_broadcastOwnVertex 0 = .ok (.aload_n 0, 1) := by decide +kernel
theorem d_No_broadcastOwnVertex_1 : decode b_No_broadcastOwnVertex 1 = .ok (.getfield 108, 3) := by decide +kernel
theorem d_No_broadcastOwnVertex_4 : decode b_No_broadcastOwnVertex 4 = .ok (.iconst 1, 1) := by decide +kernel
theorem d_No_broadcastOwnVertex_5 : decode b_No_broadcastOwnVertex 5 = .ok (.if_icmp .ne 7, 3) := by decide +kernel
theorem d_No_broadcastOwnVertex_8 : decode b_No_broadcastOwnVertex 8 = .ok (.iconst 0, 1) := by decide +kernel
theorem d_No_broadcastOwnVertex_9 : decode b_No_broadcastOwnVertex 9 = .ok (.goto 16, 3) := by decide +kernel
theorem d_No_broadcastOwnVertex_12 : decode b_No_broadcastOwnVertex 12 = .ok (.aload_n 0, 1) := by decide +kernel
theorem d_No_broadcastOwnVertex_13 : decode b_No_broadcastOwnVertex 13 = .ok (.getfield 59, 3) := by decide +kernel
theorem d_No_broadcastOwnVertex_16 : decode b_No_broadcastOwnVertex 16 = .ok (.aload_n 0, 1) := by decide +kernel
theorem d_No_broadcastOwnVertex_17 : decode b_No_broadcastOwnVertex 17 = .ok (.getfield 108, 3) := by decide +kernel
theorem d_No_broadcastOwnVertex_20 : decode b_No_broadcastOwnVertex 20 = .ok (.iconst 1, 1) := by decide +kernel
theorem d_No_broadcastOwnVertex_21 : decode b_No_broadcastOwnVertex 21 = .ok (.isub, 1) := by decide +kernel
theorem d_No_broadcastOwnVertex_22 : decode b_No_broadcastOwnVertex 22 = .ok (.invokevirtual 128, 3) := by decide +kernel
theorem d_No_broadcastOwnVertex_25 : decode b_No_broadcastOwnVertex 25 = .ok (.istore_n 1, 1) := by decide +kernel
theorem d_No_broadcastOwnVertex_26 : decode b_No_broadcastOwnVertex 26 = .ok (.aload_n 0, 1) := by decide +kernel
theorem d_No_broadcastOwnVertex_27 : decode b_No_broadcastOwnVertex 27 = .ok (.getfield 108, 3) := by decide +kernel
theorem d_No_broadcastOwnVertex_30 : decode b_No_broadcastOwnVertex 30 = .ok (.iconst 1, 1) := by decide +kernel
theorem d_No_broadcastOwnVertex_31 : decode b_No_broadcastOwnVertex 31 = .ok (.if_icmp .ne 7, 3) := by decide +kernel
theorem d_No_broadcastOwnVertex_34 : decode b_No_broadcastOwnVertex 34 = .ok (.lconst 0, 1) := by decide +kernel
theorem d_No_broadcastOwnVertex_35 : decode b_No_broadcastOwnVertex 35 = .ok (.goto 14, 3) := by decide +kernel
theorem d_No_broadcastOwnVertex_38 : decode b_No_broadcastOwnVertex 38 = .ok (.aload_n 0, 1) := by decide +kernel
theorem d_No_broadcastOwnVertex_39 : decode b_No_broadcastOwnVertex 39 = .ok (.getfield 59, 3) := by decide +kernel
theorem d_No_broadcastOwnVertex_42 : decode b_No_broadcastOwnVertex 42 = .ok (.aload_n 0, 1) := by decide +kernel
theorem d_No_broadcastOwnVertex_43 : decode b_No_broadcastOwnVertex 43 = .ok (.getfield 108, 3) := by decide +kernel
theorem d_No_broadcastOwnVertex_46 : decode b_No_broadcastOwnVertex 46 = .ok (.invokevirtual 131, 3) := by decide +kernel
theorem d_No_broadcastOwnVertex_49 : decode b_No_broadcastOwnVertex 49 = .ok (.lstore_n 2, 1) := by decide +kernel
theorem d_No_broadcastOwnVertex_50 : decode b_No_broadcastOwnVertex 50 = .ok (.aload_n 0, 1) := by decide +kernel
theorem d_No_broadcastOwnVertex_51 : decode b_No_broadcastOwnVertex 51 = .ok (.getfield 108, 3) := by decide +kernel
theorem d_No_broadcastOwnVertex_54 : decode b_No_broadcastOwnVertex 54 = .ok (.aload_n 0, 1) := by decide +kernel
theorem d_No_broadcastOwnVertex_55 : decode b_No_broadcastOwnVertex 55 = .ok (.getfield 39, 3) := by decide +kernel
theorem d_No_broadcastOwnVertex_58 : decode b_No_broadcastOwnVertex 58 = .ok (.invokestatic 134, 3) := by decide +kernel
theorem d_No_broadcastOwnVertex_61 : decode b_No_broadcastOwnVertex 61 = .ok (.istore 4, 2) := by decide +kernel
theorem d_No_broadcastOwnVertex_63 : decode b_No_broadcastOwnVertex 63 = .ok (.aload_n 0, 1) := by decide +kernel
theorem d_No_broadcastOwnVertex_64 : decode b_No_broadcastOwnVertex 64 = .ok (.getfield 46, 3) := by decide +kernel
theorem d_No_broadcastOwnVertex_67 : decode b_No_broadcastOwnVertex 67 = .ok (.iload 4, 2) := by decide +kernel
theorem d_No_broadcastOwnVertex_69 : decode b_No_broadcastOwnVertex 69 = .ok (.iload_n 1, 1) := by decide +kernel
theorem d_No_broadcastOwnVertex_70 : decode b_No_broadcastOwnVertex 70 = .ok (.lload_n 2, 1) := by decide +kernel
theorem d_No_broadcastOwnVertex_71 : decode b_No_broadcastOwnVertex 71 = .ok (.aload_n 0, 1) := by decide +kernel
theorem d_No_broadcastOwnVertex_72 : decode b_No_broadcastOwnVertex 72 = .ok (.getfield 21, 3) := by decide +kernel
theorem d_No_broadcastOwnVertex_75 : decode b_No_broadcastOwnVertex 75 = .ok (.invokevirtual 138, 3) := by decide +kernel
theorem d_No_broadcastOwnVertex_78 : decode b_No_broadcastOwnVertex 78 = .ok (.invokevirtual 142, 3) := by decide +kernel
theorem d_No_broadcastOwnVertex_81 : decode b_No_broadcastOwnVertex 81 = .ok (.istore 5, 2) := by decide +kernel
theorem d_No_broadcastOwnVertex_83 : decode b_No_broadcastOwnVertex 83 = .ok (.aload_n 0, 1) := by decide +kernel
theorem d_No_broadcastOwnVertex_84 : decode b_No_broadcastOwnVertex 84 = .ok (.getfield 50, 3) := by decide +kernel
theorem d_No_broadcastOwnVertex_87 : decode b_No_broadcastOwnVertex 87 = .ok (.iconst 0, 1) := by decide +kernel
theorem d_No_broadcastOwnVertex_88 : decode b_No_broadcastOwnVertex 88 = .ok (.aload_n 0, 1) := by decide +kernel
theorem d_No_broadcastOwnVertex_89 : decode b_No_broadcastOwnVertex 89 = .ok (.getfield 39, 3) := by decide +kernel
theorem d_No_broadcastOwnVertex_92 : decode b_No_broadcastOwnVertex 92 = .ok (.iload 5, 2) := by decide +kernel
theorem d_No_broadcastOwnVertex_94 : decode b_No_broadcastOwnVertex 94 = .ok (.invokevirtual 84, 3) := by decide +kernel
theorem d_No_broadcastOwnVertex_97 : decode b_No_broadcastOwnVertex 97 = .ok (.return_, 1) := by decide +kernel
theorem d_No_mayCommit_0 : decode b_No_mayCommit 0 = .ok (.aload_n 0, 1) := by decide +kernel
theorem d_No_mayCommit_1 : decode b_No_mayCommit 1 = .ok (.iload_n 1, 1) := by decide +kernel
theorem d_No_mayCommit_2 : decode b_No_mayCommit 2 = .ok (.invokevirtual 146, 3) := by decide +kernel
theorem d_No_mayCommit_5 : decode b_No_mayCommit 5 = .ok (.istore_n 2, 1) := by decide +kernel
theorem d_No_mayCommit_6 : decode b_No_mayCommit 6 = .ok (.aload_n 0, 1) := by decide +kernel
theorem d_No_mayCommit_7 : decode b_No_mayCommit 7 = .ok (.getfield 59, 3) := by decide +kernel
theorem d_No_mayCommit_10 : decode b_No_mayCommit 10 = .ok (.iload_n 2, 1) := by decide +kernel
theorem d_No_mayCommit_11 : decode b_No_mayCommit 11 = .ok (.invokevirtual 149, 3) := by decide +kernel
theorem d_No_mayCommit_14 : decode b_No_mayCommit 14 = .ok (.ifCond .eq 22, 3) := by decide +kernel
theorem d_No_mayCommit_17 : decode b_No_mayCommit 17 = .ok (.aload_n 0, 1) := by decide +kernel
theorem d_No_mayCommit_18 : decode b_No_mayCommit 18 = .ok (.getfield 59, 3) := by decide +kernel
theorem d_No_mayCommit_21 : decode b_No_mayCommit 21 = .ok (.iconst 4, 1) := by decide +kernel
theorem d_No_mayCommit_22 : decode b_No_mayCommit 22 = .ok (.iload_n 1, 1) := by decide +kernel
theorem d_No_mayCommit_23 : decode b_No_mayCommit 23 = .ok (.imul, 1) := by decide +kernel
theorem d_No_mayCommit_24 : decode b_No_mayCommit 24 = .ok (.iload_n 2, 1) := by decide +kernel
theorem d_No_mayCommit_25 : decode b_No_mayCommit 25 = .ok (.invokevirtual 152, 3) := by decide +kernel
theorem d_No_mayCommit_28 : decode b_No_mayCommit 28 = .ok (.iconst 3, 1) := by decide +kernel
theorem d_No_mayCommit_29 : decode b_No_mayCommit 29 = .ok (.if_icmp .lt 7, 3) := by decide +kernel
theorem d_No_mayCommit_32 : decode b_No_mayCommit 32 = .ok (.iconst 1, 1) := by decide +kernel
theorem d_No_mayCommit_33 : decode b_No_mayCommit 33 = .ok (.goto 4, 3) := by decide +kernel
theorem d_No_mayCommit_36 : decode b_No_mayCommit 36 = .ok (.iconst 0, 1) := by decide +kernel
theorem d_No_mayCommit_37 : decode b_No_mayCommit 37 = .ok (.ireturn, 1) := by decide +kernel
theorem d_No_leaderOf_0 : decode b_No_leaderOf 0 = .ok (.aload_n 0, 1) := by decide +kernel
theorem d_No_leaderOf_1 : decode b_No_leaderOf 1 = .ok (.getfield 43, 3) := by decide +kernel
theorem d_No_leaderOf_4 : decode b_No_leaderOf 4 = .ok (.iconst 2, 1) := by decide +kernel
theorem d_No_leaderOf_5 : decode b_No_leaderOf 5 = .ok (.iload_n 1, 1) := by decide +kernel
theorem d_No_leaderOf_6 : decode b_No_leaderOf 6 = .ok (.iconst 1, 1) := by decide +kernel
theorem d_No_leaderOf_7 : decode b_No_leaderOf 7 = .ok (.isub, 1) := by decide +kernel
theorem d_No_leaderOf_8 : decode b_No_leaderOf 8 = .ok (.imul, 1) := by decide +kernel
theorem d_No_leaderOf_9 : decode b_No_leaderOf 9 = .ok (.iushr, 1) := by decide +kernel
theorem d_No_leaderOf_10 : decode b_No_leaderOf 10 = .ok (.iconst 3, 1) := by decide +kernel
theorem d_No_leaderOf_11 : decode b_No_leaderOf 11 = .ok (.iand, 1) := by decide +kernel
theorem d_No_leaderOf_12 : decode b_No_leaderOf 12 = .ok (.istore_n 2, 1) := by decide +kernel
theorem d_No_leaderOf_13 : decode b_No_leaderOf 13 = .ok (.iconst 4, 1) := by decide +kernel
theorem d_No_leaderOf_14 : decode b_No_leaderOf 14 = .ok (.iload_n 1, 1) := by decide +kernel
theorem d_No_leaderOf_15 : decode b_No_leaderOf 15 = .ok (.iconst 1, 1) := by decide +kernel
theorem d_No_leaderOf_16 : decode b_No_leaderOf 16 = .ok (.isub, 1) := by decide +kernel
theorem d_No_leaderOf_17 : decode b_No_leaderOf 17 = .ok (.imul, 1) := by decide +kernel
theorem d_No_leaderOf_18 : decode b_No_leaderOf 18 = .ok (.iconst 1, 1) := by decide +kernel
theorem d_No_leaderOf_19 : decode b_No_leaderOf 19 = .ok (.iadd, 1) := by decide +kernel
theorem d_No_leaderOf_20 : decode b_No_leaderOf 20 = .ok (.iload_n 2, 1) := by decide +kernel
theorem d_No_leaderOf_21 : decode b_No_leaderOf 21 = .ok (.invokestatic 134, 3) := by decide +kernel
theorem d_No_leaderOf_24 : decode b_No_leaderOf 24 = .ok (.ireturn, 1) := by decide +kernel
theorem d_No_commit_0 : decode b_No_commit 0 = .ok (.aload_n 0, 1) := by decide +kernel
theorem d_No_commit_1 : decode b_No_commit 1 = .ok (.getfield 35, 3) := by decide +kernel
theorem d_No_commit_4 : decode b_No_commit 4 = .ok (.iconst 0, 1) := by decide +kernel
theorem d_No_commit_5 : decode b_No_commit 5 = .ok (.aload_n 0, 1) := by decide +kernel
theorem d_No_commit_6 : decode b_No_commit 6 = .ok (.iload_n 1, 1) := by decide +kernel
theorem d_No_commit_7 : decode b_No_commit 7 = .ok (.invokevirtual 146, 3) := by decide +kernel
theorem d_No_commit_10 : decode b_No_commit 10 = .ok (.iastore, 1) := by decide +kernel
theorem d_No_commit_11 : decode b_No_commit 11 = .ok (.iconst 1, 1) := by decide +kernel
theorem d_No_commit_12 : decode b_No_commit 12 = .ok (.istore_n 2, 1) := by decide +kernel
theorem d_No_commit_13 : decode b_No_commit 13 = .ok (.iload_n 1, 1) := by decide +kernel
theorem d_No_commit_14 : decode b_No_commit 14 = .ok (.iconst 1, 1) := by decide +kernel
theorem d_No_commit_15 : decode b_No_commit 15 = .ok (.isub, 1) := by decide +kernel
theorem d_No_commit_16 : decode b_No_commit 16 = .ok (.istore_n 3, 1) := by decide +kernel
theorem d_No_commit_17 : decode b_No_commit 17 = .ok (.iload_n 3, 1) := by decide +kernel
theorem d_No_commit_18 : decode b_No_commit 18 = .ok (.aload_n 0, 1) := by decide +kernel
theorem d_No_commit_19 : decode b_No_commit 19 = .ok (.getfield 155, 3) := by decide +kernel
theorem d_No_commit_22 : decode b_No_commit 22 = .ok (.if_icmp .le 47, 3) := by decide +kernel
theorem d_No_commit_25 : decode b_No_commit 25 = .ok (.aload_n 0, 1) := by decide +kernel
theorem d_No_commit_26 : decode b_No_commit 26 = .ok (.iload_n 3, 1) := by decide +kernel
theorem d_No_commit_27 : decode b_No_commit 27 = .ok (.invokevirtual 146, 3) := by decide +kernel
theorem d_No_commit_30 : decode b_No_commit 30 = .ok (.istore 4, 2) := by decide +kernel
theorem d_No_commit_32 : decode b_No_commit 32 = .ok (.aload_n 0, 1) := by decide +kernel
theorem d_No_commit_33 : decode b_No_commit 33 = .ok (.getfield 59, 3) := by decide +kernel
theorem d_No_commit_36 : decode b_No_commit 36 = .ok (.aload_n 0, 1) := by decide +kernel
theorem d_No_commit_37 : decode b_No_commit 37 = .ok (.getfield 35, 3) := by decide +kernel
theorem d_No_commit_40 : decode b_No_commit 40 = .ok (.iload_n 2, 1) := by decide +kernel
theorem d_No_commit_41 : decode b_No_commit 41 = .ok (.iconst 1, 1) := by decide +kernel
theorem d_No_commit_42 : decode b_No_commit 42 = .ok (.isub, 1) := by decide +kernel
theorem d_No_commit_43 : decode b_No_commit 43 = .ok (.iaload, 1) := by decide +kernel
theorem d_No_commit_44 : decode b_No_commit 44 = .ok (.iload 4, 2) := by decide +kernel
theorem d_No_commit_46 : decode b_No_commit 46 = .ok (.invokevirtual 158, 3) := by decide +kernel
theorem d_No_commit_49 : decode b_No_commit 49 = .ok (.ifCond .eq 14, 3) := by decide +kernel
theorem d_No_commit_52 : decode b_No_commit 52 = .ok (.aload_n 0, 1) := by decide +kernel
theorem d_No_commit_53 : decode b_No_commit 53 = .ok (.getfield 35, 3) := by decide +kernel
theorem d_No_commit_56 : decode b_No_commit 56 = .ok (.iload_n 2, 1) := by decide +kernel
theorem d_No_commit_57 : decode b_No_commit 57 = .ok (.iload 4, 2) := by decide +kernel
theorem d_No_commit_59 : decode b_No_commit 59 = .ok (.iastore, 1) := by decide +kernel
theorem d_No_commit_60 : decode b_No_commit 60 = .ok (.iinc 2 1, 3) := by decide +kernel
theorem d_No_commit_63 : decode b_No_commit 63 = .ok (.iinc 3 (-1), 3) := by decide +kernel
theorem d_No_commit_66 : decode b_No_commit 66 = .ok (.goto (-49), 3) := by decide +kernel
theorem d_No_commit_69 : decode b_No_commit 69 = .ok (.aload_n 0, 1) := by decide +kernel
theorem d_No_commit_70 : decode b_No_commit 70 = .ok (.iload_n 1, 1) := by decide +kernel
theorem d_No_commit_71 : decode b_No_commit 71 = .ok (.putfield 155, 3) := by decide +kernel
theorem d_No_commit_74 : decode b_No_commit 74 = .ok (.iload_n 2, 1) := by decide +kernel
theorem d_No_commit_75 : decode b_No_commit 75 = .ok (.iconst 1, 1) := by decide +kernel
theorem d_No_commit_76 : decode b_No_commit 76 = .ok (.isub, 1) := by decide +kernel
theorem d_No_commit_77 : decode b_No_commit 77 = .ok (.istore_n 3, 1) := by decide +kernel
theorem d_No_commit_78 : decode b_No_commit 78 = .ok (.iload_n 3, 1) := by decide +kernel
theorem d_No_commit_79 : decode b_No_commit 79 = .ok (.ifCond .lt 19, 3) := by decide +kernel
theorem d_No_commit_82 : decode b_No_commit 82 = .ok (.aload_n 0, 1) := by decide +kernel
theorem d_No_commit_83 : decode b_No_commit 83 = .ok (.aload_n 0, 1) := by decide +kernel
theorem d_No_commit_84 : decode b_No_commit 84 = .ok (.getfield 35, 3) := by decide +kernel
theorem d_No_commit_87 : decode b_No_commit 87 = .ok (.iload_n 3, 1) := by decide +kernel
theorem d_No_commit_88 : decode b_No_commit 88 = .ok (.iaload, 1) := by decide +kernel
theorem d_No_commit_89 : decode b_No_commit 89 = .ok (.invokevirtual 162, 3) := by decide +kernel
theorem d_No_commit_92 : decode b_No_commit 92 = .ok (.iinc 3 (-1), 3) := by decide +kernel
theorem d_No_commit_95 : decode b_No_commit 95 = .ok (.goto (-17), 3) := by decide +kernel
theorem d_No_commit_98 : decode b_No_commit 98 = .ok (.return_, 1) := by decide +kernel
theorem d_No_orderFrom_0 : decode b_No_orderFrom 0 = .ok (.aload_n 0, 1) := by decide +kernel
theorem d_No_orderFrom_1 : decode b_No_orderFrom 1 = .ok (.getfield 59, 3) := by decide +kernel
theorem d_No_orderFrom_4 : decode b_No_orderFrom 4 = .ok (.getfield 165, 3) := by decide +kernel
theorem d_No_orderFrom_7 : decode b_No_orderFrom 7 = .ok (.iload_n 1, 1) := by decide +kernel
theorem d_No_orderFrom_8 : decode b_No_orderFrom 8 = .ok (.laload, 1) := by decide +kernel
theorem d_No_orderFrom_9 : decode b_No_orderFrom 9 = .ok (.iload_n 1, 1) := by decide +kernel
theorem d_No_orderFrom_10 : decode b_No_orderFrom 10 = .ok (.invokestatic 80, 3) := by decide +kernel
theorem d_No_orderFrom_13 : decode b_No_orderFrom 13 = .ok (.lor, 1) := by decide +kernel
theorem d_No_orderFrom_14 : decode b_No_orderFrom 14 = .ok (.aload_n 0, 1) := by decide +kernel
theorem d_No_orderFrom_15 : decode b_No_orderFrom 15 = .ok (.getfield 12, 3) := by decide +kernel
theorem d_No_orderFrom_18 : decode b_No_orderFrom 18 = .ok (.getfield 169, 3) := by decide +kernel
theorem d_No_orderFrom_21 : decode b_No_orderFrom 21 = .ok (.ldc2_w 172, 3) := by decide +kernel
theorem d_No_orderFrom_24 : decode b_No_orderFrom 24 = .ok (.lxor, 1) := by decide +kernel
theorem d_No_orderFrom_25 : decode b_No_orderFrom 25 = .ok (.land, 1) := by decide +kernel
theorem d_No_orderFrom_26 : decode b_No_orderFrom 26 = .ok (.lstore_n 2, 1) := by decide +kernel
theorem d_No_orderFrom_27 : decode b_No_orderFrom 27 = .ok (.iconst 0, 1) := by decide +kernel
theorem d_No_orderFrom_28 : decode b_No_orderFrom 28 = .ok (.istore 4, 2) := by decide +kernel
theorem d_No_orderFrom_30 : decode b_No_orderFrom 30 = .ok (.iload 4, 2) := by decide +kernel
theorem d_No_orderFrom_32 : decode b_No_orderFrom 32 = .ok (.bipush 48, 2) := by decide +kernel
theorem d_No_orderFrom_34 : decode b_No_orderFrom 34 = .ok (.if_icmp .ge 45, 3) := by decide +kernel
theorem d_No_orderFrom_37 : decode b_No_orderFrom 37 = .ok (.lload_n 2, 1) := by decide +kernel
theorem d_No_orderFrom_38 : decode b_No_orderFrom 38 = .ok (.iload 4, 2) := by decide +kernel
theorem d_No_orderFrom_40 : decode b_No_orderFrom 40 = .ok (.invokestatic 76, 3) := by decide +kernel
theorem d_No_orderFrom_43 : decode b_No_orderFrom 43 = .ok (.ifCond .eq 30, 3) := by decide +kernel
theorem d_No_orderFrom_46 : decode b_No_orderFrom 46 = .ok (.aload_n 0, 1) := by decide +kernel
theorem d_No_orderFrom_47 : decode b_No_orderFrom 47 = .ok (.getfield 12, 3) := by decide +kernel
theorem d_No_orderFrom_50 : decode b_No_orderFrom 50 = .ok (.iload 4, 2) := by decide +kernel
theorem d_No_orderFrom_52 : decode b_No_orderFrom 52 = .ok (.aload_n 0, 1) := by decide +kernel
theorem d_No_orderFrom_53 : decode b_No_orderFrom 53 = .ok (.getfield 46, 3) := by decide +kernel
theorem d_No_orderFrom_56 : decode b_No_orderFrom 56 = .ok (.getfield 174, 3) := by decide +kernel
theorem d_No_orderFrom_59 : decode b_No_orderFrom 59 = .ok (.aload_n 0, 1) := by decide +kernel
theorem d_No_orderFrom_60 : decode b_No_orderFrom 60 = .ok (.getfield 59, 3) := by decide +kernel
theorem d_No_orderFrom_63 : decode b_No_orderFrom 63 = .ok (.getfield 98, 3) := by decide +kernel
theorem d_No_orderFrom_66 : decode b_No_orderFrom 66 = .ok (.iload 4, 2) := by decide +kernel
theorem d_No_orderFrom_68 : decode b_No_orderFrom 68 = .ok (.iaload, 1) := by decide +kernel
theorem d_No_orderFrom_69 : decode b_No_orderFrom 69 = .ok (.iaload, 1) := by decide +kernel
theorem d_No_orderFrom_70 : decode b_No_orderFrom 70 = .ok (.invokevirtual 177, 3) := by decide +kernel
theorem d_No_orderFrom_73 : decode b_No_orderFrom 73 = .ok (.iinc 4 1, 3) := by decide +kernel
theorem d_No_orderFrom_76 : decode b_No_orderFrom 76 = .ok (.goto (-46), 3) := by decide +kernel
theorem d_No_orderFrom_79 : decode b_No_orderFrom 79 = .ok (.return_, 1) := by decide +kernel
theorem d_Tq_init_0 : decode b_Tq_init 0 = .ok (.aload_n 0, 1) := by decide +kernel
theorem d_Tq_init_1 : decode b_Tq_init 1 = .ok (.invokespecial 3, 3) := by decide +kernel
theorem d_Tq_init_4 : decode b_Tq_init 4 = .ok (.aload_n 0, 1) := by decide +kernel
theorem d_Tq_init_5 : decode b_Tq_init 5 = .ok (.bipush 12, 2) := by decide +kernel
theorem d_Tq_init_7 : decode b_Tq_init 7 = .ok (.newarray .int, 2) := by decide +kernel
theorem d_Tq_init_9 : decode b_Tq_init 9 = .ok (.putfield 9, 3) := by decide +kernel
theorem d_Tq_init_12 : decode b_Tq_init 12 = .ok (.return_, 1) := by decide +kernel
theorem d_Tq_isFull_0 : decode b_Tq_isFull 0 = .ok (.aload_n 0, 1) := by decide +kernel
theorem d_Tq_isFull_1 : decode b_Tq_isFull 1 = .ok (.getfield 15, 3) := by decide +kernel
theorem d_Tq_isFull_4 : decode b_Tq_isFull 4 = .ok (.bipush 12, 2) := by decide +kernel
theorem d_Tq_isFull_6 : decode b_Tq_isFull 6 = .ok (.if_icmp .lt 7, 3) := by decide +kernel
theorem d_Tq_isFull_9 : decode b_Tq_isFull 9 = .ok (.iconst 1, 1) := by decide +kernel
theorem d_Tq_isFull_10 : decode b_Tq_isFull 10 = .ok (.goto 4, 3) := by decide +kernel
theorem d_Tq_isFull_13 : decode b_Tq_isFull 13 = .ok (.iconst 0, 1) := by decide +kernel
theorem d_Tq_isFull_14 : decode b_Tq_isFull 14 = .ok (.ireturn, 1) := by decide +kernel
theorem d_Tq_append_0 : decode b_Tq_append 0 = .ok (.aload_n 0, 1) := by decide +kernel
theorem d_Tq_append_1 : decode b_Tq_append 1 = .ok (.getfield 9, 3) := by decide +kernel
theorem d_Tq_append_4 : decode b_Tq_append 4 = .ok (.aload_n 0, 1) := by decide +kernel
theorem d_Tq_append_5 : decode b_Tq_append 5 = .ok (.getfield 15, 3) := by decide +kernel
theorem d_Tq_append_8 : decode b_Tq_append 8 = .ok (.iload_n 1, 1) := by decide +kernel
theorem d_Tq_append_9 : decode b_Tq_append 9 = .ok (.iastore, 1) := by decide +kernel
theorem d_Tq_append_10 : decode b_Tq_append 10 = .ok (.aload_n 0, 1) := by decide +kernel
theorem d_Tq_append_11 : decode b_Tq_append 11 = .ok (.dup, 1) := by decide +kernel
theorem d_Tq_append_12 : decode b_Tq_append 12 = .ok (.getfield 15, 3) := by decide +kernel
theorem d_Tq_append_15 : decode b_Tq_append 15 = .ok (.iconst 1, 1) := by decide +kernel
theorem d_Tq_append_16 : decode b_Tq_append 16 = .ok (.iadd, 1) := by decide +kernel
theorem d_Tq_append_17 : decode b_Tq_append 17 = .ok (.putfield 15, 3) := by decide +kernel
theorem d_Tq_append_20 : decode b_Tq_append 20 = .ok (.return_, 1) := by decide +kernel
theorem d_Tq_takeFirstOrNone_0 : decode b_Tq_takeFirstOrNone 0 = .ok (.aload_n 0, 1) := by decide +kernel
theorem d_Tq_takeFirstOrNone_1 : decode b_Tq_takeFirstOrNone 1 = .ok (.getfield 15, 3) := by decide +kernel
theorem d_Tq_takeFirstOrNone_4 : decode b_Tq_takeFirstOrNone 4 = .ok (.ifCond .ne 5, 3) := by decide +kernel
theorem d_Tq_takeFirstOrNone_7 : decode b_Tq_takeFirstOrNone 7 = .ok (.iconst 0, 1) := by decide +kernel
theorem d_Tq_takeFirstOrNone_8 : decode b_Tq_takeFirstOrNone 8 = .ok (.ireturn, 1) := by decide +kernel
theorem d_Tq_takeFirstOrNone_9 : decode b_Tq_takeFirstOrNone 9 = .ok (.aload_n 0, 1) := by decide +kernel
theorem d_Tq_takeFirstOrNone_10 : decode b_Tq_takeFirstOrNone 10 = .ok (.getfield 9, 3) := by decide +kernel
theorem d_Tq_takeFirstOrNone_13 : decode b_Tq_takeFirstOrNone 13 = .ok (.iconst 0, 1) := by decide +kernel
theorem d_Tq_takeFirstOrNone_14 : decode b_Tq_takeFirstOrNone 14 = .ok (.iaload, 1) := by decide +kernel
theorem d_Tq_takeFirstOrNone_15 : decode b_Tq_takeFirstOrNone 15 = .ok (.istore_n 1, 1) := by decide +kernel
theorem d_Tq_takeFirstOrNone_16 : decode b_Tq_takeFirstOrNone 16 = .ok (.aload_n 0, 1) := by decide +kernel
theorem d_Tq_takeFirstOrNone_17 : decode b_Tq_takeFirstOrNone 17 = .ok (.dup, 1) := by decide +kernel
theorem d_Tq_takeFirstOrNone_18 : decode b_Tq_takeFirstOrNone 18 = .ok (.getfield 15, 3) := by decide +kernel
theorem d_Tq_takeFirstOrNone_21 : decode b_Tq_takeFirstOrNone 21 = .ok (.iconst 1, 1) := by decide +kernel
theorem d_Tq_takeFirstOrNone_22 : decode b_Tq_takeFirstOrNone 22 = .ok (.isub, 1) := by decide +kernel
theorem d_Tq_takeFirstOrNone_23 : decode b_Tq_takeFirstOrNone 23 = .ok (.putfield 15, 3) := by decide +kernel
theorem d_Tq_takeFirstOrNone_26 : decode b_Tq_takeFirstOrNone 26 = .ok (.aload_n 0, 1) := by decide +kernel
theorem d_Tq_takeFirstOrNone_27 : decode b_Tq_takeFirstOrNone 27 = .ok (.getfield 9, 3) := by decide +kernel
theorem d_Tq_takeFirstOrNone_30 : decode b_Tq_takeFirstOrNone 30 = .ok (.iconst 1, 1) := by decide +kernel
theorem d_Tq_takeFirstOrNone_31 : decode b_Tq_takeFirstOrNone 31 = .ok (.aload_n 0, 1) := by decide +kernel
theorem d_Tq_takeFirstOrNone_32 : decode b_Tq_takeFirstOrNone 32 = .ok (.getfield 9, 3) := by decide +kernel
theorem d_Tq_takeFirstOrNone_35 : decode b_Tq_takeFirstOrNone 35 = .ok (.iconst 0, 1) := by decide +kernel
theorem d_Tq_takeFirstOrNone_36 : decode b_Tq_takeFirstOrNone 36 = .ok (.aload_n 0, 1) := by decide +kernel
theorem d_Tq_takeFirstOrNone_37 : decode b_Tq_takeFirstOrNone 37 = .ok (.getfield 15, 3) := by decide +kernel
theorem d_Tq_takeFirstOrNone_40 : decode b_Tq_takeFirstOrNone 40 = .ok (.invokestatic 19, 3) := by decide +kernel
theorem d_Tq_takeFirstOrNone_43 : decode b_Tq_takeFirstOrNone 43 = .ok (.iload_n 1, 1) := by decide +kernel
theorem d_Tq_takeFirstOrNone_44 : decode b_Tq_takeFirstOrNone 44 = .ok (.ireturn, 1) := by decide +kernel
theorem d_Ve_init_0 : decode b_Ve_init 0 = .ok (.aload_n 0, 1) := by decide +kernel
theorem d_Ve_init_1 : decode b_Ve_init 1 = .ok (.invokespecial 3, 3) := by decide +kernel
theorem d_Ve_init_4 : decode b_Ve_init 4 = .ok (.aload_n 0, 1) := by decide +kernel
theorem d_Ve_init_5 : decode b_Ve_init 5 = .ok (.bipush 73, 2) := by decide +kernel
theorem d_Ve_init_7 : decode b_Ve_init 7 = .ok (.newarray .int, 2) := by decide +kernel
theorem d_Ve_init_9 : decode b_Ve_init 9 = .ok (.putfield 9, 3) := by decide +kernel
theorem d_Ve_init_12 : decode b_Ve_init 12 = .ok (.aload_n 0, 1) := by decide +kernel
theorem d_Ve_init_13 : decode b_Ve_init 13 = .ok (.bipush 73, 2) := by decide +kernel
theorem d_Ve_init_15 : decode b_Ve_init 15 = .ok (.newarray .int, 2) := by decide +kernel
theorem d_Ve_init_17 : decode b_Ve_init 17 = .ok (.putfield 15, 3) := by decide +kernel
theorem d_Ve_init_20 : decode b_Ve_init 20 = .ok (.aload_n 0, 1) := by decide +kernel
theorem d_Ve_init_21 : decode b_Ve_init 21 = .ok (.bipush 73, 2) := by decide +kernel
theorem d_Ve_init_23 : decode b_Ve_init 23 = .ok (.newarray .long, 2) := by decide +kernel
theorem d_Ve_init_25 : decode b_Ve_init 25 = .ok (.putfield 18, 3) := by decide +kernel
theorem d_Ve_init_28 : decode b_Ve_init 28 = .ok (.aload_n 0, 1) := by decide +kernel
theorem d_Ve_init_29 : decode b_Ve_init 29 = .ok (.bipush 73, 2) := by decide +kernel
theorem d_Ve_init_31 : decode b_Ve_init 31 = .ok (.newarray .int, 2) := by decide +kernel
theorem d_Ve_init_33 : decode b_Ve_init 33 = .ok (.putfield 22, 3) := by decide +kernel
theorem d_Ve_init_36 : decode b_Ve_init 36 = .ok (.return_, 1) := by decide +kernel
theorem d_Ve_make_0 : decode b_Ve_make 0 = .ok (.aload_n 0, 1) := by decide +kernel
theorem d_Ve_make_1 : decode b_Ve_make 1 = .ok (.dup, 1) := by decide +kernel
theorem d_Ve_make_2 : decode b_Ve_make 2 = .ok (.getfield 25, 3) := by decide +kernel
theorem d_Ve_make_5 : decode b_Ve_make 5 = .ok (.iconst 1, 1) := by decide +kernel
theorem d_Ve_make_6 : decode b_Ve_make 6 = .ok (.iadd, 1) := by decide +kernel
theorem d_Ve_make_7 : decode b_Ve_make 7 = .ok (.putfield 25, 3) := by decide +kernel
theorem d_Ve_make_10 : decode b_Ve_make 10 = .ok (.aload_n 0, 1) := by decide +kernel
theorem d_Ve_make_11 : decode b_Ve_make 11 = .ok (.getfield 9, 3) := by decide +kernel
theorem d_Ve_make_14 : decode b_Ve_make 14 = .ok (.aload_n 0, 1) := by decide +kernel
theorem d_Ve_make_15 : decode b_Ve_make 15 = .ok (.getfield 25, 3) := by decide +kernel
theorem d_Ve_make_18 : decode b_Ve_make 18 = .ok (.iload_n 1, 1) := by decide +kernel
theorem d_Ve_make_19 : decode b_Ve_make 19 = .ok (.iastore, 1) := by decide +kernel
theorem d_Ve_make_20 : decode b_Ve_make 20 = .ok (.aload_n 0, 1) := by decide +kernel
theorem d_Ve_make_21 : decode b_Ve_make 21 = .ok (.getfield 15, 3) := by decide +kernel
theorem d_Ve_make_24 : decode b_Ve_make 24 = .ok (.aload_n 0, 1) := by decide +kernel
theorem d_Ve_make_25 : decode b_Ve_make 25 = .ok (.getfield 25, 3) := by decide +kernel
theorem d_Ve_make_28 : decode b_Ve_make 28 = .ok (.iload_n 2, 1) := by decide +kernel
theorem d_Ve_make_29 : decode b_Ve_make 29 = .ok (.iastore, 1) := by decide +kernel
theorem d_Ve_make_30 : decode b_Ve_make 30 = .ok (.aload_n 0, 1) := by decide +kernel
theorem d_Ve_make_31 : decode b_Ve_make 31 = .ok (.getfield 18, 3) := by decide +kernel
theorem d_Ve_make_34 : decode b_Ve_make 34 = .ok (.aload_n 0, 1) := by decide +kernel
theorem d_Ve_make_35 : decode b_Ve_make 35 = .ok (.getfield 25, 3) := by decide +kernel
theorem d_Ve_make_38 : decode b_Ve_make 38 = .ok (.lload_n 3, 1) := by decide +kernel
theorem d_Ve_make_39 : decode b_Ve_make 39 = .ok (.lastore, 1) := by decide +kernel
theorem d_Ve_make_40 : decode b_Ve_make 40 = .ok (.aload_n 0, 1) := by decide +kernel
theorem d_Ve_make_41 : decode b_Ve_make 41 = .ok (.getfield 22, 3) := by decide +kernel
theorem d_Ve_make_44 : decode b_Ve_make 44 = .ok (.aload_n 0, 1) := by decide +kernel
theorem d_Ve_make_45 : decode b_Ve_make 45 = .ok (.getfield 25, 3) := by decide +kernel
theorem d_Ve_make_48 : decode b_Ve_make 48 = .ok (.iload 5, 2) := by decide +kernel
theorem d_Ve_make_50 : decode b_Ve_make 50 = .ok (.iastore, 1) := by decide +kernel
theorem d_Ve_make_51 : decode b_Ve_make 51 = .ok (.aload_n 0, 1) := by decide +kernel
theorem d_Ve_make_52 : decode b_Ve_make 52 = .ok (.getfield 25, 3) := by decide +kernel
theorem d_Ve_make_55 : decode b_Ve_make 55 = .ok (.ireturn, 1) := by decide +kernel
theorem d_Ve_has_0 : decode b_Ve_has 0 = .ok (.iload_n 1, 1) := by decide +kernel
theorem d_Ve_has_1 : decode b_Ve_has 1 = .ok (.iconst 1, 1) := by decide +kernel
theorem d_Ve_has_2 : decode b_Ve_has 2 = .ok (.if_icmp .lt 15, 3) := by decide +kernel
theorem d_Ve_has_5 : decode b_Ve_has 5 = .ok (.iload_n 1, 1) := by decide +kernel
theorem d_Ve_has_6 : decode b_Ve_has 6 = .ok (.aload_n 0, 1) := by decide +kernel
theorem d_Ve_has_7 : decode b_Ve_has 7 = .ok (.getfield 25, 3) := by decide +kernel
theorem d_Ve_has_10 : decode b_Ve_has 10 = .ok (.if_icmp .gt 7, 3) := by decide +kernel
theorem d_Ve_has_13 : decode b_Ve_has 13 = .ok (.iconst 1, 1) := by decide +kernel
theorem d_Ve_has_14 : decode b_Ve_has 14 = .ok (.goto 4, 3) := by decide +kernel
theorem d_Ve_has_17 : decode b_Ve_has 17 = .ok (.iconst 0, 1) := by decide +kernel
theorem d_Ve_has_18 : decode b_Ve_has 18 = .ok (.ireturn, 1) := by decide +kernel
theorem d_Ve_sourceOf_0 : decode b_Ve_sourceOf 0 = .ok (.aload_n 0, 1) := by decide +kernel
theorem d_Ve_sourceOf_1 : decode b_Ve_sourceOf 1 = .ok (.getfield 9, 3) := by decide +kernel
theorem d_Ve_sourceOf_4 : decode b_Ve_sourceOf 4 = .ok (.iload_n 1, 1) := by decide +kernel
theorem d_Ve_sourceOf_5 : decode b_Ve_sourceOf 5 = .ok (.iaload, 1) := by decide +kernel
theorem d_Ve_sourceOf_6 : decode b_Ve_sourceOf 6 = .ok (.iconst 4, 1) := by decide +kernel
theorem d_Ve_sourceOf_7 : decode b_Ve_sourceOf 7 = .ok (.irem, 1) := by decide +kernel
theorem d_Ve_sourceOf_8 : decode b_Ve_sourceOf 8 = .ok (.ireturn, 1) := by decide +kernel
theorem d_Ve_isRight_0 : decode b_Ve_isRight 0 = .ok (.aload_n 0, 1) := by decide +kernel
theorem d_Ve_isRight_1 : decode b_Ve_isRight 1 = .ok (.getfield 9, 3) := by decide +kernel
theorem d_Ve_isRight_4 : decode b_Ve_isRight 4 = .ok (.iload_n 1, 1) := by decide +kernel
theorem d_Ve_isRight_5 : decode b_Ve_isRight 5 = .ok (.iaload, 1) := by decide +kernel
theorem d_Ve_isRight_6 : decode b_Ve_isRight 6 = .ok (.invokestatic 29, 3) := by decide +kernel
theorem d_Ve_isRight_9 : decode b_Ve_isRight 9 = .ok (.istore_n 2, 1) := by decide +kernel
theorem d_Ve_isRight_10 : decode b_Ve_isRight 10 = .ok (.iload_n 2, 1) := by decide +kernel
theorem d_Ve_isRight_11 : decode b_Ve_isRight 11 = .ok (.iconst 1, 1) := by decide +kernel
theorem d_Ve_isRight_12 : decode b_Ve_isRight 12 = .ok (.if_icmp .ne 29, 3) := by decide +kernel
theorem d_Ve_isRight_15 : decode b_Ve_isRight 15 = .ok (.aload_n 0, 1) := by decide +kernel
theorem d_Ve_isRight_16 : decode b_Ve_isRight 16 = .ok (.getfield 15, 3) := by decide +kernel
theorem d_Ve_isRight_19 : decode b_Ve_isRight 19 = .ok (.iload_n 1, 1) := by decide +kernel
theorem d_Ve_isRight_20 : decode b_Ve_isRight 20 = .ok (.iaload, 1) := by decide +kernel
theorem d_Ve_isRight_21 : decode b_Ve_isRight 21 = .ok (.ifCond .ne 18, 3) := by decide +kernel
theorem d_Ve_isRight_24 : decode b_Ve_isRight 24 = .ok (.aload_n 0, 1) := by decide +kernel
theorem d_Ve_isRight_25 : decode b_Ve_isRight 25 = .ok (.getfield 18, 3) := by decide +kernel
theorem d_Ve_isRight_28 : decode b_Ve_isRight 28 = .ok (.iload_n 1, 1) := by decide +kernel
theorem d_Ve_isRight_29 : decode b_Ve_isRight 29 = .ok (.laload, 1) := by decide +kernel
theorem d_Ve_isRight_30 : decode b_Ve_isRight 30 = .ok (.lconst 0, 1) := by decide +kernel
theorem d_Ve_isRight_31 : decode b_Ve_isRight 31 = .ok (.lcmp, 1) := by decide +kernel
theorem d_Ve_isRight_32 : decode b_Ve_isRight 32 = .ok (.ifCond .ne 7, 3) := by decide +kernel
theorem d_Ve_isRight_35 : decode b_Ve_isRight 35 = .ok (.iconst 1, 1) := by decide +kernel
theorem d_Ve_isRight_36 : decode b_Ve_isRight 36 = .ok (.goto 4, 3) := by decide +kernel
theorem d_Ve_isRight_39 : decode b_Ve_isRight 39 = .ok (.iconst 0, 1) := by decide +kernel
theorem d_Ve_isRight_40 : decode b_Ve_isRight 40 = .ok (.ireturn, 1) := by decide +kernel
theorem d_Ve_isRight_41 : decode b_Ve_isRight 41 = .ok (.iload_n 2, 1) := by decide +kernel
theorem d_Ve_isRight_42 : decode b_Ve_isRight 42 = .ok (.iconst 1, 1) := by decide +kernel
theorem d_Ve_isRight_43 : decode b_Ve_isRight 43 = .ok (.isub, 1) := by decide +kernel
theorem d_Ve_isRight_44 : decode b_Ve_isRight 44 = .ok (.iconst 0, 1) := by decide +kernel
theorem d_Ve_isRight_45 : decode b_Ve_isRight 45 = .ok (.invokestatic 33, 3) := by decide +kernel
theorem d_Ve_isRight_48 : decode b_Ve_isRight 48 = .ok (.invokestatic 37, 3) := by decide +kernel
theorem d_Ve_isRight_51 : decode b_Ve_isRight 51 = .ok (.lconst 1, 1) := by decide +kernel
theorem d_Ve_isRight_52 : decode b_Ve_isRight 52 = .ok (.lsub, 1) := by decide +kernel
theorem d_Ve_isRight_53 : decode b_Ve_isRight 53 = .ok (.lstore_n 3, 1) := by decide +kernel
theorem d_Ve_isRight_54 : decode b_Ve_isRight 54 = .ok (.aload_n 0, 1) := by decide +kernel
theorem d_Ve_isRight_55 : decode b_Ve_isRight 55 = .ok (.getfield 15, 3) := by decide +kernel
theorem d_Ve_isRight_58 : decode b_Ve_isRight 58 = .ok (.iload_n 1, 1) := by decide +kernel
theorem d_Ve_isRight_59 : decode b_Ve_isRight 59 = .ok (.iaload, 1) := by decide +kernel
theorem d_Ve_isRight_60 : decode b_Ve_isRight 60 = .ok (.invokestatic 41, 3) := by decide +kernel
theorem d_Ve_isRight_63 : decode b_Ve_isRight 63 = .ok (.iconst 3, 1) := by decide +kernel
theorem d_Ve_isRight_64 : decode b_Ve_isRight 64 = .ok (.if_icmp .lt 24, 3) := by decide +kernel
theorem d_Ve_isRight_67 : decode b_Ve_isRight 67 = .ok (.aload_n 0, 1) := by decide +kernel
theorem d_Ve_isRight_68 : decode b_Ve_isRight 68 = .ok (.getfield 18, 3) := by decide +kernel
theorem d_Ve_isRight_71 : decode b_Ve_isRight 71 = .ok (.iload_n 1, 1) := by decide +kernel
theorem d_Ve_isRight_72 : decode b_Ve_isRight 72 = .ok (.laload, 1) := by decide +kernel
theorem d_Ve_isRight_73 : decode b_Ve_isRight 73 = .ok (.lload_n 3, 1) := by decide +kernel
theorem d_Ve_isRight_74 : decode b_Ve_isRight 74 = .ok (.ldc2_w 46, 3) := by decide +kernel
theorem d_Ve_isRight_77 : decode b_Ve_isRight 77 = .ok (.lxor, 1) := by decide +kernel
theorem d_Ve_isRight_78 : decode b_Ve_isRight 78 = .ok (.land, 1) := by decide +kernel
theorem d_Ve_isRight_79 : decode b_Ve_isRight 79 = .ok (.lconst 0, 1) := by decide +kernel
theorem d_Ve_isRight_80 : decode b_Ve_isRight 80 = .ok (.lcmp, 1) := by decide +kernel
theorem d_Ve_isRight_81 : decode b_Ve_isRight 81 = .ok (.ifCond .ne 7, 3) := by decide +kernel
theorem d_Ve_isRight_84 : decode b_Ve_isRight 84 = .ok (.iconst 1, 1) := by decide +kernel
theorem d_Ve_isRight_85 : decode b_Ve_isRight 85 = .ok (.goto 4, 3) := by decide +kernel
theorem d_Ve_isRight_88 : decode b_Ve_isRight 88 = .ok (.iconst 0, 1) := by decide +kernel
theorem d_Ve_isRight_89 : decode b_Ve_isRight 89 = .ok (.ireturn, 1) := by decide +kernel
theorem d_Ve_strongPlacesOf_0 : decode b_Ve_strongPlacesOf 0 = .ok (.aload_n 0, 1) := by decide +kernel
theorem d_Ve_strongPlacesOf_1 : decode b_Ve_strongPlacesOf 1 = .ok (.getfield 9, 3) := by decide +kernel
theorem d_Ve_strongPlacesOf_4 : decode b_Ve_strongPlacesOf 4 = .ok (.iload_n 1, 1) := by decide +kernel
theorem d_Ve_strongPlacesOf_5 : decode b_Ve_strongPlacesOf 5 = .ok (.iaload, 1) := by decide +kernel
theorem d_Ve_strongPlacesOf_6 : decode b_Ve_strongPlacesOf 6 = .ok (.invokestatic 29, 3) := by decide +kernel
theorem d_Ve_strongPlacesOf_9 : decode b_Ve_strongPlacesOf 9 = .ok (.istore_n 2, 1) := by decide +kernel
theorem d_Ve_strongPlacesOf_10 : decode b_Ve_strongPlacesOf 10 = .ok (.iload_n 2, 1) := by decide +kernel
theorem d_Ve_strongPlacesOf_11 : decode b_Ve_strongPlacesOf 11 = .ok (.iconst 1, 1) := by decide +kernel
theorem d_Ve_strongPlacesOf_12 : decode b_Ve_strongPlacesOf 12 = .ok (.if_icmp .ne 7, 3) := by decide +kernel
theorem d_Ve_strongPlacesOf_15 : decode b_Ve_strongPlacesOf 15 = .ok (.lconst 0, 1) := by decide +kernel
theorem d_Ve_strongPlacesOf_16 : decode b_Ve_strongPlacesOf 16 = .ok (.goto 18, 3) := by decide +kernel
theorem d_Ve_strongPlacesOf_19 : decode b_Ve_strongPlacesOf 19 = .ok (.aload_n 0, 1) := by decide +kernel
theorem d_Ve_strongPlacesOf_20 : decode b_Ve_strongPlacesOf 20 = .ok (.getfield 15, 3) := by decide +kernel
theorem d_Ve_strongPlacesOf_23 : decode b_Ve_strongPlacesOf 23 = .ok (.iload_n 1, 1) := by decide +kernel
theorem d_Ve_strongPlacesOf_24 : decode b_Ve_strongPlacesOf 24 = .ok (.iaload, 1) := by decide +kernel
theorem d_Ve_strongPlacesOf_25 : decode b_Ve_strongPlacesOf 25 = .ok (.i2l, 1) := by decide +kernel
theorem d_Ve_strongPlacesOf_26 : decode b_Ve_strongPlacesOf 26 = .ok (.iload_n 2, 1) := by decide +kernel
theorem d_Ve_strongPlacesOf_27 : decode b_Ve_strongPlacesOf 27 = .ok (.iconst 1, 1) := by decide +kernel
theorem d_Ve_strongPlacesOf_28 : decode b_Ve_strongPlacesOf 28 = .ok (.isub, 1) := by decide +kernel
theorem d_Ve_strongPlacesOf_29 : decode b_Ve_strongPlacesOf 29 = .ok (.iconst 0, 1) := by decide +kernel
theorem d_Ve_strongPlacesOf_30 : decode b_Ve_strongPlacesOf 30 = .ok (.invokestatic 33, 3) := by decide +kernel
theorem d_Ve_strongPlacesOf_33 : decode b_Ve_strongPlacesOf 33 = .ok (.lshl, 1) := by decide +kernel
theorem d_Ve_strongPlacesOf_34 : decode b_Ve_strongPlacesOf 34 = .ok (.lreturn, 1) := by decide +kernel
theorem d_Vo_init_0 : decode b_Vo_init 0 = .ok (.aload_n 0, 1) := by decide +kernel
theorem d_Vo_init_1 : decode b_Vo_init 1 = .ok (.invokespecial 3, 3) := by decide +kernel
theorem d_Vo_init_4 : decode b_Vo_init 4 = .ok (.aload_n 0, 1) := by decide +kernel
theorem d_Vo_init_5 : decode b_Vo_init 5 = .ok (.sipush 192, 3) := by decide +kernel
theorem d_Vo_init_8 : decode b_Vo_init 8 = .ok (.newarray .int, 2) := by decide +kernel
theorem d_Vo_init_10 : decode b_Vo_init 10 = .ok (.putfield 9, 3) := by decide +kernel
theorem d_Vo_init_13 : decode b_Vo_init 13 = .ok (.return_, 1) := by decide +kernel
theorem d_Vo_note_0 : decode b_Vo_note 0 = .ok (.iconst 4, 1) := by decide +kernel
theorem d_Vo_note_1 : decode b_Vo_note 1 = .ok (.iload_n 2, 1) := by decide +kernel
theorem d_Vo_note_2 : decode b_Vo_note 2 = .ok (.imul, 1) := by decide +kernel
theorem d_Vo_note_3 : decode b_Vo_note 3 = .ok (.istore 4, 2) := by decide +kernel
theorem d_Vo_note_5 : decode b_Vo_note 5 = .ok (.aload_n 0, 1) := by decide +kernel
theorem d_Vo_note_6 : decode b_Vo_note 6 = .ok (.getfield 9, 3) := by decide +kernel
theorem d_Vo_note_9 : decode b_Vo_note 9 = .ok (.iload 4, 2) := by decide +kernel
theorem d_Vo_note_11 : decode b_Vo_note 11 = .ok (.iload_n 1, 1) := by decide +kernel
theorem d_Vo_note_12 : decode b_Vo_note 12 = .ok (.iadd, 1) := by decide +kernel
theorem d_Vo_note_13 : decode b_Vo_note 13 = .ok (.iaload, 1) := by decide +kernel
theorem d_Vo_note_14 : decode b_Vo_note 14 = .ok (.ifCond .ne 13, 3) := by decide +kernel
theorem d_Vo_note_17 : decode b_Vo_note 17 = .ok (.aload_n 0, 1) := by decide +kernel
theorem d_Vo_note_18 : decode b_Vo_note 18 = .ok (.getfield 9, 3) := by decide +kernel
theorem d_Vo_note_21 : decode b_Vo_note 21 = .ok (.iload 4, 2) := by decide +kernel
theorem d_Vo_note_23 : decode b_Vo_note 23 = .ok (.iload_n 1, 1) := by decide +kernel
theorem d_Vo_note_24 : decode b_Vo_note 24 = .ok (.iadd, 1) := by decide +kernel
theorem d_Vo_note_25 : decode b_Vo_note 25 = .ok (.iload_n 3, 1) := by decide +kernel
theorem d_Vo_note_26 : decode b_Vo_note 26 = .ok (.iastore, 1) := by decide +kernel
theorem d_Vo_note_27 : decode b_Vo_note 27 = .ok (.aload_n 0, 1) := by decide +kernel
theorem d_Vo_note_28 : decode b_Vo_note 28 = .ok (.getfield 9, 3) := by decide +kernel
theorem d_Vo_note_31 : decode b_Vo_note 31 = .ok (.iload 4, 2) := by decide +kernel
theorem d_Vo_note_33 : decode b_Vo_note 33 = .ok (.iload_n 1, 1) := by decide +kernel
theorem d_Vo_note_34 : decode b_Vo_note 34 = .ok (.iadd, 1) := by decide +kernel
theorem d_Vo_note_35 : decode b_Vo_note 35 = .ok (.iaload, 1) := by decide +kernel
theorem d_Vo_note_36 : decode b_Vo_note 36 = .ok (.iload_n 3, 1) := by decide +kernel
theorem d_Vo_note_37 : decode b_Vo_note 37 = .ok (.if_icmp .eq 5, 3) := by decide +kernel
theorem d_Vo_note_40 : decode b_Vo_note 40 = .ok (.iconst 0, 1) := by decide +kernel
theorem d_Vo_note_41 : decode b_Vo_note 41 = .ok (.ireturn, 1) := by decide +kernel
theorem d_Vo_note_42 : decode b_Vo_note 42 = .ok (.iconst 0, 1) := by decide +kernel
theorem d_Vo_note_43 : decode b_Vo_note 43 = .ok (.istore 5, 2) := by decide +kernel
theorem d_Vo_note_45 : decode b_Vo_note 45 = .ok (.iconst 0, 1) := by decide +kernel
theorem d_Vo_note_46 : decode b_Vo_note 46 = .ok (.istore 6, 2) := by decide +kernel
theorem d_Vo_note_48 : decode b_Vo_note 48 = .ok (.iload 6, 2) := by decide +kernel
theorem d_Vo_note_50 : decode b_Vo_note 50 = .ok (.iconst 4, 1) := by decide +kernel
theorem d_Vo_note_51 : decode b_Vo_note 51 = .ok (.if_icmp .ge 26, 3) := by decide +kernel
theorem d_Vo_note_54 : decode b_Vo_note 54 = .ok (.aload_n 0, 1) := by decide +kernel
theorem d_Vo_note_55 : decode b_Vo_note 55 = .ok (.getfield 9, 3) := by decide +kernel
theorem d_Vo_note_58 : decode b_Vo_note 58 = .ok (.iload 4, 2) := by decide +kernel
theorem d_Vo_note_60 : decode b_Vo_note 60 = .ok (.iload 6, 2) := by decide +kernel
theorem d_Vo_note_62 : decode b_Vo_note 62 = .ok (.iadd, 1) := by decide +kernel
theorem d_Vo_note_63 : decode b_Vo_note 63 = .ok (.iaload, 1) := by decide +kernel
theorem d_Vo_note_64 : decode b_Vo_note 64 = .ok (.iload_n 3, 1) := by decide +kernel
theorem d_Vo_note_65 : decode b_Vo_note 65 = .ok (.if_icmp .ne 6, 3) := by decide +kernel
theorem d_Vo_note_68 : decode b_Vo_note 68 = .ok (.iinc 5 1, 3) := by decide +kernel
theorem d_Vo_note_71 : decode b_Vo_note 71 = .ok (.iinc 6 1, 3) := by decide +kernel
theorem d_Vo_note_74 : decode b_Vo_note 74 = .ok (.goto (-26), 3) := by decide +kernel
theorem d_Vo_note_77 : decode b_Vo_note 77 = .ok (.iload 5, 2) := by decide +kernel
theorem d_Vo_note_79 : decode b_Vo_note 79 = .ok (.ireturn, 1) := by decide +kernel
theorem d_Wl_init_0 : decode b_Wl_init 0 = .ok (.aload_n 0, 1) := by decide +kernel
theorem d_Wl_init_1 : decode b_Wl_init 1 = .ok (.invokespecial 3, 3) := by decide +kernel
theorem d_Wl_init_4 : decode b_Wl_init 4 = .ok (.iload_n 3, 1) := by decide +kernel
theorem d_Wl_init_5 : decode b_Wl_init 5 = .ok (.invokestatic 9, 3) := by decide +kernel
theorem d_Wl_init_8 : decode b_Wl_init 8 = .ok (.ifCond .eq 7, 3) := by decide +kernel
theorem d_Wl_init_11 : decode b_Wl_init 11 = .ok (.iload_n 3, 1) := by decide +kernel
theorem d_Wl_init_12 : decode b_Wl_init 12 = .ok (.goto 4, 3) := by decide +kernel
theorem d_Wl_init_15 : decode b_Wl_init 15 = .ok (.iconst (-1), 1) := by decide +kernel
theorem d_Wl_init_16 : decode b_Wl_init 16 = .ok (.istore 4, 2) := by decide +kernel
theorem d_Wl_init_18 : decode b_Wl_init 18 = .ok (.new 13, 3) := by decide +kernel
theorem d_Wl_init_21 : decode b_Wl_init 21 = .ok (.dup, 1) := by decide +kernel
theorem d_Wl_init_22 : decode b_Wl_init 22 = .ok (.invokespecial 15, 3) := by decide +kernel
theorem d_Wl_init_25 : decode b_Wl_init 25 = .ok (.astore 5, 2) := by decide +kernel
theorem d_Wl_init_27 : decode b_Wl_init 27 = .ok (.new 16, 3) := by decide +kernel
theorem d_Wl_init_30 : decode b_Wl_init 30 = .ok (.dup, 1) := by decide +kernel
theorem d_Wl_init_31 : decode b_Wl_init 31 = .ok (.iload 4, 2) := by decide +kernel
theorem d_Wl_init_33 : decode b_Wl_init 33 = .ok (.invokespecial 18, 3) := by decide +kernel
theorem d_Wl_init_36 : decode b_Wl_init 36 = .ok (.astore 6, 2) := by decide +kernel
theorem d_Wl_init_38 : decode b_Wl_init 38 = .ok (.iconst 4, 1) := by decide +kernel
theorem d_Wl_init_39 : decode b_Wl_init 39 = .ok (.anewarray 21, 3) := by decide +kernel
theorem d_Wl_init_42 : decode b_Wl_init 42 = .ok (.astore 7, 2) := by decide +kernel
theorem d_Wl_init_44 : decode b_Wl_init 44 = .ok (.iconst 0, 1) := by decide +kernel
theorem d_Wl_init_45 : decode b_Wl_init 45 = .ok (.istore 8, 2) := by decide +kernel
theorem d_Wl_init_47 : decode b_Wl_init 47 = .ok (.iload 8, 2) := by decide +kernel
theorem d_Wl_init_49 : decode b_Wl_init 49 = .ok (.iconst 4, 1) := by decide +kernel
theorem d_Wl_init_50 : decode b_Wl_init 50 = .ok (.if_icmp .ge 28, 3) := by decide +kernel
theorem d_Wl_init_53 : decode b_Wl_init 53 = .ok (.aload 7, 2) := by decide +kernel
theorem d_Wl_init_55 : decode b_Wl_init 55 = .ok (.iload 8, 2) := by decide +kernel
theorem d_Wl_init_57 : decode b_Wl_init 57 = .ok (.new 21, 3) := by decide +kernel
theorem d_Wl_init_60 : decode b_Wl_init 60 = .ok (.dup, 1) := by decide +kernel
theorem d_Wl_init_61 : decode b_Wl_init 61 = .ok (.iload 8, 2) := by decide +kernel
theorem d_Wl_init_63 : decode b_Wl_init 63 = .ok (.iload_n 2, 1) := by decide +kernel
theorem d_Wl_init_64 : decode b_Wl_init 64 = .ok (.aload 5, 2) := by decide +kernel
theorem d_Wl_init_66 : decode b_Wl_init 66 = .ok (.aload 6, 2) := by decide +kernel
theorem d_Wl_init_68 : decode b_Wl_init 68 = .ok (.invokespecial 23, 3) := by decide +kernel
theorem d_Wl_init_71 : decode b_Wl_init 71 = .ok (.aastore, 1) := by decide +kernel
theorem d_Wl_init_72 : decode b_Wl_init 72 = .ok (.iinc 8 1, 3) := by decide +kernel
theorem d_Wl_init_75 : decode b_Wl_init 75 = .ok (.goto (-28), 3) := by decide +kernel
theorem d_Wl_init_78 : decode b_Wl_init 78 = .ok (.aload_n 0, 1) := by decide +kernel
theorem d_Wl_init_79 : decode b_Wl_init 79 = .ok (.iload 4, 2) := by decide +kernel
theorem d_Wl_init_81 : decode b_Wl_init 81 = .ok (.putfield 26, 3) := by decide +kernel
theorem d_Wl_init_84 : decode b_Wl_init 84 = .ok (.aload_n 0, 1) := by decide +kernel
theorem d_Wl_init_85 : decode b_Wl_init 85 = .ok (.aload 5, 2) := by decide +kernel
theorem d_Wl_init_87 : decode b_Wl_init 87 = .ok (.putfield 30, 3) := by decide +kernel
theorem d_Wl_init_90 : decode b_Wl_init 90 = .ok (.aload_n 0, 1) := by decide +kernel
theorem d_Wl_init_91 : decode b_Wl_init 91 = .ok (.aload 6, 2) := by decide +kernel
theorem d_Wl_init_93 : decode b_Wl_init 93 = .ok (.putfield 34, 3) := by decide +kernel
theorem d_Wl_init_96 : decode b_Wl_init 96 = .ok (.aload_n 0, 1) := by decide +kernel
theorem d_Wl_init_97 : decode b_Wl_init 97 = .ok (.aload 7, 2) := by decide +kernel
theorem d_Wl_init_99 : decode b_Wl_init 99 = .ok (.putfield 38, 3) := by decide +kernel
theorem d_Wl_init_102 : decode b_Wl_init 102 = .ok (.aload_n 0, 1) := by decide +kernel
theorem d_Wl_init_103 : decode b_Wl_init 103 = .ok (.iload_n 1, 1) := by decide +kernel
theorem d_Wl_init_104 : decode b_Wl_init 104 = .ok (.putfield 42, 3) := by decide +kernel
theorem d_Wl_init_107 : decode b_Wl_init 107 = .ok (.return_, 1) := by decide +kernel
theorem d_Wl_transfer_0 : decode b_Wl_transfer 0 = .ok (.aload_n 0, 1) := by decide +kernel
theorem d_Wl_transfer_1 : decode b_Wl_transfer 1 = .ok (.iload_n 1, 1) := by decide +kernel
theorem d_Wl_transfer_2 : decode b_Wl_transfer 2 = .ok (.invokevirtual 45, 3) := by decide +kernel
theorem d_Wl_transfer_5 : decode b_Wl_transfer 5 = .ok (.ifCond .eq 17, 3) := by decide +kernel
theorem d_Wl_transfer_8 : decode b_Wl_transfer 8 = .ok (.iload_n 2, 1) := by decide +kernel
theorem d_Wl_transfer_9 : decode b_Wl_transfer 9 = .ok (.invokestatic 48, 3) := by decide +kernel
theorem d_Wl_transfer_12 : decode b_Wl_transfer 12 = .ok (.ifCond .eq 10, 3) := by decide +kernel
theorem d_Wl_transfer_15 : decode b_Wl_transfer 15 = .ok (.iload_n 3, 1) := by decide +kernel
theorem d_Wl_transfer_16 : decode b_Wl_transfer 16 = .ok (.invokestatic 48, 3) := by decide +kernel
theorem d_Wl_transfer_19 : decode b_Wl_transfer 19 = .ok (.ifCond .ne 13, 3) := by decide +kernel
theorem d_Wl_transfer_22 : decode b_Wl_transfer 22 = .ok (.new 51, 3) := by decide +kernel
theorem d_Wl_transfer_25 : decode b_Wl_transfer 25 = .ok (.dup, 1) := by decide +kernel
theorem d_Wl_transfer_26 : decode b_Wl_transfer 26 = .ok (.ldc 53, 2) := by decide +kernel
theorem d_Wl_transfer_28 : decode b_Wl_transfer 28 = .ok (.invokespecial 55, 3) := by decide +kernel
theorem d_Wl_transfer_31 : decode b_Wl_transfer 31 = .ok (.athrow, 1) := by decide +kernel
theorem d_Wl_transfer_32 : decode b_Wl_transfer 32 = .ok (.iload 4, 2) := by decide +kernel
theorem d_Wl_transfer_34 : decode b_Wl_transfer 34 = .ok (.iconst 1, 1) := by decide +kernel
theorem d_Wl_transfer_35 : decode b_Wl_transfer 35 = .ok (.if_icmp .lt 10, 3) := by decide +kernel
theorem d_Wl_transfer_38 : decode b_Wl_transfer 38 = .ok (.iload 4, 2) := by decide +kernel
theorem d_Wl_transfer_40 : decode b_Wl_transfer 40 = .ok (.bipush 99, 2) := by decide +kernel
theorem d_Wl_transfer_42 : decode b_Wl_transfer 42 = .ok (.if_icmp .le 13, 3) := by decide +kernel
theorem d_Wl_transfer_45 : decode b_Wl_transfer 45 = .ok (.new 51, 3) := by decide +kernel
theorem d_Wl_transfer_48 : decode b_Wl_transfer 48 = .ok (.dup, 1) := by decide +kernel
theorem d_Wl_transfer_49 : decode b_Wl_transfer 49 = .ok (.ldc 58, 2) := by decide +kernel
theorem d_Wl_transfer_51 : decode b_Wl_transfer 51 = .ok (.invokespecial 55, 3) := by decide +kernel
theorem d_Wl_transfer_54 : decode b_Wl_transfer 54 = .ok (.athrow, 1) := by decide +kernel
theorem d_Wl_transfer_55 : decode b_Wl_transfer 55 = .ok (.aload_n 0, 1) := by decide +kernel
theorem d_Wl_transfer_56 : decode b_Wl_transfer 56 = .ok (.getfield 38, 3) := by decide +kernel
theorem d_Wl_transfer_59 : decode b_Wl_transfer 59 = .ok (.iload_n 1, 1) := by decide +kernel
theorem d_Wl_transfer_60 : decode b_Wl_transfer 60 = .ok (.aaload, 1) := by decide +kernel
theorem d_Wl_transfer_61 : decode b_Wl_transfer 61 = .ok (.getfield 60, 3) := by decide +kernel
theorem d_Wl_transfer_64 : decode b_Wl_transfer 64 = .ok (.astore 5, 2) := by decide +kernel
theorem d_Wl_transfer_66 : decode b_Wl_transfer 66 = .ok (.aload 5, 2) := by decide +kernel
theorem d_Wl_transfer_68 : decode b_Wl_transfer 68 = .ok (.invokevirtual 64, 3) := by decide +kernel
theorem d_Wl_transfer_71 : decode b_Wl_transfer 71 = .ok (.ifCond .eq 13, 3) := by decide +kernel
theorem d_Wl_transfer_74 : decode b_Wl_transfer 74 = .ok (.new 70, 3) := by decide +kernel
theorem d_Wl_transfer_77 : decode b_Wl_transfer 77 = .ok (.dup, 1) := by decide +kernel
theorem d_Wl_transfer_78 : decode b_Wl_transfer 78 = .ok (.ldc 72, 2) := by decide +kernel
theorem d_Wl_transfer_80 : decode b_Wl_transfer 80 = .ok (.invokespecial 74, 3) := by decide +kernel
theorem d_Wl_transfer_83 : decode b_Wl_transfer 83 = .ok (.athrow, 1) := by decide +kernel
theorem d_Wl_transfer_84 : decode b_Wl_transfer 84 = .ok (.aload 5, 2) := by decide +kernel
theorem d_Wl_transfer_86 : decode b_Wl_transfer 86 = .ok (.sipush 1000, 3) := by decide +kernel
theorem d_Wl_transfer_89 : decode b_Wl_transfer 89 = .ok (.iload 4, 2) := by decide +kernel
theorem d_Wl_transfer_91 : decode b_Wl_transfer 91 = .ok (.imul, 1) := by decide +kernel
theorem d_Wl_transfer_92 : decode b_Wl_transfer 92 = .ok (.bipush 10, 2) := by decide +kernel
theorem d_Wl_transfer_94 : decode b_Wl_transfer 94 = .ok (.iload_n 2, 1) := by decide +kernel
theorem d_Wl_transfer_95 : decode b_Wl_transfer 95 = .ok (.imul, 1) := by decide +kernel
theorem d_Wl_transfer_96 : decode b_Wl_transfer 96 = .ok (.iadd, 1) := by decide +kernel
theorem d_Wl_transfer_97 : decode b_Wl_transfer 97 = .ok (.iload_n 3, 1) := by decide +kernel
theorem d_Wl_transfer_98 : decode b_Wl_transfer 98 = .ok (.iadd, 1) := by decide +kernel
theorem d_Wl_transfer_99 : decode b_Wl_transfer 99 = .ok (.invokevirtual 75, 3) := by decide +kernel
theorem d_Wl_transfer_102 : decode b_Wl_transfer 102 = .ok (.aload 5, 2) := by decide +kernel
theorem d_Wl_transfer_104 : decode b_Wl_transfer 104 = .ok (.getfield 78, 3) := by decide +kernel
theorem d_Wl_transfer_107 : decode b_Wl_transfer 107 = .ok (.ireturn, 1) := by decide +kernel
theorem d_Wl_begin_0 : decode b_Wl_begin 0 = .ok (.aload_n 0, 1) := by decide +kernel
theorem d_Wl_begin_1 : decode b_Wl_begin 1 = .ok (.getfield 81, 3) := by decide +kernel
theorem d_Wl_begin_4 : decode b_Wl_begin 4 = .ok (.ifCond .eq 5, 3) := by decide +kernel
theorem d_Wl_begin_7 : decode b_Wl_begin 7 = .ok (.iconst 0, 1) := by decide +kernel
theorem d_Wl_begin_8 : decode b_Wl_begin 8 = .ok (.ireturn, 1) := by decide +kernel
end
section
theorem d_Wl_begin_9 : decode b_Wl_begin 9 = .ok (.aload_n 0, 1) := by decide +kernel
theorem d_Wl_begin_10 : decode b_Wl_begin 10 = .ok (.iconst 1, 1) := by decide +kernel
theorem d_Wl_begin_11 : decode b_Wl_begin 11 = .ok (.putfield 81, 3) := by decide +kernel
theorem d_Wl_begin_14 : decode b_Wl_begin 14 = .ok (.iconst 0, 1) := by decide +kernel
theorem d_Wl_begin_15 : decode b_Wl_begin 15 = .ok (.istore_n 1, 1) := by decide +kernel
theorem d_Wl_begin_16 : decode b_Wl_begin 16 = .ok (.iload_n 1, 1) := by decide +kernel
theorem d_Wl_begin_17 : decode b_Wl_begin 17 = .ok (.iconst 4, 1) := by decide +kernel
theorem d_Wl_begin_18 : decode b_Wl_begin 18 = .ok (.if_icmp .ge 26, 3) := by decide +kernel
theorem d_Wl_begin_21 : decode b_Wl_begin 21 = .ok (.aload_n 0, 1) := by decide +kernel
theorem d_Wl_begin_22 : decode b_Wl_begin 22 = .ok (.iload_n 1, 1) := by decide +kernel
theorem d_Wl_begin_23 : decode b_Wl_begin 23 = .ok (.invokevirtual 45, 3) := by decide +kernel
theorem d_Wl_begin_26 : decode b_Wl_begin 26 = .ok (.ifCond .eq 12, 3) := by decide +kernel
theorem d_Wl_begin_29 : decode b_Wl_begin 29 = .ok (.aload_n 0, 1) := by decide +kernel
theorem d_Wl_begin_30 : decode b_Wl_begin 30 = .ok (.getfield 38, 3) := by decide +kernel
theorem d_Wl_begin_33 : decode b_Wl_begin 33 = .ok (.iload_n 1, 1) := by decide +kernel
theorem d_Wl_begin_34 : decode b_Wl_begin 34 = .ok (.aaload, 1) := by decide +kernel
theorem d_Wl_begin_35 : decode b_Wl_begin 35 = .ok (.invokevirtual 85, 3) := by decide +kernel
theorem d_Wl_begin_38 : decode b_Wl_begin 38 = .ok (.iinc 1 1, 3) := by decide +kernel
theorem d_Wl_begin_41 : decode b_Wl_begin 41 = .ok (.goto (-25), 3) := by decide +kernel
theorem d_Wl_begin_44 : decode b_Wl_begin 44 = .ok (.iconst 1, 1) := by decide +kernel
theorem d_Wl_begin_45 : decode b_Wl_begin 45 = .ok (.ireturn, 1) := by decide +kernel
theorem d_Wl_run_0 : decode b_Wl_run 0 = .ok (.iload_n 1, 1) := by decide +kernel
theorem d_Wl_run_1 : decode b_Wl_run 1 = .ok (.ifCond .lt 9, 3) := by decide +kernel
theorem d_Wl_run_4 : decode b_Wl_run 4 = .ok (.iload_n 1, 1) := by decide +kernel
theorem d_Wl_run_5 : decode b_Wl_run 5 = .ok (.bipush 100, 2) := by decide +kernel
theorem d_Wl_run_7 : decode b_Wl_run 7 = .ok (.if_icmp .le 13, 3) := by decide +kernel
theorem d_Wl_run_10 : decode b_Wl_run 10 = .ok (.new 51, 3) := by decide +kernel
theorem d_Wl_run_13 : decode b_Wl_run 13 = .ok (.dup, 1) := by decide +kernel
theorem d_Wl_run_14 : decode b_Wl_run 14 = .ok (.ldc 88, 2) := by decide +kernel
theorem d_Wl_run_16 : decode b_Wl_run 16 = .ok (.invokespecial 55, 3) := by decide +kernel
theorem d_Wl_run_19 : decode b_Wl_run 19 = .ok (.athrow, 1) := by decide +kernel
theorem d_Wl_run_20 : decode b_Wl_run 20 = .ok (.iconst 0, 1) := by decide +kernel
theorem d_Wl_run_21 : decode b_Wl_run 21 = .ok (.istore_n 2, 1) := by decide +kernel
theorem d_Wl_run_22 : decode b_Wl_run 22 = .ok (.iload_n 2, 1) := by decide +kernel
theorem d_Wl_run_23 : decode b_Wl_run 23 = .ok (.iload_n 1, 1) := by decide +kernel
theorem d_Wl_run_24 : decode b_Wl_run 24 = .ok (.if_icmp .ge 53, 3) := by decide +kernel
theorem d_Wl_run_27 : decode b_Wl_run 27 = .ok (.aload_n 0, 1) := by decide +kernel
theorem d_Wl_run_28 : decode b_Wl_run 28 = .ok (.getfield 34, 3) := by decide +kernel
theorem d_Wl_run_31 : decode b_Wl_run 31 = .ok (.getfield 90, 3) := by decide +kernel
theorem d_Wl_run_34 : decode b_Wl_run 34 = .ok (.ifCond .le 43, 3) := by decide +kernel
theorem d_Wl_run_37 : decode b_Wl_run 37 = .ok (.aload_n 0, 1) := by decide +kernel
theorem d_Wl_run_38 : decode b_Wl_run 38 = .ok (.aload_n 0, 1) := by decide +kernel
theorem d_Wl_run_39 : decode b_Wl_run 39 = .ok (.getfield 42, 3) := by decide +kernel
theorem d_Wl_run_42 : decode b_Wl_run 42 = .ok (.ldc 91, 2) := by decide +kernel
theorem d_Wl_run_44 : decode b_Wl_run 44 = .ok (.imul, 1) := by decide +kernel
theorem d_Wl_run_45 : decode b_Wl_run 45 = .ok (.sipush 12345, 3) := by decide +kernel
theorem d_Wl_run_48 : decode b_Wl_run 48 = .ok (.iadd, 1) := by decide +kernel
theorem d_Wl_run_49 : decode b_Wl_run 49 = .ok (.putfield 42, 3) := by decide +kernel
theorem d_Wl_run_52 : decode b_Wl_run 52 = .ok (.aload_n 0, 1) := by decide +kernel
theorem d_Wl_run_53 : decode b_Wl_run 53 = .ok (.aload_n 0, 1) := by decide +kernel
theorem d_Wl_run_54 : decode b_Wl_run 54 = .ok (.getfield 42, 3) := by decide +kernel
theorem d_Wl_run_57 : decode b_Wl_run 57 = .ok (.bipush 16, 2) := by decide +kernel
theorem d_Wl_run_59 : decode b_Wl_run 59 = .ok (.iushr, 1) := by decide +kernel
theorem d_Wl_run_60 : decode b_Wl_run 60 = .ok (.aload_n 0, 1) := by decide +kernel
theorem d_Wl_run_61 : decode b_Wl_run 61 = .ok (.getfield 34, 3) := by decide +kernel
theorem d_Wl_run_64 : decode b_Wl_run 64 = .ok (.getfield 90, 3) := by decide +kernel
theorem d_Wl_run_67 : decode b_Wl_run 67 = .ok (.irem, 1) := by decide +kernel
theorem d_Wl_run_68 : decode b_Wl_run 68 = .ok (.invokevirtual 92, 3) := by decide +kernel
theorem d_Wl_run_71 : decode b_Wl_run 71 = .ok (.iinc 2 1, 3) := by decide +kernel
theorem d_Wl_run_74 : decode b_Wl_run 74 = .ok (.goto (-52), 3) := by decide +kernel
theorem d_Wl_run_77 : decode b_Wl_run 77 = .ok (.aload_n 0, 1) := by decide +kernel
theorem d_Wl_run_78 : decode b_Wl_run 78 = .ok (.getfield 34, 3) := by decide +kernel
theorem d_Wl_run_81 : decode b_Wl_run 81 = .ok (.getfield 90, 3) := by decide +kernel
theorem d_Wl_run_84 : decode b_Wl_run 84 = .ok (.ireturn, 1) := by decide +kernel
theorem d_Wl_deliver_0 : decode b_Wl_deliver 0 = .ok (.aload_n 0, 1) := by decide +kernel
theorem d_Wl_deliver_1 : decode b_Wl_deliver 1 = .ok (.getfield 34, 3) := by decide +kernel
theorem d_Wl_deliver_4 : decode b_Wl_deliver 4 = .ok (.iload_n 1, 1) := by decide +kernel
theorem d_Wl_deliver_5 : decode b_Wl_deliver 5 = .ok (.invokevirtual 95, 3) := by decide +kernel
theorem d_Wl_deliver_8 : decode b_Wl_deliver 8 = .ok (.ifCond .ne 5, 3) := by decide +kernel
theorem d_Wl_deliver_11 : decode b_Wl_deliver 11 = .ok (.iconst 0, 1) := by decide +kernel
theorem d_Wl_deliver_12 : decode b_Wl_deliver 12 = .ok (.ireturn, 1) := by decide +kernel
theorem d_Wl_deliver_13 : decode b_Wl_deliver 13 = .ok (.aload_n 0, 1) := by decide +kernel
theorem d_Wl_deliver_14 : decode b_Wl_deliver 14 = .ok (.iload_n 1, 1) := by decide +kernel
theorem d_Wl_deliver_15 : decode b_Wl_deliver 15 = .ok (.invokevirtual 92, 3) := by decide +kernel
theorem d_Wl_deliver_18 : decode b_Wl_deliver 18 = .ok (.iconst 1, 1) := by decide +kernel
theorem d_Wl_deliver_19 : decode b_Wl_deliver 19 = .ok (.ireturn, 1) := by decide +kernel
theorem d_Wl_forge_0 : decode b_Wl_forge 0 = .ok (.iload_n 1, 1) := by decide +kernel
theorem d_Wl_forge_1 : decode b_Wl_forge 1 = .ok (.iconst 1, 1) := by decide +kernel
theorem d_Wl_forge_2 : decode b_Wl_forge 2 = .ok (.if_icmp .lt 19, 3) := by decide +kernel
theorem d_Wl_forge_5 : decode b_Wl_forge 5 = .ok (.iload_n 1, 1) := by decide +kernel
theorem d_Wl_forge_6 : decode b_Wl_forge 6 = .ok (.bipush 12, 2) := by decide +kernel
theorem d_Wl_forge_8 : decode b_Wl_forge 8 = .ok (.if_icmp .gt 13, 3) := by decide +kernel
theorem d_Wl_forge_11 : decode b_Wl_forge 11 = .ok (.iload_n 2, 1) := by decide +kernel
theorem d_Wl_forge_12 : decode b_Wl_forge 12 = .ok (.ifCond .lt 9, 3) := by decide +kernel
theorem d_Wl_forge_15 : decode b_Wl_forge 15 = .ok (.iload_n 2, 1) := by decide +kernel
theorem d_Wl_forge_16 : decode b_Wl_forge 16 = .ok (.bipush 15, 2) := by decide +kernel
theorem d_Wl_forge_18 : decode b_Wl_forge 18 = .ok (.if_icmp .le 13, 3) := by decide +kernel
theorem d_Wl_forge_21 : decode b_Wl_forge 21 = .ok (.new 51, 3) := by decide +kernel
theorem d_Wl_forge_24 : decode b_Wl_forge 24 = .ok (.dup, 1) := by decide +kernel
theorem d_Wl_forge_25 : decode b_Wl_forge 25 = .ok (.ldc 98, 2) := by decide +kernel
theorem d_Wl_forge_27 : decode b_Wl_forge 27 = .ok (.invokespecial 55, 3) := by decide +kernel
theorem d_Wl_forge_30 : decode b_Wl_forge 30 = .ok (.athrow, 1) := by decide +kernel
theorem d_Wl_forge_31 : decode b_Wl_forge 31 = .ok (.lload_n 3, 1) := by decide +kernel
theorem d_Wl_forge_32 : decode b_Wl_forge 32 = .ok (.ldc2_w 100, 3) := by decide +kernel
theorem d_Wl_forge_35 : decode b_Wl_forge 35 = .ok (.land, 1) := by decide +kernel
theorem d_Wl_forge_36 : decode b_Wl_forge 36 = .ok (.lconst 0, 1) := by decide +kernel
theorem d_Wl_forge_37 : decode b_Wl_forge 37 = .ok (.lcmp, 1) := by decide +kernel
theorem d_Wl_forge_38 : decode b_Wl_forge 38 = .ok (.ifCond .ne 11, 3) := by decide +kernel
theorem d_Wl_forge_41 : decode b_Wl_forge 41 = .ok (.iload 5, 2) := by decide +kernel
theorem d_Wl_forge_43 : decode b_Wl_forge 43 = .ok (.invokestatic 102, 3) := by decide +kernel
theorem d_Wl_forge_46 : decode b_Wl_forge 46 = .ok (.ifCond .ne 13, 3) := by decide +kernel
theorem d_Wl_forge_49 : decode b_Wl_forge 49 = .ok (.new 51, 3) := by decide +kernel
theorem d_Wl_forge_52 : decode b_Wl_forge 52 = .ok (.dup, 1) := by decide +kernel
theorem d_Wl_forge_53 : decode b_Wl_forge 53 = .ok (.ldc 105, 2) := by decide +kernel
theorem d_Wl_forge_55 : decode b_Wl_forge 55 = .ok (.invokespecial 55, 3) := by decide +kernel
theorem d_Wl_forge_58 : decode b_Wl_forge 58 = .ok (.athrow, 1) := by decide +kernel
theorem d_Wl_forge_59 : decode b_Wl_forge 59 = .ok (.aload_n 0, 1) := by decide +kernel
theorem d_Wl_forge_60 : decode b_Wl_forge 60 = .ok (.getfield 26, 3) := by decide +kernel
theorem d_Wl_forge_63 : decode b_Wl_forge 63 = .ok (.iconst (-1), 1) := by decide +kernel
theorem d_Wl_forge_64 : decode b_Wl_forge 64 = .ok (.if_icmp .eq 12, 3) := by decide +kernel
theorem d_Wl_forge_67 : decode b_Wl_forge 67 = .ok (.aload_n 0, 1) := by decide +kernel
theorem d_Wl_forge_68 : decode b_Wl_forge 68 = .ok (.getfield 107, 3) := by decide +kernel
theorem d_Wl_forge_71 : decode b_Wl_forge 71 = .ok (.bipush 24, 2) := by decide +kernel
theorem d_Wl_forge_73 : decode b_Wl_forge 73 = .ok (.if_icmp .lt 13, 3) := by decide +kernel
theorem d_Wl_forge_76 : decode b_Wl_forge 76 = .ok (.new 70, 3) := by decide +kernel
theorem d_Wl_forge_79 : decode b_Wl_forge 79 = .ok (.dup, 1) := by decide +kernel
theorem d_Wl_forge_80 : decode b_Wl_forge 80 = .ok (.ldc 110, 2) := by decide +kernel
theorem d_Wl_forge_82 : decode b_Wl_forge 82 = .ok (.invokespecial 74, 3) := by decide +kernel
theorem d_Wl_forge_85 : decode b_Wl_forge 85 = .ok (.athrow, 1) := by decide +kernel
theorem d_Wl_forge_86 : decode b_Wl_forge 86 = .ok (.aload_n 0, 1) := by decide +kernel
theorem d_Wl_forge_87 : decode b_Wl_forge 87 = .ok (.dup, 1) := by decide +kernel
theorem d_Wl_forge_88 : decode b_Wl_forge 88 = .ok (.getfield 107, 3) := by decide +kernel
theorem d_Wl_forge_91 : decode b_Wl_forge 91 = .ok (.iconst 1, 1) := by decide +kernel
theorem d_Wl_forge_92 : decode b_Wl_forge 92 = .ok (.iadd, 1) := by decide +kernel
theorem d_Wl_forge_93 : decode b_Wl_forge 93 = .ok (.putfield 107, 3) := by decide +kernel
theorem d_Wl_forge_96 : decode b_Wl_forge 96 = .ok (.aload_n 0, 1) := by decide +kernel
theorem d_Wl_forge_97 : decode b_Wl_forge 97 = .ok (.getfield 30, 3) := by decide +kernel
theorem d_Wl_forge_100 : decode b_Wl_forge 100 = .ok (.iload_n 1, 1) := by decide +kernel
theorem d_Wl_forge_101 : decode b_Wl_forge 101 = .ok (.aload_n 0, 1) := by decide +kernel
theorem d_Wl_forge_102 : decode b_Wl_forge 102 = .ok (.getfield 26, 3) := by decide +kernel
theorem d_Wl_forge_105 : decode b_Wl_forge 105 = .ok (.invokestatic 112, 3) := by decide +kernel
theorem d_Wl_forge_108 : decode b_Wl_forge 108 = .ok (.iload_n 2, 1) := by decide +kernel
theorem d_Wl_forge_109 : decode b_Wl_forge 109 = .ok (.lload_n 3, 1) := by decide +kernel
theorem d_Wl_forge_110 : decode b_Wl_forge 110 = .ok (.iload 5, 2) := by decide +kernel
theorem d_Wl_forge_112 : decode b_Wl_forge 112 = .ok (.invokevirtual 116, 3) := by decide +kernel
theorem d_Wl_forge_115 : decode b_Wl_forge 115 = .ok (.ireturn, 1) := by decide +kernel
theorem d_Wl_whisper_0 : decode b_Wl_whisper 0 = .ok (.iload_n 1, 1) := by decide +kernel
theorem d_Wl_whisper_1 : decode b_Wl_whisper 1 = .ok (.ifCond .lt 27, 3) := by decide +kernel
theorem d_Wl_whisper_4 : decode b_Wl_whisper 4 = .ok (.iload_n 1, 1) := by decide +kernel
theorem d_Wl_whisper_5 : decode b_Wl_whisper 5 = .ok (.iconst 2, 1) := by decide +kernel
theorem d_Wl_whisper_6 : decode b_Wl_whisper 6 = .ok (.if_icmp .gt 22, 3) := by decide +kernel
theorem d_Wl_whisper_9 : decode b_Wl_whisper 9 = .ok (.aload_n 0, 1) := by decide +kernel
theorem d_Wl_whisper_10 : decode b_Wl_whisper 10 = .ok (.iload_n 2, 1) := by decide +kernel
theorem d_Wl_whisper_11 : decode b_Wl_whisper 11 = .ok (.invokevirtual 45, 3) := by decide +kernel
theorem d_Wl_whisper_14 : decode b_Wl_whisper 14 = .ok (.ifCond .eq 14, 3) := by decide +kernel
theorem d_Wl_whisper_17 : decode b_Wl_whisper 17 = .ok (.aload_n 0, 1) := by decide +kernel
theorem d_Wl_whisper_18 : decode b_Wl_whisper 18 = .ok (.getfield 30, 3) := by decide +kernel
theorem d_Wl_whisper_21 : decode b_Wl_whisper 21 = .ok (.iload_n 3, 1) := by decide +kernel
theorem d_Wl_whisper_22 : decode b_Wl_whisper 22 = .ok (.invokevirtual 120, 3) := by decide +kernel
theorem d_Wl_whisper_25 : decode b_Wl_whisper 25 = .ok (.ifCond .ne 13, 3) := by decide +kernel
theorem d_Wl_whisper_28 : decode b_Wl_whisper 28 = .ok (.new 51, 3) := by decide +kernel
theorem d_Wl_whisper_31 : decode b_Wl_whisper 31 = .ok (.dup, 1) := by decide +kernel
theorem d_Wl_whisper_32 : decode b_Wl_whisper 32 = .ok (.ldc 121, 2) := by decide +kernel
theorem d_Wl_whisper_34 : decode b_Wl_whisper 34 = .ok (.invokespecial 55, 3) := by decide +kernel
theorem d_Wl_whisper_37 : decode b_Wl_whisper 37 = .ok (.athrow, 1) := by decide +kernel
theorem d_Wl_whisper_38 : decode b_Wl_whisper 38 = .ok (.aload_n 0, 1) := by decide +kernel
theorem d_Wl_whisper_39 : decode b_Wl_whisper 39 = .ok (.getfield 26, 3) := by decide +kernel
theorem d_Wl_whisper_42 : decode b_Wl_whisper 42 = .ok (.iconst (-1), 1) := by decide +kernel
theorem d_Wl_whisper_43 : decode b_Wl_whisper 43 = .ok (.if_icmp .ne 13, 3) := by decide +kernel
theorem d_Wl_whisper_46 : decode b_Wl_whisper 46 = .ok (.new 70, 3) := by decide +kernel
theorem d_Wl_whisper_49 : decode b_Wl_whisper 49 = .ok (.dup, 1) := by decide +kernel
theorem d_Wl_whisper_50 : decode b_Wl_whisper 50 = .ok (.ldc 123, 2) := by decide +kernel
theorem d_Wl_whisper_52 : decode b_Wl_whisper 52 = .ok (.invokespecial 74, 3) := by decide +kernel
theorem d_Wl_whisper_55 : decode b_Wl_whisper 55 = .ok (.athrow, 1) := by decide +kernel
theorem d_Wl_whisper_56 : decode b_Wl_whisper 56 = .ok (.aload_n 0, 1) := by decide +kernel
theorem d_Wl_whisper_57 : decode b_Wl_whisper 57 = .ok (.getfield 34, 3) := by decide +kernel
theorem d_Wl_whisper_60 : decode b_Wl_whisper 60 = .ok (.iload_n 1, 1) := by decide +kernel
theorem d_Wl_whisper_61 : decode b_Wl_whisper 61 = .ok (.aload_n 0, 1) := by decide +kernel
theorem d_Wl_whisper_62 : decode b_Wl_whisper 62 = .ok (.getfield 26, 3) := by decide +kernel
theorem d_Wl_whisper_65 : decode b_Wl_whisper 65 = .ok (.iload_n 2, 1) := by decide +kernel
theorem d_Wl_whisper_66 : decode b_Wl_whisper 66 = .ok (.iload_n 3, 1) := by decide +kernel
theorem d_Wl_whisper_67 : decode b_Wl_whisper 67 = .ok (.invokevirtual 125, 3) := by decide +kernel
theorem d_Wl_whisper_70 : decode b_Wl_whisper 70 = .ok (.aload_n 0, 1) := by decide +kernel
theorem d_Wl_whisper_71 : decode b_Wl_whisper 71 = .ok (.getfield 34, 3) := by decide +kernel
theorem d_Wl_whisper_74 : decode b_Wl_whisper 74 = .ok (.getfield 90, 3) := by decide +kernel
theorem d_Wl_whisper_77 : decode b_Wl_whisper 77 = .ok (.ireturn, 1) := by decide +kernel
theorem d_Wl_message_0 : decode b_Wl_message 0 = .ok (.aload_n 0, 1) := by decide +kernel
theorem d_Wl_message_1 : decode b_Wl_message 1 = .ok (.getfield 34, 3) := by decide +kernel
theorem d_Wl_message_4 : decode b_Wl_message 4 = .ok (.iload_n 1, 1) := by decide +kernel
theorem d_Wl_message_5 : decode b_Wl_message 5 = .ok (.invokevirtual 95, 3) := by decide +kernel
theorem d_Wl_message_8 : decode b_Wl_message 8 = .ok (.ifCond .ne 5, 3) := by decide +kernel
theorem d_Wl_message_11 : decode b_Wl_message 11 = .ok (.iconst (-1), 1) := by decide +kernel
theorem d_Wl_message_12 : decode b_Wl_message 12 = .ok (.ireturn, 1) := by decide +kernel
theorem d_Wl_message_13 : decode b_Wl_message 13 = .ok (.aload_n 0, 1) := by decide +kernel
theorem d_Wl_message_14 : decode b_Wl_message 14 = .ok (.getfield 34, 3) := by decide +kernel
theorem d_Wl_message_17 : decode b_Wl_message 17 = .ok (.getfield 129, 3) := by decide +kernel
theorem d_Wl_message_20 : decode b_Wl_message 20 = .ok (.iload_n 1, 1) := by decide +kernel
theorem d_Wl_message_21 : decode b_Wl_message 21 = .ok (.iaload, 1) := by decide +kernel
theorem d_Wl_message_22 : decode b_Wl_message 22 = .ok (.istore_n 3, 1) := by decide +kernel
theorem d_Wl_message_23 : decode b_Wl_message 23 = .ok (.iload_n 2, 1) := by decide +kernel
theorem d_Wl_message_24 : decode b_Wl_message 24 = .ok (.tableswitch 52 0 3 #[32, 37, 42, 47], 32) := by decide +kernel
theorem d_Wl_message_56 : decode b_Wl_message 56 = .ok (.iload_n 3, 1) := by decide +kernel
theorem d_Wl_message_57 : decode b_Wl_message 57 = .ok (.invokestatic 133, 3) := by decide +kernel
theorem d_Wl_message_60 : decode b_Wl_message 60 = .ok (.ireturn, 1) := by decide +kernel
theorem d_Wl_message_61 : decode b_Wl_message 61 = .ok (.iload_n 3, 1) := by decide +kernel
theorem d_Wl_message_62 : decode b_Wl_message 62 = .ok (.invokestatic 137, 3) := by decide +kernel
theorem d_Wl_message_65 : decode b_Wl_message 65 = .ok (.ireturn, 1) := by decide +kernel
theorem d_Wl_message_66 : decode b_Wl_message 66 = .ok (.iload_n 3, 1) := by decide +kernel
theorem d_Wl_message_67 : decode b_Wl_message 67 = .ok (.invokestatic 140, 3) := by decide +kernel
theorem d_Wl_message_70 : decode b_Wl_message 70 = .ok (.ireturn, 1) := by decide +kernel
theorem d_Wl_message_71 : decode b_Wl_message 71 = .ok (.iload_n 3, 1) := by decide +kernel
theorem d_Wl_message_72 : decode b_Wl_message 72 = .ok (.invokestatic 143, 3) := by decide +kernel
theorem d_Wl_message_75 : decode b_Wl_message 75 = .ok (.ireturn, 1) := by decide +kernel
theorem d_Wl_message_76 : decode b_Wl_message 76 = .ok (.iconst (-1), 1) := by decide +kernel
theorem d_Wl_message_77 : decode b_Wl_message 77 = .ok (.ireturn, 1) := by decide +kernel
theorem d_Wl_vertex_0 : decode b_Wl_vertex 0 = .ok (.aload_n 0, 1) := by decide +kernel
theorem d_Wl_vertex_1 : decode b_Wl_vertex 1 = .ok (.getfield 30, 3) := by decide +kernel
theorem d_Wl_vertex_4 : decode b_Wl_vertex 4 = .ok (.iload_n 1, 1) := by decide +kernel
theorem d_Wl_vertex_5 : decode b_Wl_vertex 5 = .ok (.invokevirtual 120, 3) := by decide +kernel
theorem d_Wl_vertex_8 : decode b_Wl_vertex 8 = .ok (.ifCond .ne 5, 3) := by decide +kernel
theorem d_Wl_vertex_11 : decode b_Wl_vertex 11 = .ok (.iconst (-1), 1) := by decide +kernel
theorem d_Wl_vertex_12 : decode b_Wl_vertex 12 = .ok (.ireturn, 1) := by decide +kernel
theorem d_Wl_vertex_13 : decode b_Wl_vertex 13 = .ok (.iload_n 2, 1) := by decide +kernel
theorem d_Wl_vertex_14 : decode b_Wl_vertex 14 = .ok (.tableswitch 56 0 2 #[26, 36, 46], 26) := by decide +kernel
theorem d_Wl_vertex_40 : decode b_Wl_vertex 40 = .ok (.aload_n 0, 1) := by decide +kernel
theorem d_Wl_vertex_41 : decode b_Wl_vertex 41 = .ok (.getfield 30, 3) := by decide +kernel
theorem d_Wl_vertex_44 : decode b_Wl_vertex 44 = .ok (.getfield 146, 3) := by decide +kernel
theorem d_Wl_vertex_47 : decode b_Wl_vertex 47 = .ok (.iload_n 1, 1) := by decide +kernel
theorem d_Wl_vertex_48 : decode b_Wl_vertex 48 = .ok (.iaload, 1) := by decide +kernel
theorem d_Wl_vertex_49 : decode b_Wl_vertex 49 = .ok (.ireturn, 1) := by decide +kernel
theorem d_Wl_vertex_50 : decode b_Wl_vertex 50 = .ok (.aload_n 0, 1) := by decide +kernel
theorem d_Wl_vertex_51 : decode b_Wl_vertex 51 = .ok (.getfield 30, 3) := by decide +kernel
theorem d_Wl_vertex_54 : decode b_Wl_vertex 54 = .ok (.getfield 149, 3) := by decide +kernel
theorem d_Wl_vertex_57 : decode b_Wl_vertex 57 = .ok (.iload_n 1, 1) := by decide +kernel
theorem d_Wl_vertex_58 : decode b_Wl_vertex 58 = .ok (.iaload, 1) := by decide +kernel
theorem d_Wl_vertex_59 : decode b_Wl_vertex 59 = .ok (.ireturn, 1) := by decide +kernel
theorem d_Wl_vertex_60 : decode b_Wl_vertex 60 = .ok (.aload_n 0, 1) := by decide +kernel
theorem d_Wl_vertex_61 : decode b_Wl_vertex 61 = .ok (.getfield 30, 3) := by decide +kernel
theorem d_Wl_vertex_64 : decode b_Wl_vertex 64 = .ok (.getfield 152, 3) := by decide +kernel
theorem d_Wl_vertex_67 : decode b_Wl_vertex 67 = .ok (.iload_n 1, 1) := by decide +kernel
theorem d_Wl_vertex_68 : decode b_Wl_vertex 68 = .ok (.iaload, 1) := by decide +kernel
theorem d_Wl_vertex_69 : decode b_Wl_vertex 69 = .ok (.ireturn, 1) := by decide +kernel
theorem d_Wl_vertex_70 : decode b_Wl_vertex 70 = .ok (.iconst (-1), 1) := by decide +kernel
theorem d_Wl_vertex_71 : decode b_Wl_vertex 71 = .ok (.ireturn, 1) := by decide +kernel
theorem d_Wl_weak_0 : decode b_Wl_weak 0 = .ok (.aload_n 0, 1) := by decide +kernel
theorem d_Wl_weak_1 : decode b_Wl_weak 1 = .ok (.getfield 30, 3) := by decide +kernel
theorem d_Wl_weak_4 : decode b_Wl_weak 4 = .ok (.iload_n 1, 1) := by decide +kernel
theorem d_Wl_weak_5 : decode b_Wl_weak 5 = .ok (.invokevirtual 120, 3) := by decide +kernel
theorem d_Wl_weak_8 : decode b_Wl_weak 8 = .ok (.ifCond .eq 15, 3) := by decide +kernel
theorem d_Wl_weak_11 : decode b_Wl_weak 11 = .ok (.aload_n 0, 1) := by decide +kernel
theorem d_Wl_weak_12 : decode b_Wl_weak 12 = .ok (.getfield 30, 3) := by decide +kernel
theorem d_Wl_weak_15 : decode b_Wl_weak 15 = .ok (.getfield 155, 3) := by decide +kernel
theorem d_Wl_weak_18 : decode b_Wl_weak 18 = .ok (.iload_n 1, 1) := by decide +kernel
theorem d_Wl_weak_19 : decode b_Wl_weak 19 = .ok (.laload, 1) := by decide +kernel
theorem d_Wl_weak_20 : decode b_Wl_weak 20 = .ok (.goto 6, 3) := by decide +kernel
theorem d_Wl_weak_23 : decode b_Wl_weak 23 = .ok (.ldc2_w 159, 3) := by decide +kernel
theorem d_Wl_weak_26 : decode b_Wl_weak 26 = .ok (.lreturn, 1) := by decide +kernel
theorem d_Wl_node_0 : decode b_Wl_node 0 = .ok (.iload_n 1, 1) := by decide +kernel
theorem d_Wl_node_1 : decode b_Wl_node 1 = .ok (.invokestatic 9, 3) := by decide +kernel
theorem d_Wl_node_4 : decode b_Wl_node 4 = .ok (.ifCond .eq 13, 3) := by decide +kernel
theorem d_Wl_node_7 : decode b_Wl_node 7 = .ok (.iload_n 2, 1) := by decide +kernel
theorem d_Wl_node_8 : decode b_Wl_node 8 = .ok (.ifCond .lt 9, 3) := by decide +kernel
theorem d_Wl_node_11 : decode b_Wl_node 11 = .ok (.iload_n 2, 1) := by decide +kernel
theorem d_Wl_node_12 : decode b_Wl_node 12 = .ok (.bipush 8, 2) := by decide +kernel
theorem d_Wl_node_14 : decode b_Wl_node 14 = .ok (.if_icmp .lt 5, 3) := by decide +kernel
theorem d_Wl_node_17 : decode b_Wl_node 17 = .ok (.iconst (-1), 1) := by decide +kernel
theorem d_Wl_node_18 : decode b_Wl_node 18 = .ok (.ireturn, 1) := by decide +kernel
theorem d_Wl_node_19 : decode b_Wl_node 19 = .ok (.iload_n 1, 1) := by decide +kernel
theorem d_Wl_node_20 : decode b_Wl_node 20 = .ok (.aload_n 0, 1) := by decide +kernel
theorem d_Wl_node_21 : decode b_Wl_node 21 = .ok (.getfield 26, 3) := by decide +kernel
theorem d_Wl_node_24 : decode b_Wl_node 24 = .ok (.if_icmp .ne 5, 3) := by decide +kernel
theorem d_Wl_node_27 : decode b_Wl_node 27 = .ok (.iconst 0, 1) := by decide +kernel
theorem d_Wl_node_28 : decode b_Wl_node 28 = .ok (.ireturn, 1) := by decide +kernel
theorem d_Wl_node_29 : decode b_Wl_node 29 = .ok (.aload_n 0, 1) := by decide +kernel
theorem d_Wl_node_30 : decode b_Wl_node 30 = .ok (.getfield 38, 3) := by decide +kernel
theorem d_Wl_node_33 : decode b_Wl_node 33 = .ok (.iload_n 1, 1) := by decide +kernel
theorem d_Wl_node_34 : decode b_Wl_node 34 = .ok (.aaload, 1) := by decide +kernel
theorem d_Wl_node_35 : decode b_Wl_node 35 = .ok (.astore_n 3, 1) := by decide +kernel
theorem d_Wl_node_36 : decode b_Wl_node 36 = .ok (.iload_n 2, 1) := by decide +kernel
theorem d_Wl_node_37 : decode b_Wl_node 37 = .ok (.tableswitch 60 0 3 #[31, 36, 41, 49], 31) := by decide +kernel
theorem d_Wl_node_68 : decode b_Wl_node 68 = .ok (.aload_n 3, 1) := by decide +kernel
theorem d_Wl_node_69 : decode b_Wl_node 69 = .ok (.getfield 161, 3) := by decide +kernel
theorem d_Wl_node_72 : decode b_Wl_node 72 = .ok (.ireturn, 1) := by decide +kernel
theorem d_Wl_node_73 : decode b_Wl_node 73 = .ok (.aload_n 3, 1) := by decide +kernel
theorem d_Wl_node_74 : decode b_Wl_node 74 = .ok (.getfield 164, 3) := by decide +kernel
theorem d_Wl_node_77 : decode b_Wl_node 77 = .ok (.ireturn, 1) := by decide +kernel
theorem d_Wl_node_78 : decode b_Wl_node 78 = .ok (.aload_n 3, 1) := by decide +kernel
theorem d_Wl_node_79 : decode b_Wl_node 79 = .ok (.getfield 167, 3) := by decide +kernel
theorem d_Wl_node_82 : decode b_Wl_node 82 = .ok (.getfield 171, 3) := by decide +kernel
theorem d_Wl_node_85 : decode b_Wl_node 85 = .ok (.ireturn, 1) := by decide +kernel
theorem d_Wl_node_86 : decode b_Wl_node 86 = .ok (.aload_n 3, 1) := by decide +kernel
theorem d_Wl_node_87 : decode b_Wl_node 87 = .ok (.getfield 174, 3) := by decide +kernel
theorem d_Wl_node_90 : decode b_Wl_node 90 = .ok (.getfield 178, 3) := by decide +kernel
theorem d_Wl_node_93 : decode b_Wl_node 93 = .ok (.invokestatic 184, 3) := by decide +kernel
theorem d_Wl_node_96 : decode b_Wl_node 96 = .ok (.ireturn, 1) := by decide +kernel
theorem d_Wl_node_97 : decode b_Wl_node 97 = .ok (.aload_n 3, 1) := by decide +kernel
theorem d_Wl_node_98 : decode b_Wl_node 98 = .ok (.getfield 167, 3) := by decide +kernel
theorem d_Wl_node_101 : decode b_Wl_node 101 = .ok (.getfield 190, 3) := by decide +kernel
theorem d_Wl_node_104 : decode b_Wl_node 104 = .ok (.iload_n 2, 1) := by decide +kernel
theorem d_Wl_node_105 : decode b_Wl_node 105 = .ok (.iconst 4, 1) := by decide +kernel
theorem d_Wl_node_106 : decode b_Wl_node 106 = .ok (.isub, 1) := by decide +kernel
theorem d_Wl_node_107 : decode b_Wl_node 107 = .ok (.iaload, 1) := by decide +kernel
theorem d_Wl_node_108 : decode b_Wl_node 108 = .ok (.ireturn, 1) := by decide +kernel
theorem d_Wl_graph_0 : decode b_Wl_graph 0 = .ok (.iload_n 1, 1) := by decide +kernel
theorem d_Wl_graph_1 : decode b_Wl_graph 1 = .ok (.invokestatic 9, 3) := by decide +kernel
theorem d_Wl_graph_4 : decode b_Wl_graph 4 = .ok (.ifCond .eq 13, 3) := by decide +kernel
theorem d_Wl_graph_7 : decode b_Wl_graph 7 = .ok (.iload_n 2, 1) := by decide +kernel
theorem d_Wl_graph_8 : decode b_Wl_graph 8 = .ok (.ifCond .lt 9, 3) := by decide +kernel
theorem d_Wl_graph_11 : decode b_Wl_graph 11 = .ok (.iload_n 2, 1) := by decide +kernel
theorem d_Wl_graph_12 : decode b_Wl_graph 12 = .ok (.bipush 48, 2) := by decide +kernel
theorem d_Wl_graph_14 : decode b_Wl_graph 14 = .ok (.if_icmp .lt 5, 3) := by decide +kernel
theorem d_Wl_graph_17 : decode b_Wl_graph 17 = .ok (.iconst 0, 1) := by decide +kernel
theorem d_Wl_graph_18 : decode b_Wl_graph 18 = .ok (.ireturn, 1) := by decide +kernel
theorem d_Wl_graph_19 : decode b_Wl_graph 19 = .ok (.aload_n 0, 1) := by decide +kernel
theorem d_Wl_graph_20 : decode b_Wl_graph 20 = .ok (.getfield 38, 3) := by decide +kernel
theorem d_Wl_graph_23 : decode b_Wl_graph 23 = .ok (.iload_n 1, 1) := by decide +kernel
theorem d_Wl_graph_24 : decode b_Wl_graph 24 = .ok (.aaload, 1) := by decide +kernel
theorem d_Wl_graph_25 : decode b_Wl_graph 25 = .ok (.getfield 174, 3) := by decide +kernel
theorem d_Wl_graph_28 : decode b_Wl_graph 28 = .ok (.astore_n 3, 1) := by decide +kernel
theorem d_Wl_graph_29 : decode b_Wl_graph 29 = .ok (.aload_n 3, 1) := by decide +kernel
theorem d_Wl_graph_30 : decode b_Wl_graph 30 = .ok (.iload_n 2, 1) := by decide +kernel
theorem d_Wl_graph_31 : decode b_Wl_graph 31 = .ok (.invokevirtual 193, 3) := by decide +kernel
theorem d_Wl_graph_34 : decode b_Wl_graph 34 = .ok (.ifCond .eq 12, 3) := by decide +kernel
theorem d_Wl_graph_37 : decode b_Wl_graph 37 = .ok (.aload_n 3, 1) := by decide +kernel
theorem d_Wl_graph_38 : decode b_Wl_graph 38 = .ok (.getfield 194, 3) := by decide +kernel
theorem d_Wl_graph_41 : decode b_Wl_graph 41 = .ok (.iload_n 2, 1) := by decide +kernel
theorem d_Wl_graph_42 : decode b_Wl_graph 42 = .ok (.iaload, 1) := by decide +kernel
theorem d_Wl_graph_43 : decode b_Wl_graph 43 = .ok (.goto 10, 3) := by decide +kernel
theorem d_Wl_graph_46 : decode b_Wl_graph 46 = .ok (.aload_n 3, 1) := by decide +kernel
theorem d_Wl_graph_47 : decode b_Wl_graph 47 = .ok (.getfield 194, 3) := by decide +kernel
theorem d_Wl_graph_50 : decode b_Wl_graph 50 = .ok (.iload_n 2, 1) := by decide +kernel
theorem d_Wl_graph_51 : decode b_Wl_graph 51 = .ok (.iaload, 1) := by decide +kernel
theorem d_Wl_graph_52 : decode b_Wl_graph 52 = .ok (.ineg, 1) := by decide +kernel
theorem d_Wl_graph_53 : decode b_Wl_graph 53 = .ok (.ireturn, 1) := by decide +kernel
theorem d_Wl_ordered_0 : decode b_Wl_ordered 0 = .ok (.iload_n 1, 1) := by decide +kernel
theorem d_Wl_ordered_1 : decode b_Wl_ordered 1 = .ok (.invokestatic 9, 3) := by decide +kernel
theorem d_Wl_ordered_4 : decode b_Wl_ordered 4 = .ok (.ifCond .eq 23, 3) := by decide +kernel
theorem d_Wl_ordered_7 : decode b_Wl_ordered 7 = .ok (.iload_n 2, 1) := by decide +kernel
theorem d_Wl_ordered_8 : decode b_Wl_ordered 8 = .ok (.ifCond .lt 19, 3) := by decide +kernel
theorem d_Wl_ordered_11 : decode b_Wl_ordered 11 = .ok (.iload_n 2, 1) := by decide +kernel
theorem d_Wl_ordered_12 : decode b_Wl_ordered 12 = .ok (.aload_n 0, 1) := by decide +kernel
theorem d_Wl_ordered_13 : decode b_Wl_ordered 13 = .ok (.getfield 38, 3) := by decide +kernel
theorem d_Wl_ordered_16 : decode b_Wl_ordered 16 = .ok (.iload_n 1, 1) := by decide +kernel
theorem d_Wl_ordered_17 : decode b_Wl_ordered 17 = .ok (.aaload, 1) := by decide +kernel
theorem d_Wl_ordered_18 : decode b_Wl_ordered 18 = .ok (.getfield 167, 3) := by decide +kernel
theorem d_Wl_ordered_21 : decode b_Wl_ordered 21 = .ok (.getfield 171, 3) := by decide +kernel
theorem d_Wl_ordered_24 : decode b_Wl_ordered 24 = .ok (.if_icmp .lt 5, 3) := by decide +kernel
theorem d_Wl_ordered_27 : decode b_Wl_ordered 27 = .ok (.iconst (-1), 1) := by decide +kernel
theorem d_Wl_ordered_28 : decode b_Wl_ordered 28 = .ok (.ireturn, 1) := by decide +kernel
theorem d_Wl_ordered_29 : decode b_Wl_ordered 29 = .ok (.aload_n 0, 1) := by decide +kernel
theorem d_Wl_ordered_30 : decode b_Wl_ordered 30 = .ok (.getfield 38, 3) := by decide +kernel
theorem d_Wl_ordered_33 : decode b_Wl_ordered 33 = .ok (.iload_n 1, 1) := by decide +kernel
theorem d_Wl_ordered_34 : decode b_Wl_ordered 34 = .ok (.aaload, 1) := by decide +kernel
theorem d_Wl_ordered_35 : decode b_Wl_ordered 35 = .ok (.getfield 167, 3) := by decide +kernel
theorem d_Wl_ordered_38 : decode b_Wl_ordered 38 = .ok (.getfield 197, 3) := by decide +kernel
theorem d_Wl_ordered_41 : decode b_Wl_ordered 41 = .ok (.iload_n 2, 1) := by decide +kernel
theorem d_Wl_ordered_42 : decode b_Wl_ordered 42 = .ok (.iaload, 1) := by decide +kernel
theorem d_Wl_ordered_43 : decode b_Wl_ordered 43 = .ok (.ireturn, 1) := by decide +kernel
theorem d_Wl_arrive_0 : decode b_Wl_arrive 0 = .ok (.aload_n 0, 1) := by decide +kernel
theorem d_Wl_arrive_1 : decode b_Wl_arrive 1 = .ok (.getfield 34, 3) := by decide +kernel
theorem d_Wl_arrive_4 : decode b_Wl_arrive 4 = .ok (.iload_n 1, 1) := by decide +kernel
theorem d_Wl_arrive_5 : decode b_Wl_arrive 5 = .ok (.invokevirtual 198, 3) := by decide +kernel
theorem d_Wl_arrive_8 : decode b_Wl_arrive 8 = .ok (.istore_n 2, 1) := by decide +kernel
theorem d_Wl_arrive_9 : decode b_Wl_arrive 9 = .ok (.iload_n 2, 1) := by decide +kernel
theorem d_Wl_arrive_10 : decode b_Wl_arrive 10 = .ok (.invokestatic 137, 3) := by decide +kernel
theorem d_Wl_arrive_13 : decode b_Wl_arrive 13 = .ok (.istore_n 3, 1) := by decide +kernel
theorem d_Wl_arrive_14 : decode b_Wl_arrive 14 = .ok (.iload_n 2, 1) := by decide +kernel
theorem d_Wl_arrive_15 : decode b_Wl_arrive 15 = .ok (.invokestatic 143, 3) := by decide +kernel
theorem d_Wl_arrive_18 : decode b_Wl_arrive 18 = .ok (.istore 4, 2) := by decide +kernel
theorem d_Wl_arrive_20 : decode b_Wl_arrive 20 = .ok (.aload_n 0, 1) := by decide +kernel
theorem d_Wl_arrive_21 : decode b_Wl_arrive 21 = .ok (.getfield 38, 3) := by decide +kernel
theorem d_Wl_arrive_24 : decode b_Wl_arrive 24 = .ok (.iload_n 2, 1) := by decide +kernel
theorem d_Wl_arrive_25 : decode b_Wl_arrive 25 = .ok (.invokestatic 140, 3) := by decide +kernel
theorem d_Wl_arrive_28 : decode b_Wl_arrive 28 = .ok (.aaload, 1) := by decide +kernel
theorem d_Wl_arrive_29 : decode b_Wl_arrive 29 = .ok (.astore 5, 2) := by decide +kernel
theorem d_Wl_arrive_31 : decode b_Wl_arrive 31 = .ok (.iload_n 2, 1) := by decide +kernel
theorem d_Wl_arrive_32 : decode b_Wl_arrive 32 = .ok (.invokestatic 133, 3) := by decide +kernel
theorem d_Wl_arrive_35 : decode b_Wl_arrive 35 = .ok (.lookupswitch 47 #[(0, 25), (1, 36)], 25) := by decide +kernel
theorem d_Wl_arrive_60 : decode b_Wl_arrive 60 = .ok (.aload 5, 2) := by decide +kernel
theorem d_Wl_arrive_62 : decode b_Wl_arrive 62 = .ok (.iload_n 3, 1) := by decide +kernel
theorem d_Wl_arrive_63 : decode b_Wl_arrive 63 = .ok (.iload 4, 2) := by decide +kernel
theorem d_Wl_arrive_65 : decode b_Wl_arrive 65 = .ok (.invokevirtual 201, 3) := by decide +kernel
theorem d_Wl_arrive_68 : decode b_Wl_arrive 68 = .ok (.goto 22, 3) := by decide +kernel
theorem d_Wl_arrive_71 : decode b_Wl_arrive 71 = .ok (.aload 5, 2) := by decide +kernel
theorem d_Wl_arrive_73 : decode b_Wl_arrive 73 = .ok (.iload_n 3, 1) := by decide +kernel
theorem d_Wl_arrive_74 : decode b_Wl_arrive 74 = .ok (.iload 4, 2) := by decide +kernel
theorem d_Wl_arrive_76 : decode b_Wl_arrive 76 = .ok (.invokevirtual 205, 3) := by decide +kernel
theorem d_Wl_arrive_79 : decode b_Wl_arrive 79 = .ok (.goto 11, 3) := by decide +kernel
theorem d_Wl_arrive_82 : decode b_Wl_arrive 82 = .ok (.aload 5, 2) := by decide +kernel
theorem d_Wl_arrive_84 : decode b_Wl_arrive 84 = .ok (.iload_n 3, 1) := by decide +kernel
theorem d_Wl_arrive_85 : decode b_Wl_arrive 85 = .ok (.iload 4, 2) := by decide +kernel
theorem d_Wl_arrive_87 : decode b_Wl_arrive 87 = .ok (.invokevirtual 208, 3) := by decide +kernel
theorem d_Wl_arrive_90 : decode b_Wl_arrive 90 = .ok (.aload_n 0, 1) := by decide +kernel
theorem d_Wl_arrive_91 : decode b_Wl_arrive 91 = .ok (.getfield 81, 3) := by decide +kernel
theorem d_Wl_arrive_94 : decode b_Wl_arrive 94 = .ok (.ifCond .eq 8, 3) := by decide +kernel
theorem d_Wl_arrive_97 : decode b_Wl_arrive 97 = .ok (.aload 5, 2) := by decide +kernel
theorem d_Wl_arrive_99 : decode b_Wl_arrive 99 = .ok (.invokevirtual 85, 3) := by decide +kernel
theorem d_Wl_arrive_102 : decode b_Wl_arrive 102 = .ok (.return_, 1) := by decide +kernel
theorem d_Wl_isActive_0 : decode b_Wl_isActive 0 = .ok (.iload_n 1, 1) := by decide +kernel
theorem d_Wl_isActive_1 : decode b_Wl_isActive 1 = .ok (.invokestatic 9, 3) := by decide +kernel
theorem d_Wl_isActive_4 : decode b_Wl_isActive 4 = .ok (.ifCond .eq 15, 3) := by decide +kernel
theorem d_Wl_isActive_7 : decode b_Wl_isActive 7 = .ok (.iload_n 1, 1) := by decide +kernel
theorem d_Wl_isActive_8 : decode b_Wl_isActive 8 = .ok (.aload_n 0, 1) := by decide +kernel
theorem d_Wl_isActive_9 : decode b_Wl_isActive 9 = .ok (.getfield 26, 3) := by decide +kernel
theorem d_Wl_isActive_12 : decode b_Wl_isActive 12 = .ok (.if_icmp .eq 7, 3) := by decide +kernel
theorem d_Wl_isActive_15 : decode b_Wl_isActive 15 = .ok (.iconst 1, 1) := by decide +kernel
theorem d_Wl_isActive_16 : decode b_Wl_isActive 16 = .ok (.goto 4, 3) := by decide +kernel
theorem d_Wl_isActive_19 : decode b_Wl_isActive 19 = .ok (.iconst 0, 1) := by decide +kernel
theorem d_Wl_isActive_20 : decode b_Wl_isActive 20 = .ok (.ireturn, 1) := by decide +kernel
theorem d_Wl_isNode_0 : decode b_Wl_isNode 0 = .ok (.iload_n 0, 1) := by decide +kernel
theorem d_Wl_isNode_1 : decode b_Wl_isNode 1 = .ok (.ifCond .lt 12, 3) := by decide +kernel
theorem d_Wl_isNode_4 : decode b_Wl_isNode 4 = .ok (.iload_n 0, 1) := by decide +kernel
theorem d_Wl_isNode_5 : decode b_Wl_isNode 5 = .ok (.iconst 4, 1) := by decide +kernel
theorem d_Wl_isNode_6 : decode b_Wl_isNode 6 = .ok (.if_icmp .ge 7, 3) := by decide +kernel
theorem d_Wl_isNode_9 : decode b_Wl_isNode 9 = .ok (.iconst 1, 1) := by decide +kernel
theorem d_Wl_isNode_10 : decode b_Wl_isNode 10 = .ok (.goto 4, 3) := by decide +kernel
theorem d_Wl_isNode_13 : decode b_Wl_isNode 13 = .ok (.iconst 0, 1) := by decide +kernel
theorem d_Wl_isNode_14 : decode b_Wl_isNode 14 = .ok (.ireturn, 1) := by decide +kernel
theorem d_Wl_isAccount_0 : decode b_Wl_isAccount 0 = .ok (.iload_n 0, 1) := by decide +kernel
theorem d_Wl_isAccount_1 : decode b_Wl_isAccount 1 = .ok (.ifCond .lt 12, 3) := by decide +kernel
theorem d_Wl_isAccount_4 : decode b_Wl_isAccount 4 = .ok (.iload_n 0, 1) := by decide +kernel
theorem d_Wl_isAccount_5 : decode b_Wl_isAccount 5 = .ok (.iconst 4, 1) := by decide +kernel
theorem d_Wl_isAccount_6 : decode b_Wl_isAccount 6 = .ok (.if_icmp .ge 7, 3) := by decide +kernel
theorem d_Wl_isAccount_9 : decode b_Wl_isAccount 9 = .ok (.iconst 1, 1) := by decide +kernel
theorem d_Wl_isAccount_10 : decode b_Wl_isAccount 10 = .ok (.goto 4, 3) := by decide +kernel
theorem d_Wl_isAccount_13 : decode b_Wl_isAccount 13 = .ok (.iconst 0, 1) := by decide +kernel
theorem d_Wl_isAccount_14 : decode b_Wl_isAccount 14 = .ok (.ireturn, 1) := by decide +kernel
theorem d_Wl_isTransferOrNone_0 : decode b_Wl_isTransferOrNone 0 = .ok (.iload_n 0, 1) := by decide +kernel
theorem d_Wl_isTransferOrNone_1 : decode b_Wl_isTransferOrNone 1 = .ok (.ifCond .ne 5, 3) := by decide +kernel
theorem d_Wl_isTransferOrNone_4 : decode b_Wl_isTransferOrNone 4 = .ok (.iconst 1, 1) := by decide +kernel
theorem d_Wl_isTransferOrNone_5 : decode b_Wl_isTransferOrNone 5 = .ok (.ireturn, 1) := by decide +kernel
theorem d_Wl_isTransferOrNone_6 : decode b_Wl_isTransferOrNone 6 = .ok (.iload_n 0, 1) := by decide +kernel
theorem d_Wl_isTransferOrNone_7 : decode b_Wl_isTransferOrNone 7 = .ok (.sipush 1000, 3) := by decide +kernel
theorem d_Wl_isTransferOrNone_10 : decode b_Wl_isTransferOrNone 10 = .ok (.idiv, 1) := by decide +kernel
theorem d_Wl_isTransferOrNone_11 : decode b_Wl_isTransferOrNone 11 = .ok (.istore_n 1, 1) := by decide +kernel
theorem d_Wl_isTransferOrNone_12 : decode b_Wl_isTransferOrNone 12 = .ok (.iload_n 1, 1) := by decide +kernel
theorem d_Wl_isTransferOrNone_13 : decode b_Wl_isTransferOrNone 13 = .ok (.iconst 1, 1) := by decide +kernel
theorem d_Wl_isTransferOrNone_14 : decode b_Wl_isTransferOrNone 14 = .ok (.if_icmp .lt 33, 3) := by decide +kernel
theorem d_Wl_isTransferOrNone_17 : decode b_Wl_isTransferOrNone 17 = .ok (.iload_n 1, 1) := by decide +kernel
theorem d_Wl_isTransferOrNone_18 : decode b_Wl_isTransferOrNone 18 = .ok (.bipush 99, 2) := by decide +kernel
theorem d_Wl_isTransferOrNone_20 : decode b_Wl_isTransferOrNone 20 = .ok (.if_icmp .gt 27, 3) := by decide +kernel
theorem d_Wl_isTransferOrNone_23 : decode b_Wl_isTransferOrNone 23 = .ok (.iload_n 0, 1) := by decide +kernel
theorem d_Wl_isTransferOrNone_24 : decode b_Wl_isTransferOrNone 24 = .ok (.invokestatic 211, 3) := by decide +kernel
theorem d_Wl_isTransferOrNone_27 : decode b_Wl_isTransferOrNone 27 = .ok (.invokestatic 48, 3) := by decide +kernel
theorem d_Wl_isTransferOrNone_30 : decode b_Wl_isTransferOrNone 30 = .ok (.ifCond .eq 17, 3) := by decide +kernel
theorem d_Wl_isTransferOrNone_33 : decode b_Wl_isTransferOrNone 33 = .ok (.iload_n 0, 1) := by decide +kernel
theorem d_Wl_isTransferOrNone_34 : decode b_Wl_isTransferOrNone 34 = .ok (.invokestatic 214, 3) := by decide +kernel
theorem d_Wl_isTransferOrNone_37 : decode b_Wl_isTransferOrNone 37 = .ok (.invokestatic 48, 3) := by decide +kernel
theorem d_Wl_isTransferOrNone_40 : decode b_Wl_isTransferOrNone 40 = .ok (.ifCond .eq 7, 3) := by decide +kernel
theorem d_Wl_isTransferOrNone_43 : decode b_Wl_isTransferOrNone 43 = .ok (.iconst 1, 1) := by decide +kernel
theorem d_Wl_isTransferOrNone_44 : decode b_Wl_isTransferOrNone 44 = .ok (.goto 4, 3) := by decide +kernel
theorem d_Wl_isTransferOrNone_47 : decode b_Wl_isTransferOrNone 47 = .ok (.iconst 0, 1) := by decide +kernel
theorem d_Wl_isTransferOrNone_48 : decode b_Wl_isTransferOrNone 48 = .ok (.ireturn, 1) := by decide +kernel
theorem d_Wl_payerOf_0 : decode b_Wl_payerOf 0 = .ok (.iload_n 0, 1) := by decide +kernel
theorem d_Wl_payerOf_1 : decode b_Wl_payerOf 1 = .ok (.sipush 1000, 3) := by decide +kernel
theorem d_Wl_payerOf_4 : decode b_Wl_payerOf 4 = .ok (.irem, 1) := by decide +kernel
theorem d_Wl_payerOf_5 : decode b_Wl_payerOf 5 = .ok (.bipush 10, 2) := by decide +kernel
theorem d_Wl_payerOf_7 : decode b_Wl_payerOf 7 = .ok (.idiv, 1) := by decide +kernel
theorem d_Wl_payerOf_8 : decode b_Wl_payerOf 8 = .ok (.ireturn, 1) := by decide +kernel
theorem d_Wl_payeeOf_0 : decode b_Wl_payeeOf 0 = .ok (.iload_n 0, 1) := by decide +kernel
theorem d_Wl_payeeOf_1 : decode b_Wl_payeeOf 1 = .ok (.bipush 10, 2) := by decide +kernel
theorem d_Wl_payeeOf_3 : decode b_Wl_payeeOf 3 = .ok (.irem, 1) := by decide +kernel
theorem d_Wl_payeeOf_4 : decode b_Wl_payeeOf 4 = .ok (.ireturn, 1) := by decide +kernel
theorem d_Wl_numberOf_0 : decode b_Wl_numberOf 0 = .ok (.iconst 4, 1) := by decide +kernel
theorem d_Wl_numberOf_1 : decode b_Wl_numberOf 1 = .ok (.iload_n 0, 1) := by decide +kernel
theorem d_Wl_numberOf_2 : decode b_Wl_numberOf 2 = .ok (.iconst 1, 1) := by decide +kernel
theorem d_Wl_numberOf_3 : decode b_Wl_numberOf 3 = .ok (.isub, 1) := by decide +kernel
theorem d_Wl_numberOf_4 : decode b_Wl_numberOf 4 = .ok (.imul, 1) := by decide +kernel
theorem d_Wl_numberOf_5 : decode b_Wl_numberOf 5 = .ok (.iload_n 1, 1) := by decide +kernel
theorem d_Wl_numberOf_6 : decode b_Wl_numberOf 6 = .ok (.iadd, 1) := by decide +kernel
theorem d_Wl_numberOf_7 : decode b_Wl_numberOf 7 = .ok (.ireturn, 1) := by decide +kernel
theorem d_Wl_roundOf_0 : decode b_Wl_roundOf 0 = .ok (.iload_n 0, 1) := by decide +kernel
theorem d_Wl_roundOf_1 : decode b_Wl_roundOf 1 = .ok (.iconst 4, 1) := by decide +kernel
theorem d_Wl_roundOf_2 : decode b_Wl_roundOf 2 = .ok (.idiv, 1) := by decide +kernel
theorem d_Wl_roundOf_3 : decode b_Wl_roundOf 3 = .ok (.iconst 1, 1) := by decide +kernel
theorem d_Wl_roundOf_4 : decode b_Wl_roundOf 4 = .ok (.iadd, 1) := by decide +kernel
theorem d_Wl_roundOf_5 : decode b_Wl_roundOf 5 = .ok (.ireturn, 1) := by decide +kernel
theorem d_Wl_bitOf_0 : decode b_Wl_bitOf 0 = .ok (.lconst 1, 1) := by decide +kernel
theorem d_Wl_bitOf_1 : decode b_Wl_bitOf 1 = .ok (.iload_n 0, 1) := by decide +kernel
theorem d_Wl_bitOf_2 : decode b_Wl_bitOf 2 = .ok (.lshl, 1) := by decide +kernel
theorem d_Wl_bitOf_3 : decode b_Wl_bitOf 3 = .ok (.lreturn, 1) := by decide +kernel
theorem d_Wl_contains_0 : decode b_Wl_contains 0 = .ok (.lload_n 0, 1) := by decide +kernel
theorem d_Wl_contains_1 : decode b_Wl_contains 1 = .ok (.iload_n 2, 1) := by decide +kernel
theorem d_Wl_contains_2 : decode b_Wl_contains 2 = .ok (.lushr, 1) := by decide +kernel
theorem d_Wl_contains_3 : decode b_Wl_contains 3 = .ok (.lconst 1, 1) := by decide +kernel
theorem d_Wl_contains_4 : decode b_Wl_contains 4 = .ok (.land, 1) := by decide +kernel
theorem d_Wl_contains_5 : decode b_Wl_contains 5 = .ok (.lconst 0, 1) := by decide +kernel
theorem d_Wl_contains_6 : decode b_Wl_contains 6 = .ok (.lcmp, 1) := by decide +kernel
theorem d_Wl_contains_7 : decode b_Wl_contains 7 = .ok (.ifCond .eq 7, 3) := by decide +kernel
theorem d_Wl_contains_10 : decode b_Wl_contains 10 = .ok (.iconst 1, 1) := by decide +kernel
theorem d_Wl_contains_11 : decode b_Wl_contains 11 = .ok (.goto 4, 3) := by decide +kernel
theorem d_Wl_contains_14 : decode b_Wl_contains 14 = .ok (.iconst 0, 1) := by decide +kernel
theorem d_Wl_contains_15 : decode b_Wl_contains 15 = .ok (.ireturn, 1) := by decide +kernel
theorem d_In_bitCount_0 : decode b_In_bitCount 0 = .ok (.iload_n 0, 1) := by decide +kernel
theorem d_In_bitCount_1 : decode b_In_bitCount 1 = .ok (.iload_n 0, 1) := by decide +kernel
theorem d_In_bitCount_2 : decode b_In_bitCount 2 = .ok (.iconst 1, 1) := by decide +kernel
theorem d_In_bitCount_3 : decode b_In_bitCount 3 = .ok (.iushr, 1) := by decide +kernel
theorem d_In_bitCount_4 : decode b_In_bitCount 4 = .ok (.ldc_w 265, 3) := by decide +kernel
theorem d_In_bitCount_7 : decode b_In_bitCount 7 = .ok (.iand, 1) := by decide +kernel
theorem d_In_bitCount_8 : decode b_In_bitCount 8 = .ok (.isub, 1) := by decide +kernel
theorem d_In_bitCount_9 : decode b_In_bitCount 9 = .ok (.istore_n 0, 1) := by decide +kernel
theorem d_In_bitCount_10 : decode b_In_bitCount 10 = .ok (.iload_n 0, 1) := by decide +kernel
theorem d_In_bitCount_11 : decode b_In_bitCount 11 = .ok (.ldc_w 266, 3) := by decide +kernel
theorem d_In_bitCount_14 : decode b_In_bitCount 14 = .ok (.iand, 1) := by decide +kernel
theorem d_In_bitCount_15 : decode b_In_bitCount 15 = .ok (.iload_n 0, 1) := by decide +kernel
theorem d_In_bitCount_16 : decode b_In_bitCount 16 = .ok (.iconst 2, 1) := by decide +kernel
theorem d_In_bitCount_17 : decode b_In_bitCount 17 = .ok (.iushr, 1) := by decide +kernel
theorem d_In_bitCount_18 : decode b_In_bitCount 18 = .ok (.ldc_w 266, 3) := by decide +kernel
theorem d_In_bitCount_21 : decode b_In_bitCount 21 = .ok (.iand, 1) := by decide +kernel
theorem d_In_bitCount_22 : decode b_In_bitCount 22 = .ok (.iadd, 1) := by decide +kernel
theorem d_In_bitCount_23 : decode b_In_bitCount 23 = .ok (.istore_n 0, 1) := by decide +kernel
theorem d_In_bitCount_24 : decode b_In_bitCount 24 = .ok (.iload_n 0, 1) := by decide +kernel
theorem d_In_bitCount_25 : decode b_In_bitCount 25 = .ok (.iload_n 0, 1) := by decide +kernel
theorem d_In_bitCount_26 : decode b_In_bitCount 26 = .ok (.iconst 4, 1) := by decide +kernel
theorem d_In_bitCount_27 : decode b_In_bitCount 27 = .ok (.iushr, 1) := by decide +kernel
theorem d_In_bitCount_28 : decode b_In_bitCount 28 = .ok (.iadd, 1) := by decide +kernel
theorem d_In_bitCount_29 : decode b_In_bitCount 29 = .ok (.ldc_w 267, 3) := by decide +kernel
theorem d_In_bitCount_32 : decode b_In_bitCount 32 = .ok (.iand, 1) := by decide +kernel
theorem d_In_bitCount_33 : decode b_In_bitCount 33 = .ok (.istore_n 0, 1) := by decide +kernel
theorem d_In_bitCount_34 : decode b_In_bitCount 34 = .ok (.iload_n 0, 1) := by decide +kernel
theorem d_In_bitCount_35 : decode b_In_bitCount 35 = .ok (.iload_n 0, 1) := by decide +kernel
theorem d_In_bitCount_36 : decode b_In_bitCount 36 = .ok (.bipush 8, 2) := by decide +kernel
theorem d_In_bitCount_38 : decode b_In_bitCount 38 = .ok (.iushr, 1) := by decide +kernel
theorem d_In_bitCount_39 : decode b_In_bitCount 39 = .ok (.iadd, 1) := by decide +kernel
theorem d_In_bitCount_40 : decode b_In_bitCount 40 = .ok (.istore_n 0, 1) := by decide +kernel
theorem d_In_bitCount_41 : decode b_In_bitCount 41 = .ok (.iload_n 0, 1) := by decide +kernel
theorem d_In_bitCount_42 : decode b_In_bitCount 42 = .ok (.iload_n 0, 1) := by decide +kernel
theorem d_In_bitCount_43 : decode b_In_bitCount 43 = .ok (.bipush 16, 2) := by decide +kernel
theorem d_In_bitCount_45 : decode b_In_bitCount 45 = .ok (.iushr, 1) := by decide +kernel
theorem d_In_bitCount_46 : decode b_In_bitCount 46 = .ok (.iadd, 1) := by decide +kernel
theorem d_In_bitCount_47 : decode b_In_bitCount 47 = .ok (.istore_n 0, 1) := by decide +kernel
theorem d_In_bitCount_48 : decode b_In_bitCount 48 = .ok (.iload_n 0, 1) := by decide +kernel
theorem d_In_bitCount_49 : decode b_In_bitCount 49 = .ok (.bipush 63, 2) := by decide +kernel
theorem d_In_bitCount_51 : decode b_In_bitCount 51 = .ok (.iand, 1) := by decide +kernel
theorem d_In_bitCount_52 : decode b_In_bitCount 52 = .ok (.ireturn, 1) := by decide +kernel
theorem d_Lo_bitCount_0 : decode b_Lo_bitCount 0 = .ok (.lload_n 0, 1) := by decide +kernel
theorem d_Lo_bitCount_1 : decode b_Lo_bitCount 1 = .ok (.lload_n 0, 1) := by decide +kernel
theorem d_Lo_bitCount_2 : decode b_Lo_bitCount 2 = .ok (.iconst 1, 1) := by decide +kernel
theorem d_Lo_bitCount_3 : decode b_Lo_bitCount 3 = .ok (.lushr, 1) := by decide +kernel
theorem d_Lo_bitCount_4 : decode b_Lo_bitCount 4 = .ok (.ldc2_w 314, 3) := by decide +kernel
theorem d_Lo_bitCount_7 : decode b_Lo_bitCount 7 = .ok (.land, 1) := by decide +kernel
theorem d_Lo_bitCount_8 : decode b_Lo_bitCount 8 = .ok (.lsub, 1) := by decide +kernel
theorem d_Lo_bitCount_9 : decode b_Lo_bitCount 9 = .ok (.lstore_n 0, 1) := by decide +kernel
theorem d_Lo_bitCount_10 : decode b_Lo_bitCount 10 = .ok (.lload_n 0, 1) := by decide +kernel
theorem d_Lo_bitCount_11 : decode b_Lo_bitCount 11 = .ok (.ldc2_w 316, 3) := by decide +kernel
theorem d_Lo_bitCount_14 : decode b_Lo_bitCount 14 = .ok (.land, 1) := by decide +kernel
theorem d_Lo_bitCount_15 : decode b_Lo_bitCount 15 = .ok (.lload_n 0, 1) := by decide +kernel
theorem d_Lo_bitCount_16 : decode b_Lo_bitCount 16 = .ok (.iconst 2, 1) := by decide +kernel
theorem d_Lo_bitCount_17 : decode b_Lo_bitCount 17 = .ok (.lushr, 1) := by decide +kernel
theorem d_Lo_bitCount_18 : decode b_Lo_bitCount 18 = .ok (.ldc2_w 316, 3) := by decide +kernel
theorem d_Lo_bitCount_21 : decode b_Lo_bitCount 21 = .ok (.land, 1) := by decide +kernel
theorem d_Lo_bitCount_22 : decode b_Lo_bitCount 22 = .ok (.ladd, 1) := by decide +kernel
theorem d_Lo_bitCount_23 : decode b_Lo_bitCount 23 = .ok (.lstore_n 0, 1) := by decide +kernel
theorem d_Lo_bitCount_24 : decode b_Lo_bitCount 24 = .ok (.lload_n 0, 1) := by decide +kernel
theorem d_Lo_bitCount_25 : decode b_Lo_bitCount 25 = .ok (.lload_n 0, 1) := by decide +kernel
theorem d_Lo_bitCount_26 : decode b_Lo_bitCount 26 = .ok (.iconst 4, 1) := by decide +kernel
theorem d_Lo_bitCount_27 : decode b_Lo_bitCount 27 = .ok (.lushr, 1) := by decide +kernel
theorem d_Lo_bitCount_28 : decode b_Lo_bitCount 28 = .ok (.ladd, 1) := by decide +kernel
theorem d_Lo_bitCount_29 : decode b_Lo_bitCount 29 = .ok (.ldc2_w 318, 3) := by decide +kernel
theorem d_Lo_bitCount_32 : decode b_Lo_bitCount 32 = .ok (.land, 1) := by decide +kernel
theorem d_Lo_bitCount_33 : decode b_Lo_bitCount 33 = .ok (.lstore_n 0, 1) := by decide +kernel
theorem d_Lo_bitCount_34 : decode b_Lo_bitCount 34 = .ok (.lload_n 0, 1) := by decide +kernel
theorem d_Lo_bitCount_35 : decode b_Lo_bitCount 35 = .ok (.lload_n 0, 1) := by decide +kernel
theorem d_Lo_bitCount_36 : decode b_Lo_bitCount 36 = .ok (.bipush 8, 2) := by decide +kernel
theorem d_Lo_bitCount_38 : decode b_Lo_bitCount 38 = .ok (.lushr, 1) := by decide +kernel
theorem d_Lo_bitCount_39 : decode b_Lo_bitCount 39 = .ok (.ladd, 1) := by decide +kernel
theorem d_Lo_bitCount_40 : decode b_Lo_bitCount 40 = .ok (.lstore_n 0, 1) := by decide +kernel
theorem d_Lo_bitCount_41 : decode b_Lo_bitCount 41 = .ok (.lload_n 0, 1) := by decide +kernel
theorem d_Lo_bitCount_42 : decode b_Lo_bitCount 42 = .ok (.lload_n 0, 1) := by decide +kernel
theorem d_Lo_bitCount_43 : decode b_Lo_bitCount 43 = .ok (.bipush 16, 2) := by decide +kernel
theorem d_Lo_bitCount_45 : decode b_Lo_bitCount 45 = .ok (.lushr, 1) := by decide +kernel
theorem d_Lo_bitCount_46 : decode b_Lo_bitCount 46 = .ok (.ladd, 1) := by decide +kernel
theorem d_Lo_bitCount_47 : decode b_Lo_bitCount 47 = .ok (.lstore_n 0, 1) := by decide +kernel
theorem d_Lo_bitCount_48 : decode b_Lo_bitCount 48 = .ok (.lload_n 0, 1) := by decide +kernel
theorem d_Lo_bitCount_49 : decode b_Lo_bitCount 49 = .ok (.lload_n 0, 1) := by decide +kernel
theorem d_Lo_bitCount_50 : decode b_Lo_bitCount 50 = .ok (.bipush 32, 2) := by decide +kernel
theorem d_Lo_bitCount_52 : decode b_Lo_bitCount 52 = .ok (.lushr, 1) := by decide +kernel
theorem d_Lo_bitCount_53 : decode b_Lo_bitCount 53 = .ok (.ladd, 1) := by decide +kernel
theorem d_Lo_bitCount_54 : decode b_Lo_bitCount 54 = .ok (.lstore_n 0, 1) := by decide +kernel
theorem d_Lo_bitCount_55 : decode b_Lo_bitCount 55 = .ok (.lload_n 0, 1) := by decide +kernel
theorem d_Lo_bitCount_56 : decode b_Lo_bitCount 56 = .ok (.l2i, 1) := by decide +kernel
theorem d_Lo_bitCount_57 : decode b_Lo_bitCount 57 = .ok (.bipush 127, 2) := by decide +kernel
theorem d_Lo_bitCount_59 : decode b_Lo_bitCount 59 = .ok (.iand, 1) := by decide +kernel
theorem d_Lo_bitCount_60 : decode b_Lo_bitCount 60 = .ok (.ireturn, 1) := by decide +kernel
end
section
theorem d_Mo_init_0 : decode b_Mo_init 0 = .ok (.aload_n 0, 1) := by decide +kernel
theorem d_Mo_init_1 : decode b_Mo_init 1 = .ok (.invokespecial 1, 3) := by decide +kernel
theorem d_Mo_init_4 : decode b_Mo_init 4 = .ok (.aload_n 0, 1) := by decide +kernel
theorem d_Mo_init_5 : decode b_Mo_init 5 = .ok (.bipush 80, 2) := by decide +kernel
theorem d_Mo_init_7 : decode b_Mo_init 7 = .ok (.newarray .int, 2) := by decide +kernel
theorem d_Mo_init_9 : decode b_Mo_init 9 = .ok (.putfield 7, 3) := by decide +kernel
theorem d_Mo_init_12 : decode b_Mo_init 12 = .ok (.aload_n 0, 1) := by decide +kernel
theorem d_Mo_init_13 : decode b_Mo_init 13 = .ok (.bipush 80, 2) := by decide +kernel
theorem d_Mo_init_15 : decode b_Mo_init 15 = .ok (.newarray .int, 2) := by decide +kernel
theorem d_Mo_init_17 : decode b_Mo_init 17 = .ok (.putfield 13, 3) := by decide +kernel
theorem d_Mo_init_20 : decode b_Mo_init 20 = .ok (.aload_n 0, 1) := by decide +kernel
theorem d_Mo_init_21 : decode b_Mo_init 21 = .ok (.bipush 80, 2) := by decide +kernel
theorem d_Mo_init_23 : decode b_Mo_init 23 = .ok (.newarray .long, 2) := by decide +kernel
theorem d_Mo_init_25 : decode b_Mo_init 25 = .ok (.putfield 16, 3) := by decide +kernel
theorem d_Mo_init_28 : decode b_Mo_init 28 = .ok (.aload_n 0, 1) := by decide +kernel
theorem d_Mo_init_29 : decode b_Mo_init 29 = .ok (.bipush 80, 2) := by decide +kernel
theorem d_Mo_init_31 : decode b_Mo_init 31 = .ok (.newarray .int, 2) := by decide +kernel
theorem d_Mo_init_33 : decode b_Mo_init 33 = .ok (.putfield 20, 3) := by decide +kernel
theorem d_Mo_init_36 : decode b_Mo_init 36 = .ok (.aload_n 0, 1) := by decide +kernel
theorem d_Mo_init_37 : decode b_Mo_init 37 = .ok (.sipush 2400, 3) := by decide +kernel
theorem d_Mo_init_40 : decode b_Mo_init 40 = .ok (.newarray .int, 2) := by decide +kernel
theorem d_Mo_init_42 : decode b_Mo_init 42 = .ok (.putfield 23, 3) := by decide +kernel
theorem d_Mo_init_45 : decode b_Mo_init 45 = .ok (.aload_n 0, 1) := by decide +kernel
theorem d_Mo_init_46 : decode b_Mo_init 46 = .ok (.sipush 192, 3) := by decide +kernel
theorem d_Mo_init_49 : decode b_Mo_init 49 = .ok (.newarray .boolean, 2) := by decide +kernel
theorem d_Mo_init_51 : decode b_Mo_init 51 = .ok (.putfield 26, 3) := by decide +kernel
theorem d_Mo_init_54 : decode b_Mo_init 54 = .ok (.aload_n 0, 1) := by decide +kernel
theorem d_Mo_init_55 : decode b_Mo_init 55 = .ok (.sipush 192, 3) := by decide +kernel
theorem d_Mo_init_58 : decode b_Mo_init 58 = .ok (.newarray .boolean, 2) := by decide +kernel
theorem d_Mo_init_60 : decode b_Mo_init 60 = .ok (.putfield 30, 3) := by decide +kernel
theorem d_Mo_init_63 : decode b_Mo_init 63 = .ok (.aload_n 0, 1) := by decide +kernel
theorem d_Mo_init_64 : decode b_Mo_init 64 = .ok (.sipush 192, 3) := by decide +kernel
theorem d_Mo_init_67 : decode b_Mo_init 67 = .ok (.newarray .int, 2) := by decide +kernel
theorem d_Mo_init_69 : decode b_Mo_init 69 = .ok (.putfield 33, 3) := by decide +kernel
theorem d_Mo_init_72 : decode b_Mo_init 72 = .ok (.aload_n 0, 1) := by decide +kernel
theorem d_Mo_init_73 : decode b_Mo_init 73 = .ok (.sipush 192, 3) := by decide +kernel
theorem d_Mo_init_76 : decode b_Mo_init 76 = .ok (.newarray .boolean, 2) := by decide +kernel
theorem d_Mo_init_78 : decode b_Mo_init 78 = .ok (.putfield 36, 3) := by decide +kernel
theorem d_Mo_init_81 : decode b_Mo_init 81 = .ok (.aload_n 0, 1) := by decide +kernel
theorem d_Mo_init_82 : decode b_Mo_init 82 = .ok (.sipush 192, 3) := by decide +kernel
theorem d_Mo_init_85 : decode b_Mo_init 85 = .ok (.newarray .boolean, 2) := by decide +kernel
theorem d_Mo_init_87 : decode b_Mo_init 87 = .ok (.putfield 39, 3) := by decide +kernel
theorem d_Mo_init_90 : decode b_Mo_init 90 = .ok (.aload_n 0, 1) := by decide +kernel
theorem d_Mo_init_91 : decode b_Mo_init 91 = .ok (.sipush 192, 3) := by decide +kernel
theorem d_Mo_init_94 : decode b_Mo_init 94 = .ok (.newarray .int, 2) := by decide +kernel
theorem d_Mo_init_96 : decode b_Mo_init 96 = .ok (.putfield 42, 3) := by decide +kernel
theorem d_Mo_init_99 : decode b_Mo_init 99 = .ok (.aload_n 0, 1) := by decide +kernel
theorem d_Mo_init_100 : decode b_Mo_init 100 = .ok (.sipush 768, 3) := by decide +kernel
theorem d_Mo_init_103 : decode b_Mo_init 103 = .ok (.newarray .int, 2) := by decide +kernel
theorem d_Mo_init_105 : decode b_Mo_init 105 = .ok (.putfield 45, 3) := by decide +kernel
theorem d_Mo_init_108 : decode b_Mo_init 108 = .ok (.aload_n 0, 1) := by decide +kernel
theorem d_Mo_init_109 : decode b_Mo_init 109 = .ok (.sipush 768, 3) := by decide +kernel
theorem d_Mo_init_112 : decode b_Mo_init 112 = .ok (.newarray .int, 2) := by decide +kernel
theorem d_Mo_init_114 : decode b_Mo_init 114 = .ok (.putfield 48, 3) := by decide +kernel
theorem d_Mo_init_117 : decode b_Mo_init 117 = .ok (.aload_n 0, 1) := by decide +kernel
theorem d_Mo_init_118 : decode b_Mo_init 118 = .ok (.iconst 4, 1) := by decide +kernel
theorem d_Mo_init_119 : decode b_Mo_init 119 = .ok (.newarray .int, 2) := by decide +kernel
theorem d_Mo_init_121 : decode b_Mo_init 121 = .ok (.putfield 51, 3) := by decide +kernel
theorem d_Mo_init_124 : decode b_Mo_init 124 = .ok (.aload_n 0, 1) := by decide +kernel
theorem d_Mo_init_125 : decode b_Mo_init 125 = .ok (.iconst 4, 1) := by decide +kernel
theorem d_Mo_init_126 : decode b_Mo_init 126 = .ok (.newarray .boolean, 2) := by decide +kernel
theorem d_Mo_init_128 : decode b_Mo_init 128 = .ok (.putfield 54, 3) := by decide +kernel
theorem d_Mo_init_131 : decode b_Mo_init 131 = .ok (.aload_n 0, 1) := by decide +kernel
theorem d_Mo_init_132 : decode b_Mo_init 132 = .ok (.iconst 4, 1) := by decide +kernel
theorem d_Mo_init_133 : decode b_Mo_init 133 = .ok (.newarray .int, 2) := by decide +kernel
theorem d_Mo_init_135 : decode b_Mo_init 135 = .ok (.putfield 57, 3) := by decide +kernel
theorem d_Mo_init_138 : decode b_Mo_init 138 = .ok (.aload_n 0, 1) := by decide +kernel
theorem d_Mo_init_139 : decode b_Mo_init 139 = .ok (.iconst 4, 1) := by decide +kernel
theorem d_Mo_init_140 : decode b_Mo_init 140 = .ok (.newarray .int, 2) := by decide +kernel
theorem d_Mo_init_142 : decode b_Mo_init 142 = .ok (.putfield 60, 3) := by decide +kernel
theorem d_Mo_init_145 : decode b_Mo_init 145 = .ok (.aload_n 0, 1) := by decide +kernel
theorem d_Mo_init_146 : decode b_Mo_init 146 = .ok (.bipush 16, 2) := by decide +kernel
theorem d_Mo_init_148 : decode b_Mo_init 148 = .ok (.newarray .int, 2) := by decide +kernel
theorem d_Mo_init_150 : decode b_Mo_init 150 = .ok (.putfield 63, 3) := by decide +kernel
theorem d_Mo_init_153 : decode b_Mo_init 153 = .ok (.aload_n 0, 1) := by decide +kernel
theorem d_Mo_init_154 : decode b_Mo_init 154 = .ok (.bipush 48, 2) := by decide +kernel
theorem d_Mo_init_156 : decode b_Mo_init 156 = .ok (.newarray .int, 2) := by decide +kernel
theorem d_Mo_init_158 : decode b_Mo_init 158 = .ok (.putfield 66, 3) := by decide +kernel
theorem d_Mo_init_161 : decode b_Mo_init 161 = .ok (.aload_n 0, 1) := by decide +kernel
theorem d_Mo_init_162 : decode b_Mo_init 162 = .ok (.iconst 4, 1) := by decide +kernel
theorem d_Mo_init_163 : decode b_Mo_init 163 = .ok (.newarray .int, 2) := by decide +kernel
theorem d_Mo_init_165 : decode b_Mo_init 165 = .ok (.putfield 69, 3) := by decide +kernel
theorem d_Mo_init_168 : decode b_Mo_init 168 = .ok (.aload_n 0, 1) := by decide +kernel
theorem d_Mo_init_169 : decode b_Mo_init 169 = .ok (.iconst 4, 1) := by decide +kernel
theorem d_Mo_init_170 : decode b_Mo_init 170 = .ok (.newarray .int, 2) := by decide +kernel
theorem d_Mo_init_172 : decode b_Mo_init 172 = .ok (.putfield 72, 3) := by decide +kernel
theorem d_Mo_init_175 : decode b_Mo_init 175 = .ok (.aload_n 0, 1) := by decide +kernel
theorem d_Mo_init_176 : decode b_Mo_init 176 = .ok (.iload_n 1, 1) := by decide +kernel
theorem d_Mo_init_177 : decode b_Mo_init 177 = .ok (.putfield 75, 3) := by decide +kernel
theorem d_Mo_init_180 : decode b_Mo_init 180 = .ok (.aload_n 0, 1) := by decide +kernel
theorem d_Mo_init_181 : decode b_Mo_init 181 = .ok (.iload_n 2, 1) := by decide +kernel
theorem d_Mo_init_182 : decode b_Mo_init 182 = .ok (.putfield 79, 3) := by decide +kernel
theorem d_Mo_init_185 : decode b_Mo_init 185 = .ok (.aload_n 0, 1) := by decide +kernel
theorem d_Mo_init_186 : decode b_Mo_init 186 = .ok (.iload_n 3, 1) := by decide +kernel
theorem d_Mo_init_187 : decode b_Mo_init 187 = .ok (.putfield 82, 3) := by decide +kernel
theorem d_Mo_init_190 : decode b_Mo_init 190 = .ok (.iconst 0, 1) := by decide +kernel
theorem d_Mo_init_191 : decode b_Mo_init 191 = .ok (.istore 4, 2) := by decide +kernel
theorem d_Mo_init_193 : decode b_Mo_init 193 = .ok (.iload 4, 2) := by decide +kernel
theorem d_Mo_init_195 : decode b_Mo_init 195 = .ok (.bipush 16, 2) := by decide +kernel
theorem d_Mo_init_197 : decode b_Mo_init 197 = .ok (.if_icmp .ge 18, 3) := by decide +kernel
theorem d_Mo_init_200 : decode b_Mo_init 200 = .ok (.aload_n 0, 1) := by decide +kernel
theorem d_Mo_init_201 : decode b_Mo_init 201 = .ok (.getfield 63, 3) := by decide +kernel
theorem d_Mo_init_204 : decode b_Mo_init 204 = .ok (.iload 4, 2) := by decide +kernel
theorem d_Mo_init_206 : decode b_Mo_init 206 = .ok (.bipush 100, 2) := by decide +kernel
theorem d_Mo_init_208 : decode b_Mo_init 208 = .ok (.iastore, 1) := by decide +kernel
theorem d_Mo_init_209 : decode b_Mo_init 209 = .ok (.iinc 4 1, 3) := by decide +kernel
theorem d_Mo_init_212 : decode b_Mo_init 212 = .ok (.goto (-19), 3) := by decide +kernel
theorem d_Mo_init_215 : decode b_Mo_init 215 = .ok (.return_, 1) := by decide +kernel
theorem d_Mo_thrown_0 : decode b_Mo_thrown 0 = .ok (.aload_n 0, 1) := by decide +kernel
theorem d_Mo_thrown_1 : decode b_Mo_thrown 1 = .ok (.getfield 85, 3) := by decide +kernel
theorem d_Mo_thrown_4 : decode b_Mo_thrown 4 = .ok (.ireturn, 1) := by decide +kernel
theorem d_Mo_refuse_0 : decode b_Mo_refuse 0 = .ok (.aload_n 0, 1) := by decide +kernel
theorem d_Mo_refuse_1 : decode b_Mo_refuse 1 = .ok (.iload_n 1, 1) := by decide +kernel
theorem d_Mo_refuse_2 : decode b_Mo_refuse 2 = .ok (.putfield 85, 3) := by decide +kernel
theorem d_Mo_refuse_5 : decode b_Mo_refuse 5 = .ok (.iconst 0, 1) := by decide +kernel
theorem d_Mo_refuse_6 : decode b_Mo_refuse 6 = .ok (.ireturn, 1) := by decide +kernel
theorem d_Mo_isNode_0 : decode b_Mo_isNode 0 = .ok (.iload_n 0, 1) := by decide +kernel
theorem d_Mo_isNode_1 : decode b_Mo_isNode 1 = .ok (.ifCond .lt 12, 3) := by decide +kernel
theorem d_Mo_isNode_4 : decode b_Mo_isNode 4 = .ok (.iload_n 0, 1) := by decide +kernel
theorem d_Mo_isNode_5 : decode b_Mo_isNode 5 = .ok (.iconst 3, 1) := by decide +kernel
theorem d_Mo_isNode_6 : decode b_Mo_isNode 6 = .ok (.if_icmp .gt 7, 3) := by decide +kernel
theorem d_Mo_isNode_9 : decode b_Mo_isNode 9 = .ok (.iconst 1, 1) := by decide +kernel
theorem d_Mo_isNode_10 : decode b_Mo_isNode 10 = .ok (.goto 4, 3) := by decide +kernel
theorem d_Mo_isNode_13 : decode b_Mo_isNode 13 = .ok (.iconst 0, 1) := by decide +kernel
theorem d_Mo_isNode_14 : decode b_Mo_isNode 14 = .ok (.ireturn, 1) := by decide +kernel
theorem d_Mo_isFaulty_0 : decode b_Mo_isFaulty 0 = .ok (.aload_n 0, 1) := by decide +kernel
theorem d_Mo_isFaulty_1 : decode b_Mo_isFaulty 1 = .ok (.getfield 82, 3) := by decide +kernel
theorem d_Mo_isFaulty_4 : decode b_Mo_isFaulty 4 = .ok (.invokestatic 88, 3) := by decide +kernel
theorem d_Mo_isFaulty_7 : decode b_Mo_isFaulty 7 = .ok (.ifCond .eq 15, 3) := by decide +kernel
theorem d_Mo_isFaulty_10 : decode b_Mo_isFaulty 10 = .ok (.iload_n 1, 1) := by decide +kernel
theorem d_Mo_isFaulty_11 : decode b_Mo_isFaulty 11 = .ok (.aload_n 0, 1) := by decide +kernel
theorem d_Mo_isFaulty_12 : decode b_Mo_isFaulty 12 = .ok (.getfield 82, 3) := by decide +kernel
theorem d_Mo_isFaulty_15 : decode b_Mo_isFaulty 15 = .ok (.if_icmp .ne 7, 3) := by decide +kernel
theorem d_Mo_isFaulty_18 : decode b_Mo_isFaulty 18 = .ok (.iconst 1, 1) := by decide +kernel
theorem d_Mo_isFaulty_19 : decode b_Mo_isFaulty 19 = .ok (.goto 4, 3) := by decide +kernel
theorem d_Mo_isFaulty_22 : decode b_Mo_isFaulty 22 = .ok (.iconst 0, 1) := by decide +kernel
theorem d_Mo_isFaulty_23 : decode b_Mo_isFaulty 23 = .ok (.ireturn, 1) := by decide +kernel
theorem d_Mo_draw_0 : decode b_Mo_draw 0 = .ok (.aload_n 0, 1) := by decide +kernel
theorem d_Mo_draw_1 : decode b_Mo_draw 1 = .ok (.aload_n 0, 1) := by decide +kernel
theorem d_Mo_draw_2 : decode b_Mo_draw 2 = .ok (.getfield 75, 3) := by decide +kernel
theorem d_Mo_draw_5 : decode b_Mo_draw 5 = .ok (.ldc 92, 2) := by decide +kernel
theorem d_Mo_draw_7 : decode b_Mo_draw 7 = .ok (.imul, 1) := by decide +kernel
theorem d_Mo_draw_8 : decode b_Mo_draw 8 = .ok (.sipush 12345, 3) := by decide +kernel
theorem d_Mo_draw_11 : decode b_Mo_draw 11 = .ok (.iadd, 1) := by decide +kernel
theorem d_Mo_draw_12 : decode b_Mo_draw 12 = .ok (.putfield 75, 3) := by decide +kernel
theorem d_Mo_draw_15 : decode b_Mo_draw 15 = .ok (.aload_n 0, 1) := by decide +kernel
theorem d_Mo_draw_16 : decode b_Mo_draw 16 = .ok (.getfield 75, 3) := by decide +kernel
theorem d_Mo_draw_19 : decode b_Mo_draw 19 = .ok (.bipush 16, 2) := by decide +kernel
theorem d_Mo_draw_21 : decode b_Mo_draw 21 = .ok (.iushr, 1) := by decide +kernel
theorem d_Mo_draw_22 : decode b_Mo_draw 22 = .ok (.iload_n 1, 1) := by decide +kernel
theorem d_Mo_draw_23 : decode b_Mo_draw 23 = .ok (.irem, 1) := by decide +kernel
theorem d_Mo_draw_24 : decode b_Mo_draw 24 = .ok (.ireturn, 1) := by decide +kernel
theorem d_Mo_sendOne_0 : decode b_Mo_sendOne 0 = .ok (.aload_n 0, 1) := by decide +kernel
theorem d_Mo_sendOne_1 : decode b_Mo_sendOne 1 = .ok (.iload_n 3, 1) := by decide +kernel
theorem d_Mo_sendOne_2 : decode b_Mo_sendOne 2 = .ok (.invokevirtual 93, 3) := by decide +kernel
theorem d_Mo_sendOne_5 : decode b_Mo_sendOne 5 = .ok (.ifCond .eq 4, 3) := by decide +kernel
theorem d_Mo_sendOne_8 : decode b_Mo_sendOne 8 = .ok (.return_, 1) := by decide +kernel
theorem d_Mo_sendOne_9 : decode b_Mo_sendOne 9 = .ok (.aload_n 0, 1) := by decide +kernel
theorem d_Mo_sendOne_10 : decode b_Mo_sendOne 10 = .ok (.getfield 23, 3) := by decide +kernel
theorem d_Mo_sendOne_13 : decode b_Mo_sendOne 13 = .ok (.aload_n 0, 1) := by decide +kernel
theorem d_Mo_sendOne_14 : decode b_Mo_sendOne 14 = .ok (.getfield 96, 3) := by decide +kernel
theorem d_Mo_sendOne_17 : decode b_Mo_sendOne 17 = .ok (.iload_n 1, 1) := by decide +kernel
theorem d_Mo_sendOne_18 : decode b_Mo_sendOne 18 = .ok (.iconst 4, 1) := by decide +kernel
theorem d_Mo_sendOne_19 : decode b_Mo_sendOne 19 = .ok (.imul, 1) := by decide +kernel
theorem d_Mo_sendOne_20 : decode b_Mo_sendOne 20 = .ok (.iload_n 2, 1) := by decide +kernel
theorem d_Mo_sendOne_21 : decode b_Mo_sendOne 21 = .ok (.iadd, 1) := by decide +kernel
theorem d_Mo_sendOne_22 : decode b_Mo_sendOne 22 = .ok (.iconst 4, 1) := by decide +kernel
theorem d_Mo_sendOne_23 : decode b_Mo_sendOne 23 = .ok (.imul, 1) := by decide +kernel
theorem d_Mo_sendOne_24 : decode b_Mo_sendOne 24 = .ok (.iload_n 3, 1) := by decide +kernel
theorem d_Mo_sendOne_25 : decode b_Mo_sendOne 25 = .ok (.iadd, 1) := by decide +kernel
theorem d_Mo_sendOne_26 : decode b_Mo_sendOne 26 = .ok (.bipush 80, 2) := by decide +kernel
theorem d_Mo_sendOne_28 : decode b_Mo_sendOne 28 = .ok (.imul, 1) := by decide +kernel
theorem d_Mo_sendOne_29 : decode b_Mo_sendOne 29 = .ok (.iload 4, 2) := by decide +kernel
theorem d_Mo_sendOne_31 : decode b_Mo_sendOne 31 = .ok (.iadd, 1) := by decide +kernel
theorem d_Mo_sendOne_32 : decode b_Mo_sendOne 32 = .ok (.iastore, 1) := by decide +kernel
theorem d_Mo_sendOne_33 : decode b_Mo_sendOne 33 = .ok (.aload_n 0, 1) := by decide +kernel
theorem d_Mo_sendOne_34 : decode b_Mo_sendOne 34 = .ok (.dup, 1) := by decide +kernel
theorem d_Mo_sendOne_35 : decode b_Mo_sendOne 35 = .ok (.getfield 96, 3) := by decide +kernel
theorem d_Mo_sendOne_38 : decode b_Mo_sendOne 38 = .ok (.iconst 1, 1) := by decide +kernel
theorem d_Mo_sendOne_39 : decode b_Mo_sendOne 39 = .ok (.iadd, 1) := by decide +kernel
theorem d_Mo_sendOne_40 : decode b_Mo_sendOne 40 = .ok (.putfield 96, 3) := by decide +kernel
theorem d_Mo_sendOne_43 : decode b_Mo_sendOne 43 = .ok (.return_, 1) := by decide +kernel
theorem d_Mo_broadcast_0 : decode b_Mo_broadcast 0 = .ok (.iconst 0, 1) := by decide +kernel
theorem d_Mo_broadcast_1 : decode b_Mo_broadcast 1 = .ok (.istore 4, 2) := by decide +kernel
theorem d_Mo_broadcast_3 : decode b_Mo_broadcast 3 = .ok (.iload 4, 2) := by decide +kernel
theorem d_Mo_broadcast_5 : decode b_Mo_broadcast 5 = .ok (.iconst 4, 1) := by decide +kernel
theorem d_Mo_broadcast_6 : decode b_Mo_broadcast 6 = .ok (.if_icmp .ge 18, 3) := by decide +kernel
theorem d_Mo_broadcast_9 : decode b_Mo_broadcast 9 = .ok (.aload_n 0, 1) := by decide +kernel
theorem d_Mo_broadcast_10 : decode b_Mo_broadcast 10 = .ok (.iload_n 1, 1) := by decide +kernel
theorem d_Mo_broadcast_11 : decode b_Mo_broadcast 11 = .ok (.iload_n 2, 1) := by decide +kernel
theorem d_Mo_broadcast_12 : decode b_Mo_broadcast 12 = .ok (.iload 4, 2) := by decide +kernel
theorem d_Mo_broadcast_14 : decode b_Mo_broadcast 14 = .ok (.iload_n 3, 1) := by decide +kernel
theorem d_Mo_broadcast_15 : decode b_Mo_broadcast 15 = .ok (.invokevirtual 99, 3) := by decide +kernel
theorem d_Mo_broadcast_18 : decode b_Mo_broadcast 18 = .ok (.iinc 4 1, 3) := by decide +kernel
theorem d_Mo_broadcast_21 : decode b_Mo_broadcast 21 = .ok (.goto (-18), 3) := by decide +kernel
theorem d_Mo_broadcast_24 : decode b_Mo_broadcast 24 = .ok (.return_, 1) := by decide +kernel
theorem d_Mo_comes_0 : decode b_Mo_comes 0 = .ok (.aload_n 0, 1) := by decide +kernel
theorem d_Mo_comes_1 : decode b_Mo_comes 1 = .ok (.getfield 23, 3) := by decide +kernel
theorem d_Mo_comes_4 : decode b_Mo_comes 4 = .ok (.iload_n 1, 1) := by decide +kernel
theorem d_Mo_comes_5 : decode b_Mo_comes 5 = .ok (.iaload, 1) := by decide +kernel
theorem d_Mo_comes_6 : decode b_Mo_comes 6 = .ok (.istore_n 2, 1) := by decide +kernel
theorem d_Mo_comes_7 : decode b_Mo_comes 7 = .ok (.aload_n 0, 1) := by decide +kernel
theorem d_Mo_comes_8 : decode b_Mo_comes 8 = .ok (.dup, 1) := by decide +kernel
theorem d_Mo_comes_9 : decode b_Mo_comes 9 = .ok (.getfield 96, 3) := by decide +kernel
theorem d_Mo_comes_12 : decode b_Mo_comes 12 = .ok (.iconst 1, 1) := by decide +kernel
theorem d_Mo_comes_13 : decode b_Mo_comes 13 = .ok (.isub, 1) := by decide +kernel
theorem d_Mo_comes_14 : decode b_Mo_comes 14 = .ok (.putfield 96, 3) := by decide +kernel
theorem d_Mo_comes_17 : decode b_Mo_comes 17 = .ok (.iload_n 1, 1) := by decide +kernel
theorem d_Mo_comes_18 : decode b_Mo_comes 18 = .ok (.istore_n 3, 1) := by decide +kernel
theorem d_Mo_comes_19 : decode b_Mo_comes 19 = .ok (.iload_n 3, 1) := by decide +kernel
theorem d_Mo_comes_20 : decode b_Mo_comes 20 = .ok (.aload_n 0, 1) := by decide +kernel
theorem d_Mo_comes_21 : decode b_Mo_comes 21 = .ok (.getfield 96, 3) := by decide +kernel
theorem d_Mo_comes_24 : decode b_Mo_comes 24 = .ok (.if_icmp .ge 23, 3) := by decide +kernel
theorem d_Mo_comes_27 : decode b_Mo_comes 27 = .ok (.aload_n 0, 1) := by decide +kernel
theorem d_Mo_comes_28 : decode b_Mo_comes 28 = .ok (.getfield 23, 3) := by decide +kernel
theorem d_Mo_comes_31 : decode b_Mo_comes 31 = .ok (.iload_n 3, 1) := by decide +kernel
theorem d_Mo_comes_32 : decode b_Mo_comes 32 = .ok (.aload_n 0, 1) := by decide +kernel
theorem d_Mo_comes_33 : decode b_Mo_comes 33 = .ok (.getfield 23, 3) := by decide +kernel
theorem d_Mo_comes_36 : decode b_Mo_comes 36 = .ok (.iload_n 3, 1) := by decide +kernel
theorem d_Mo_comes_37 : decode b_Mo_comes 37 = .ok (.iconst 1, 1) := by decide +kernel
theorem d_Mo_comes_38 : decode b_Mo_comes 38 = .ok (.iadd, 1) := by decide +kernel
theorem d_Mo_comes_39 : decode b_Mo_comes 39 = .ok (.iaload, 1) := by decide +kernel
theorem d_Mo_comes_40 : decode b_Mo_comes 40 = .ok (.iastore, 1) := by decide +kernel
theorem d_Mo_comes_41 : decode b_Mo_comes 41 = .ok (.iinc 3 1, 3) := by decide +kernel
theorem d_Mo_comes_44 : decode b_Mo_comes 44 = .ok (.goto (-25), 3) := by decide +kernel
theorem d_Mo_comes_47 : decode b_Mo_comes 47 = .ok (.iload_n 2, 1) := by decide +kernel
theorem d_Mo_comes_48 : decode b_Mo_comes 48 = .ok (.bipush 80, 2) := by decide +kernel
theorem d_Mo_comes_50 : decode b_Mo_comes 50 = .ok (.irem, 1) := by decide +kernel
theorem d_Mo_comes_51 : decode b_Mo_comes 51 = .ok (.istore_n 3, 1) := by decide +kernel
theorem d_Mo_comes_52 : decode b_Mo_comes 52 = .ok (.iload_n 2, 1) := by decide +kernel
theorem d_Mo_comes_53 : decode b_Mo_comes 53 = .ok (.bipush 80, 2) := by decide +kernel
theorem d_Mo_comes_55 : decode b_Mo_comes 55 = .ok (.idiv, 1) := by decide +kernel
theorem d_Mo_comes_56 : decode b_Mo_comes 56 = .ok (.iconst 4, 1) := by decide +kernel
theorem d_Mo_comes_57 : decode b_Mo_comes 57 = .ok (.irem, 1) := by decide +kernel
theorem d_Mo_comes_58 : decode b_Mo_comes 58 = .ok (.istore 4, 2) := by decide +kernel
theorem d_Mo_comes_60 : decode b_Mo_comes 60 = .ok (.iload_n 2, 1) := by decide +kernel
theorem d_Mo_comes_61 : decode b_Mo_comes 61 = .ok (.sipush 320, 3) := by decide +kernel
theorem d_Mo_comes_64 : decode b_Mo_comes 64 = .ok (.idiv, 1) := by decide +kernel
theorem d_Mo_comes_65 : decode b_Mo_comes 65 = .ok (.iconst 4, 1) := by decide +kernel
theorem d_Mo_comes_66 : decode b_Mo_comes 66 = .ok (.irem, 1) := by decide +kernel
theorem d_Mo_comes_67 : decode b_Mo_comes 67 = .ok (.istore 5, 2) := by decide +kernel
theorem d_Mo_comes_69 : decode b_Mo_comes 69 = .ok (.iload_n 2, 1) := by decide +kernel
theorem d_Mo_comes_70 : decode b_Mo_comes 70 = .ok (.sipush 1280, 3) := by decide +kernel
theorem d_Mo_comes_73 : decode b_Mo_comes 73 = .ok (.idiv, 1) := by decide +kernel
theorem d_Mo_comes_74 : decode b_Mo_comes 74 = .ok (.istore 6, 2) := by decide +kernel
theorem d_Mo_comes_76 : decode b_Mo_comes 76 = .ok (.bipush 48, 2) := by decide +kernel
theorem d_Mo_comes_78 : decode b_Mo_comes 78 = .ok (.iload 4, 2) := by decide +kernel
theorem d_Mo_comes_80 : decode b_Mo_comes 80 = .ok (.imul, 1) := by decide +kernel
theorem d_Mo_comes_81 : decode b_Mo_comes 81 = .ok (.aload_n 0, 1) := by decide +kernel
theorem d_Mo_comes_82 : decode b_Mo_comes 82 = .ok (.getfield 7, 3) := by decide +kernel
theorem d_Mo_comes_85 : decode b_Mo_comes 85 = .ok (.iload_n 3, 1) := by decide +kernel
theorem d_Mo_comes_86 : decode b_Mo_comes 86 = .ok (.iaload, 1) := by decide +kernel
theorem d_Mo_comes_87 : decode b_Mo_comes 87 = .ok (.iadd, 1) := by decide +kernel
theorem d_Mo_comes_88 : decode b_Mo_comes 88 = .ok (.istore 7, 2) := by decide +kernel
theorem d_Mo_comes_90 : decode b_Mo_comes 90 = .ok (.iload 6, 2) := by decide +kernel
theorem d_Mo_comes_92 : decode b_Mo_comes 92 = .ok (.ifCond .ne 17, 3) := by decide +kernel
theorem d_Mo_comes_95 : decode b_Mo_comes 95 = .ok (.aload_n 0, 1) := by decide +kernel
theorem d_Mo_comes_96 : decode b_Mo_comes 96 = .ok (.iload 5, 2) := by decide +kernel
theorem d_Mo_comes_98 : decode b_Mo_comes 98 = .ok (.iload 4, 2) := by decide +kernel
theorem d_Mo_comes_100 : decode b_Mo_comes 100 = .ok (.iload_n 3, 1) := by decide +kernel
theorem d_Mo_comes_101 : decode b_Mo_comes 101 = .ok (.iload 7, 2) := by decide +kernel
theorem d_Mo_comes_103 : decode b_Mo_comes 103 = .ok (.invokevirtual 103, 3) := by decide +kernel
theorem d_Mo_comes_106 : decode b_Mo_comes 106 = .ok (.goto 34, 3) := by decide +kernel
theorem d_Mo_comes_109 : decode b_Mo_comes 109 = .ok (.iload 6, 2) := by decide +kernel
theorem d_Mo_comes_111 : decode b_Mo_comes 111 = .ok (.iconst 1, 1) := by decide +kernel
theorem d_Mo_comes_112 : decode b_Mo_comes 112 = .ok (.if_icmp .ne 17, 3) := by decide +kernel
theorem d_Mo_comes_115 : decode b_Mo_comes 115 = .ok (.aload_n 0, 1) := by decide +kernel
theorem d_Mo_comes_116 : decode b_Mo_comes 116 = .ok (.iload 5, 2) := by decide +kernel
theorem d_Mo_comes_118 : decode b_Mo_comes 118 = .ok (.iload 4, 2) := by decide +kernel
theorem d_Mo_comes_120 : decode b_Mo_comes 120 = .ok (.iload_n 3, 1) := by decide +kernel
theorem d_Mo_comes_121 : decode b_Mo_comes 121 = .ok (.iload 7, 2) := by decide +kernel
theorem d_Mo_comes_123 : decode b_Mo_comes 123 = .ok (.invokevirtual 106, 3) := by decide +kernel
theorem d_Mo_comes_126 : decode b_Mo_comes 126 = .ok (.goto 14, 3) := by decide +kernel
theorem d_Mo_comes_129 : decode b_Mo_comes 129 = .ok (.aload_n 0, 1) := by decide +kernel
theorem d_Mo_comes_130 : decode b_Mo_comes 130 = .ok (.iload 5, 2) := by decide +kernel
theorem d_Mo_comes_132 : decode b_Mo_comes 132 = .ok (.iload 4, 2) := by decide +kernel
theorem d_Mo_comes_134 : decode b_Mo_comes 134 = .ok (.iload_n 3, 1) := by decide +kernel
theorem d_Mo_comes_135 : decode b_Mo_comes 135 = .ok (.iload 7, 2) := by decide +kernel
theorem d_Mo_comes_137 : decode b_Mo_comes 137 = .ok (.invokevirtual 109, 3) := by decide +kernel
theorem d_Mo_comes_140 : decode b_Mo_comes 140 = .ok (.aload_n 0, 1) := by decide +kernel
theorem d_Mo_comes_141 : decode b_Mo_comes 141 = .ok (.getfield 112, 3) := by decide +kernel
theorem d_Mo_comes_144 : decode b_Mo_comes 144 = .ok (.ifCond .eq 9, 3) := by decide +kernel
theorem d_Mo_comes_147 : decode b_Mo_comes 147 = .ok (.aload_n 0, 1) := by decide +kernel
theorem d_Mo_comes_148 : decode b_Mo_comes 148 = .ok (.iload 4, 2) := by decide +kernel
theorem d_Mo_comes_150 : decode b_Mo_comes 150 = .ok (.invokevirtual 116, 3) := by decide +kernel
theorem d_Mo_comes_153 : decode b_Mo_comes 153 = .ok (.return_, 1) := by decide +kernel
theorem d_Mo_sendComes_0 : decode b_Mo_sendComes 0 = .ok (.iload_n 1, 1) := by decide +kernel
theorem d_Mo_sendComes_1 : decode b_Mo_sendComes 1 = .ok (.aload_n 0, 1) := by decide +kernel
theorem d_Mo_sendComes_2 : decode b_Mo_sendComes 2 = .ok (.getfield 7, 3) := by decide +kernel
theorem d_Mo_sendComes_5 : decode b_Mo_sendComes 5 = .ok (.iload_n 3, 1) := by decide +kernel
theorem d_Mo_sendComes_6 : decode b_Mo_sendComes 6 = .ok (.iaload, 1) := by decide +kernel
theorem d_Mo_sendComes_7 : decode b_Mo_sendComes 7 = .ok (.iconst 4, 1) := by decide +kernel
theorem d_Mo_sendComes_8 : decode b_Mo_sendComes 8 = .ok (.irem, 1) := by decide +kernel
theorem d_Mo_sendComes_9 : decode b_Mo_sendComes 9 = .ok (.if_icmp .ne 13, 3) := by decide +kernel
theorem d_Mo_sendComes_12 : decode b_Mo_sendComes 12 = .ok (.aload_n 0, 1) := by decide +kernel
theorem d_Mo_sendComes_13 : decode b_Mo_sendComes 13 = .ok (.getfield 26, 3) := by decide +kernel
theorem d_Mo_sendComes_16 : decode b_Mo_sendComes 16 = .ok (.iload 4, 2) := by decide +kernel
theorem d_Mo_sendComes_18 : decode b_Mo_sendComes 18 = .ok (.baload, 1) := by decide +kernel
theorem d_Mo_sendComes_19 : decode b_Mo_sendComes 19 = .ok (.ifCond .eq 4, 3) := by decide +kernel
theorem d_Mo_sendComes_22 : decode b_Mo_sendComes 22 = .ok (.return_, 1) := by decide +kernel
theorem d_Mo_sendComes_23 : decode b_Mo_sendComes 23 = .ok (.aload_n 0, 1) := by decide +kernel
theorem d_Mo_sendComes_24 : decode b_Mo_sendComes 24 = .ok (.getfield 26, 3) := by decide +kernel
theorem d_Mo_sendComes_27 : decode b_Mo_sendComes 27 = .ok (.iload 4, 2) := by decide +kernel
theorem d_Mo_sendComes_29 : decode b_Mo_sendComes 29 = .ok (.iconst 1, 1) := by decide +kernel
theorem d_Mo_sendComes_30 : decode b_Mo_sendComes 30 = .ok (.bastore, 1) := by decide +kernel
theorem d_Mo_sendComes_31 : decode b_Mo_sendComes 31 = .ok (.aload_n 0, 1) := by decide +kernel
theorem d_Mo_sendComes_32 : decode b_Mo_sendComes 32 = .ok (.iconst 1, 1) := by decide +kernel
theorem d_Mo_sendComes_33 : decode b_Mo_sendComes 33 = .ok (.iload_n 2, 1) := by decide +kernel
theorem d_Mo_sendComes_34 : decode b_Mo_sendComes 34 = .ok (.iload_n 3, 1) := by decide +kernel
theorem d_Mo_sendComes_35 : decode b_Mo_sendComes 35 = .ok (.invokevirtual 120, 3) := by decide +kernel
theorem d_Mo_sendComes_38 : decode b_Mo_sendComes 38 = .ok (.return_, 1) := by decide +kernel
theorem d_Mo_noted_0 : decode b_Mo_noted 0 = .ok (.iconst 0, 1) := by decide +kernel
theorem d_Mo_noted_1 : decode b_Mo_noted 1 = .ok (.istore_n 3, 1) := by decide +kernel
theorem d_Mo_noted_2 : decode b_Mo_noted 2 = .ok (.iconst 0, 1) := by decide +kernel
theorem d_Mo_noted_3 : decode b_Mo_noted 3 = .ok (.istore 4, 2) := by decide +kernel
theorem d_Mo_noted_5 : decode b_Mo_noted 5 = .ok (.iload 4, 2) := by decide +kernel
theorem d_Mo_noted_7 : decode b_Mo_noted 7 = .ok (.iconst 4, 1) := by decide +kernel
theorem d_Mo_noted_8 : decode b_Mo_noted 8 = .ok (.if_icmp .ge 29, 3) := by decide +kernel
theorem d_Mo_noted_11 : decode b_Mo_noted 11 = .ok (.iload_n 3, 1) := by decide +kernel
theorem d_Mo_noted_12 : decode b_Mo_noted 12 = .ok (.aload_n 0, 1) := by decide +kernel
theorem d_Mo_noted_13 : decode b_Mo_noted 13 = .ok (.iconst 4, 1) := by decide +kernel
theorem d_Mo_noted_14 : decode b_Mo_noted 14 = .ok (.iload_n 1, 1) := by decide +kernel
theorem d_Mo_noted_15 : decode b_Mo_noted 15 = .ok (.imul, 1) := by decide +kernel
theorem d_Mo_noted_16 : decode b_Mo_noted 16 = .ok (.iload 4, 2) := by decide +kernel
theorem d_Mo_noted_18 : decode b_Mo_noted 18 = .ok (.iadd, 1) := by decide +kernel
theorem d_Mo_noted_19 : decode b_Mo_noted 19 = .ok (.iaload, 1) := by decide +kernel
theorem d_Mo_noted_20 : decode b_Mo_noted 20 = .ok (.iload_n 2, 1) := by decide +kernel
theorem d_Mo_noted_21 : decode b_Mo_noted 21 = .ok (.if_icmp .ne 7, 3) := by decide +kernel
theorem d_Mo_noted_24 : decode b_Mo_noted 24 = .ok (.iconst 1, 1) := by decide +kernel
theorem d_Mo_noted_25 : decode b_Mo_noted 25 = .ok (.goto 4, 3) := by decide +kernel
theorem d_Mo_noted_28 : decode b_Mo_noted 28 = .ok (.iconst 0, 1) := by decide +kernel
theorem d_Mo_noted_29 : decode b_Mo_noted 29 = .ok (.iadd, 1) := by decide +kernel
theorem d_Mo_noted_30 : decode b_Mo_noted 30 = .ok (.istore_n 3, 1) := by decide +kernel
theorem d_Mo_noted_31 : decode b_Mo_noted 31 = .ok (.iinc 4 1, 3) := by decide +kernel
theorem d_Mo_noted_34 : decode b_Mo_noted 34 = .ok (.goto (-29), 3) := by decide +kernel
theorem d_Mo_noted_37 : decode b_Mo_noted 37 = .ok (.iload_n 3, 1) := by decide +kernel
theorem d_Mo_noted_38 : decode b_Mo_noted 38 = .ok (.ireturn, 1) := by decide +kernel
theorem d_Mo_ready_0 : decode b_Mo_ready 0 = .ok (.aload_n 0, 1) := by decide +kernel
theorem d_Mo_ready_1 : decode b_Mo_ready 1 = .ok (.getfield 30, 3) := by decide +kernel
theorem d_Mo_ready_4 : decode b_Mo_ready 4 = .ok (.iload_n 3, 1) := by decide +kernel
theorem d_Mo_ready_5 : decode b_Mo_ready 5 = .ok (.baload, 1) := by decide +kernel
theorem d_Mo_ready_6 : decode b_Mo_ready 6 = .ok (.ifCond .eq 4, 3) := by decide +kernel
theorem d_Mo_ready_9 : decode b_Mo_ready 9 = .ok (.return_, 1) := by decide +kernel
theorem d_Mo_ready_10 : decode b_Mo_ready 10 = .ok (.aload_n 0, 1) := by decide +kernel
theorem d_Mo_ready_11 : decode b_Mo_ready 11 = .ok (.getfield 30, 3) := by decide +kernel
theorem d_Mo_ready_14 : decode b_Mo_ready 14 = .ok (.iload_n 3, 1) := by decide +kernel
theorem d_Mo_ready_15 : decode b_Mo_ready 15 = .ok (.iconst 1, 1) := by decide +kernel
theorem d_Mo_ready_16 : decode b_Mo_ready 16 = .ok (.bastore, 1) := by decide +kernel
theorem d_Mo_ready_17 : decode b_Mo_ready 17 = .ok (.aload_n 0, 1) := by decide +kernel
theorem d_Mo_ready_18 : decode b_Mo_ready 18 = .ok (.iconst 2, 1) := by decide +kernel
theorem d_Mo_ready_19 : decode b_Mo_ready 19 = .ok (.iload_n 1, 1) := by decide +kernel
theorem d_Mo_ready_20 : decode b_Mo_ready 20 = .ok (.iload_n 2, 1) := by decide +kernel
theorem d_Mo_ready_21 : decode b_Mo_ready 21 = .ok (.invokevirtual 120, 3) := by decide +kernel
theorem d_Mo_ready_24 : decode b_Mo_ready 24 = .ok (.return_, 1) := by decide +kernel
theorem d_Mo_echoComes_0 : decode b_Mo_echoComes 0 = .ok (.aload_n 0, 1) := by decide +kernel
theorem d_Mo_echoComes_1 : decode b_Mo_echoComes 1 = .ok (.getfield 45, 3) := by decide +kernel
theorem d_Mo_echoComes_4 : decode b_Mo_echoComes 4 = .ok (.iconst 4, 1) := by decide +kernel
theorem d_Mo_echoComes_5 : decode b_Mo_echoComes 5 = .ok (.iload 4, 2) := by decide +kernel
theorem d_Mo_echoComes_7 : decode b_Mo_echoComes 7 = .ok (.imul, 1) := by decide +kernel
theorem d_Mo_echoComes_8 : decode b_Mo_echoComes 8 = .ok (.iload_n 1, 1) := by decide +kernel
theorem d_Mo_echoComes_9 : decode b_Mo_echoComes 9 = .ok (.iadd, 1) := by decide +kernel
theorem d_Mo_echoComes_10 : decode b_Mo_echoComes 10 = .ok (.iaload, 1) := by decide +kernel
theorem d_Mo_echoComes_11 : decode b_Mo_echoComes 11 = .ok (.ifCond .eq 4, 3) := by decide +kernel
theorem d_Mo_echoComes_14 : decode b_Mo_echoComes 14 = .ok (.return_, 1) := by decide +kernel
theorem d_Mo_echoComes_15 : decode b_Mo_echoComes 15 = .ok (.aload_n 0, 1) := by decide +kernel
theorem d_Mo_echoComes_16 : decode b_Mo_echoComes 16 = .ok (.getfield 45, 3) := by decide +kernel
theorem d_Mo_echoComes_19 : decode b_Mo_echoComes 19 = .ok (.iconst 4, 1) := by decide +kernel
theorem d_Mo_echoComes_20 : decode b_Mo_echoComes 20 = .ok (.iload 4, 2) := by decide +kernel
theorem d_Mo_echoComes_22 : decode b_Mo_echoComes 22 = .ok (.imul, 1) := by decide +kernel
theorem d_Mo_echoComes_23 : decode b_Mo_echoComes 23 = .ok (.iload_n 1, 1) := by decide +kernel
theorem d_Mo_echoComes_24 : decode b_Mo_echoComes 24 = .ok (.iadd, 1) := by decide +kernel
theorem d_Mo_echoComes_25 : decode b_Mo_echoComes 25 = .ok (.iload_n 3, 1) := by decide +kernel
theorem d_Mo_echoComes_26 : decode b_Mo_echoComes 26 = .ok (.iastore, 1) := by decide +kernel
theorem d_Mo_echoComes_27 : decode b_Mo_echoComes 27 = .ok (.aload_n 0, 1) := by decide +kernel
theorem d_Mo_echoComes_28 : decode b_Mo_echoComes 28 = .ok (.getfield 45, 3) := by decide +kernel
theorem d_Mo_echoComes_31 : decode b_Mo_echoComes 31 = .ok (.iload 4, 2) := by decide +kernel
theorem d_Mo_echoComes_33 : decode b_Mo_echoComes 33 = .ok (.iload_n 3, 1) := by decide +kernel
theorem d_Mo_echoComes_34 : decode b_Mo_echoComes 34 = .ok (.invokestatic 124, 3) := by decide +kernel
theorem d_Mo_echoComes_37 : decode b_Mo_echoComes 37 = .ok (.iconst 3, 1) := by decide +kernel
theorem d_Mo_echoComes_38 : decode b_Mo_echoComes 38 = .ok (.if_icmp .lt 11, 3) := by decide +kernel
theorem d_Mo_echoComes_41 : decode b_Mo_echoComes 41 = .ok (.aload_n 0, 1) := by decide +kernel
theorem d_Mo_echoComes_42 : decode b_Mo_echoComes 42 = .ok (.iload_n 2, 1) := by decide +kernel
theorem d_Mo_echoComes_43 : decode b_Mo_echoComes 43 = .ok (.iload_n 3, 1) := by decide +kernel
theorem d_Mo_echoComes_44 : decode b_Mo_echoComes 44 = .ok (.iload 4, 2) := by decide +kernel
theorem d_Mo_echoComes_46 : decode b_Mo_echoComes 46 = .ok (.invokevirtual 128, 3) := by decide +kernel
theorem d_Mo_echoComes_49 : decode b_Mo_echoComes 49 = .ok (.return_, 1) := by decide +kernel
theorem d_Mo_readyComes_0 : decode b_Mo_readyComes 0 = .ok (.aload_n 0, 1) := by decide +kernel
theorem d_Mo_readyComes_1 : decode b_Mo_readyComes 1 = .ok (.getfield 48, 3) := by decide +kernel
theorem d_Mo_readyComes_4 : decode b_Mo_readyComes 4 = .ok (.iconst 4, 1) := by decide +kernel
theorem d_Mo_readyComes_5 : decode b_Mo_readyComes 5 = .ok (.iload 4, 2) := by decide +kernel
theorem d_Mo_readyComes_7 : decode b_Mo_readyComes 7 = .ok (.imul, 1) := by decide +kernel
theorem d_Mo_readyComes_8 : decode b_Mo_readyComes 8 = .ok (.iload_n 1, 1) := by decide +kernel
theorem d_Mo_readyComes_9 : decode b_Mo_readyComes 9 = .ok (.iadd, 1) := by decide +kernel
theorem d_Mo_readyComes_10 : decode b_Mo_readyComes 10 = .ok (.iaload, 1) := by decide +kernel
theorem d_Mo_readyComes_11 : decode b_Mo_readyComes 11 = .ok (.ifCond .eq 4, 3) := by decide +kernel
theorem d_Mo_readyComes_14 : decode b_Mo_readyComes 14 = .ok (.return_, 1) := by decide +kernel
theorem d_Mo_readyComes_15 : decode b_Mo_readyComes 15 = .ok (.aload_n 0, 1) := by decide +kernel
theorem d_Mo_readyComes_16 : decode b_Mo_readyComes 16 = .ok (.getfield 48, 3) := by decide +kernel
theorem d_Mo_readyComes_19 : decode b_Mo_readyComes 19 = .ok (.iconst 4, 1) := by decide +kernel
theorem d_Mo_readyComes_20 : decode b_Mo_readyComes 20 = .ok (.iload 4, 2) := by decide +kernel
theorem d_Mo_readyComes_22 : decode b_Mo_readyComes 22 = .ok (.imul, 1) := by decide +kernel
theorem d_Mo_readyComes_23 : decode b_Mo_readyComes 23 = .ok (.iload_n 1, 1) := by decide +kernel
theorem d_Mo_readyComes_24 : decode b_Mo_readyComes 24 = .ok (.iadd, 1) := by decide +kernel
theorem d_Mo_readyComes_25 : decode b_Mo_readyComes 25 = .ok (.iload_n 3, 1) := by decide +kernel
theorem d_Mo_readyComes_26 : decode b_Mo_readyComes 26 = .ok (.iastore, 1) := by decide +kernel
theorem d_Mo_readyComes_27 : decode b_Mo_readyComes 27 = .ok (.aload_n 0, 1) := by decide +kernel
theorem d_Mo_readyComes_28 : decode b_Mo_readyComes 28 = .ok (.getfield 48, 3) := by decide +kernel
theorem d_Mo_readyComes_31 : decode b_Mo_readyComes 31 = .ok (.iload 4, 2) := by decide +kernel
theorem d_Mo_readyComes_33 : decode b_Mo_readyComes 33 = .ok (.iload_n 3, 1) := by decide +kernel
theorem d_Mo_readyComes_34 : decode b_Mo_readyComes 34 = .ok (.invokestatic 124, 3) := by decide +kernel
theorem d_Mo_readyComes_37 : decode b_Mo_readyComes 37 = .ok (.istore 5, 2) := by decide +kernel
theorem d_Mo_readyComes_39 : decode b_Mo_readyComes 39 = .ok (.iload 5, 2) := by decide +kernel
theorem d_Mo_readyComes_41 : decode b_Mo_readyComes 41 = .ok (.iconst 2, 1) := by decide +kernel
theorem d_Mo_readyComes_42 : decode b_Mo_readyComes 42 = .ok (.if_icmp .lt 11, 3) := by decide +kernel
theorem d_Mo_readyComes_45 : decode b_Mo_readyComes 45 = .ok (.aload_n 0, 1) := by decide +kernel
theorem d_Mo_readyComes_46 : decode b_Mo_readyComes 46 = .ok (.iload_n 2, 1) := by decide +kernel
theorem d_Mo_readyComes_47 : decode b_Mo_readyComes 47 = .ok (.iload_n 3, 1) := by decide +kernel
theorem d_Mo_readyComes_48 : decode b_Mo_readyComes 48 = .ok (.iload 4, 2) := by decide +kernel
theorem d_Mo_readyComes_50 : decode b_Mo_readyComes 50 = .ok (.invokevirtual 128, 3) := by decide +kernel
theorem d_Mo_readyComes_53 : decode b_Mo_readyComes 53 = .ok (.iload 5, 2) := by decide +kernel
theorem d_Mo_readyComes_55 : decode b_Mo_readyComes 55 = .ok (.iconst 3, 1) := by decide +kernel
theorem d_Mo_readyComes_56 : decode b_Mo_readyComes 56 = .ok (.if_icmp .lt 26, 3) := by decide +kernel
theorem d_Mo_readyComes_59 : decode b_Mo_readyComes 59 = .ok (.aload_n 0, 1) := by decide +kernel
theorem d_Mo_readyComes_60 : decode b_Mo_readyComes 60 = .ok (.getfield 33, 3) := by decide +kernel
theorem d_Mo_readyComes_63 : decode b_Mo_readyComes 63 = .ok (.iload 4, 2) := by decide +kernel
theorem d_Mo_readyComes_65 : decode b_Mo_readyComes 65 = .ok (.iaload, 1) := by decide +kernel
theorem d_Mo_readyComes_66 : decode b_Mo_readyComes 66 = .ok (.ifCond .ne 16, 3) := by decide +kernel
theorem d_Mo_readyComes_69 : decode b_Mo_readyComes 69 = .ok (.aload_n 0, 1) := by decide +kernel
theorem d_Mo_readyComes_70 : decode b_Mo_readyComes 70 = .ok (.getfield 33, 3) := by decide +kernel
theorem d_Mo_readyComes_73 : decode b_Mo_readyComes 73 = .ok (.iload 4, 2) := by decide +kernel
theorem d_Mo_readyComes_75 : decode b_Mo_readyComes 75 = .ok (.iload_n 3, 1) := by decide +kernel
theorem d_Mo_readyComes_76 : decode b_Mo_readyComes 76 = .ok (.iastore, 1) := by decide +kernel
theorem d_Mo_readyComes_77 : decode b_Mo_readyComes 77 = .ok (.aload_n 0, 1) := by decide +kernel
theorem d_Mo_readyComes_78 : decode b_Mo_readyComes 78 = .ok (.iload_n 2, 1) := by decide +kernel
theorem d_Mo_readyComes_79 : decode b_Mo_readyComes 79 = .ok (.invokevirtual 131, 3) := by decide +kernel
theorem d_Mo_readyComes_82 : decode b_Mo_readyComes 82 = .ok (.return_, 1) := by decide +kernel
theorem d_Mo_bits_0 : decode b_Mo_bits 0 = .ok (.iload_n 0, 1) := by decide +kernel
theorem d_Mo_bits_1 : decode b_Mo_bits 1 = .ok (.iconst 1, 1) := by decide +kernel
theorem d_Mo_bits_2 : decode b_Mo_bits 2 = .ok (.iand, 1) := by decide +kernel
theorem d_Mo_bits_3 : decode b_Mo_bits 3 = .ok (.iload_n 0, 1) := by decide +kernel
theorem d_Mo_bits_4 : decode b_Mo_bits 4 = .ok (.iconst 1, 1) := by decide +kernel
theorem d_Mo_bits_5 : decode b_Mo_bits 5 = .ok (.ishr, 1) := by decide +kernel
theorem d_Mo_bits_6 : decode b_Mo_bits 6 = .ok (.iconst 1, 1) := by decide +kernel
theorem d_Mo_bits_7 : decode b_Mo_bits 7 = .ok (.iand, 1) := by decide +kernel
theorem d_Mo_bits_8 : decode b_Mo_bits 8 = .ok (.iadd, 1) := by decide +kernel
theorem d_Mo_bits_9 : decode b_Mo_bits 9 = .ok (.iload_n 0, 1) := by decide +kernel
theorem d_Mo_bits_10 : decode b_Mo_bits 10 = .ok (.iconst 2, 1) := by decide +kernel
theorem d_Mo_bits_11 : decode b_Mo_bits 11 = .ok (.ishr, 1) := by decide +kernel
theorem d_Mo_bits_12 : decode b_Mo_bits 12 = .ok (.iconst 1, 1) := by decide +kernel
theorem d_Mo_bits_13 : decode b_Mo_bits 13 = .ok (.iand, 1) := by decide +kernel
theorem d_Mo_bits_14 : decode b_Mo_bits 14 = .ok (.iadd, 1) := by decide +kernel
theorem d_Mo_bits_15 : decode b_Mo_bits 15 = .ok (.iload_n 0, 1) := by decide +kernel
theorem d_Mo_bits_16 : decode b_Mo_bits 16 = .ok (.iconst 3, 1) := by decide +kernel
theorem d_Mo_bits_17 : decode b_Mo_bits 17 = .ok (.ishr, 1) := by decide +kernel
theorem d_Mo_bits_18 : decode b_Mo_bits 18 = .ok (.iconst 1, 1) := by decide +kernel
theorem d_Mo_bits_19 : decode b_Mo_bits 19 = .ok (.iand, 1) := by decide +kernel
theorem d_Mo_bits_20 : decode b_Mo_bits 20 = .ok (.iadd, 1) := by decide +kernel
theorem d_Mo_bits_21 : decode b_Mo_bits 21 = .ok (.ireturn, 1) := by decide +kernel
theorem d_Mo_isRight_0 : decode b_Mo_isRight 0 = .ok (.aload_n 0, 1) := by decide +kernel
theorem d_Mo_isRight_1 : decode b_Mo_isRight 1 = .ok (.getfield 7, 3) := by decide +kernel
theorem d_Mo_isRight_4 : decode b_Mo_isRight 4 = .ok (.iload_n 1, 1) := by decide +kernel
theorem d_Mo_isRight_5 : decode b_Mo_isRight 5 = .ok (.iaload, 1) := by decide +kernel
theorem d_Mo_isRight_6 : decode b_Mo_isRight 6 = .ok (.iconst 4, 1) := by decide +kernel
theorem d_Mo_isRight_7 : decode b_Mo_isRight 7 = .ok (.idiv, 1) := by decide +kernel
theorem d_Mo_isRight_8 : decode b_Mo_isRight 8 = .ok (.iconst 1, 1) := by decide +kernel
theorem d_Mo_isRight_9 : decode b_Mo_isRight 9 = .ok (.iadd, 1) := by decide +kernel
theorem d_Mo_isRight_10 : decode b_Mo_isRight 10 = .ok (.istore_n 2, 1) := by decide +kernel
theorem d_Mo_isRight_11 : decode b_Mo_isRight 11 = .ok (.iload_n 2, 1) := by decide +kernel
theorem d_Mo_isRight_12 : decode b_Mo_isRight 12 = .ok (.iconst 1, 1) := by decide +kernel
theorem d_Mo_isRight_13 : decode b_Mo_isRight 13 = .ok (.if_icmp .ne 29, 3) := by decide +kernel
theorem d_Mo_isRight_16 : decode b_Mo_isRight 16 = .ok (.aload_n 0, 1) := by decide +kernel
theorem d_Mo_isRight_17 : decode b_Mo_isRight 17 = .ok (.getfield 13, 3) := by decide +kernel
theorem d_Mo_isRight_20 : decode b_Mo_isRight 20 = .ok (.iload_n 1, 1) := by decide +kernel
theorem d_Mo_isRight_21 : decode b_Mo_isRight 21 = .ok (.iaload, 1) := by decide +kernel
theorem d_Mo_isRight_22 : decode b_Mo_isRight 22 = .ok (.ifCond .ne 18, 3) := by decide +kernel
theorem d_Mo_isRight_25 : decode b_Mo_isRight 25 = .ok (.aload_n 0, 1) := by decide +kernel
theorem d_Mo_isRight_26 : decode b_Mo_isRight 26 = .ok (.getfield 16, 3) := by decide +kernel
theorem d_Mo_isRight_29 : decode b_Mo_isRight 29 = .ok (.iload_n 1, 1) := by decide +kernel
theorem d_Mo_isRight_30 : decode b_Mo_isRight 30 = .ok (.laload, 1) := by decide +kernel
theorem d_Mo_isRight_31 : decode b_Mo_isRight 31 = .ok (.lconst 0, 1) := by decide +kernel
theorem d_Mo_isRight_32 : decode b_Mo_isRight 32 = .ok (.lcmp, 1) := by decide +kernel
theorem d_Mo_isRight_33 : decode b_Mo_isRight 33 = .ok (.ifCond .ne 7, 3) := by decide +kernel
theorem d_Mo_isRight_36 : decode b_Mo_isRight 36 = .ok (.iconst 1, 1) := by decide +kernel
theorem d_Mo_isRight_37 : decode b_Mo_isRight 37 = .ok (.goto 4, 3) := by decide +kernel
theorem d_Mo_isRight_40 : decode b_Mo_isRight 40 = .ok (.iconst 0, 1) := by decide +kernel
theorem d_Mo_isRight_41 : decode b_Mo_isRight 41 = .ok (.ireturn, 1) := by decide +kernel
theorem d_Mo_isRight_42 : decode b_Mo_isRight 42 = .ok (.iload_n 2, 1) := by decide +kernel
theorem d_Mo_isRight_43 : decode b_Mo_isRight 43 = .ok (.iconst 3, 1) := by decide +kernel
theorem d_Mo_isRight_44 : decode b_Mo_isRight 44 = .ok (.if_icmp .ge 7, 3) := by decide +kernel
theorem d_Mo_isRight_47 : decode b_Mo_isRight 47 = .ok (.lconst 0, 1) := by decide +kernel
theorem d_Mo_isRight_48 : decode b_Mo_isRight 48 = .ok (.goto 12, 3) := by decide +kernel
theorem d_Mo_isRight_51 : decode b_Mo_isRight 51 = .ok (.lconst 1, 1) := by decide +kernel
theorem d_Mo_isRight_52 : decode b_Mo_isRight 52 = .ok (.iconst 4, 1) := by decide +kernel
theorem d_Mo_isRight_53 : decode b_Mo_isRight 53 = .ok (.iload_n 2, 1) := by decide +kernel
theorem d_Mo_isRight_54 : decode b_Mo_isRight 54 = .ok (.iconst 2, 1) := by decide +kernel
theorem d_Mo_isRight_55 : decode b_Mo_isRight 55 = .ok (.isub, 1) := by decide +kernel
theorem d_Mo_isRight_56 : decode b_Mo_isRight 56 = .ok (.imul, 1) := by decide +kernel
theorem d_Mo_isRight_57 : decode b_Mo_isRight 57 = .ok (.lshl, 1) := by decide +kernel
theorem d_Mo_isRight_58 : decode b_Mo_isRight 58 = .ok (.lconst 1, 1) := by decide +kernel
theorem d_Mo_isRight_59 : decode b_Mo_isRight 59 = .ok (.lsub, 1) := by decide +kernel
theorem d_Mo_isRight_60 : decode b_Mo_isRight 60 = .ok (.lstore_n 3, 1) := by decide +kernel
theorem d_Mo_isRight_61 : decode b_Mo_isRight 61 = .ok (.aload_n 0, 1) := by decide +kernel
theorem d_Mo_isRight_62 : decode b_Mo_isRight 62 = .ok (.getfield 13, 3) := by decide +kernel
theorem d_Mo_isRight_65 : decode b_Mo_isRight 65 = .ok (.iload_n 1, 1) := by decide +kernel
theorem d_Mo_isRight_66 : decode b_Mo_isRight 66 = .ok (.iaload, 1) := by decide +kernel
theorem d_Mo_isRight_67 : decode b_Mo_isRight 67 = .ok (.invokestatic 134, 3) := by decide +kernel
theorem d_Mo_isRight_70 : decode b_Mo_isRight 70 = .ok (.iconst 3, 1) := by decide +kernel
theorem d_Mo_isRight_71 : decode b_Mo_isRight 71 = .ok (.if_icmp .lt 24, 3) := by decide +kernel
theorem d_Mo_isRight_74 : decode b_Mo_isRight 74 = .ok (.aload_n 0, 1) := by decide +kernel
theorem d_Mo_isRight_75 : decode b_Mo_isRight 75 = .ok (.getfield 16, 3) := by decide +kernel
theorem d_Mo_isRight_78 : decode b_Mo_isRight 78 = .ok (.iload_n 1, 1) := by decide +kernel
theorem d_Mo_isRight_79 : decode b_Mo_isRight 79 = .ok (.laload, 1) := by decide +kernel
theorem d_Mo_isRight_80 : decode b_Mo_isRight 80 = .ok (.lload_n 3, 1) := by decide +kernel
theorem d_Mo_isRight_81 : decode b_Mo_isRight 81 = .ok (.ldc2_w 138, 3) := by decide +kernel
theorem d_Mo_isRight_84 : decode b_Mo_isRight 84 = .ok (.lxor, 1) := by decide +kernel
theorem d_Mo_isRight_85 : decode b_Mo_isRight 85 = .ok (.land, 1) := by decide +kernel
theorem d_Mo_isRight_86 : decode b_Mo_isRight 86 = .ok (.lconst 0, 1) := by decide +kernel
theorem d_Mo_isRight_87 : decode b_Mo_isRight 87 = .ok (.lcmp, 1) := by decide +kernel
theorem d_Mo_isRight_88 : decode b_Mo_isRight 88 = .ok (.ifCond .ne 7, 3) := by decide +kernel
theorem d_Mo_isRight_91 : decode b_Mo_isRight 91 = .ok (.iconst 1, 1) := by decide +kernel
theorem d_Mo_isRight_92 : decode b_Mo_isRight 92 = .ok (.goto 4, 3) := by decide +kernel
theorem d_Mo_isRight_95 : decode b_Mo_isRight 95 = .ok (.iconst 0, 1) := by decide +kernel
theorem d_Mo_isRight_96 : decode b_Mo_isRight 96 = .ok (.ireturn, 1) := by decide +kernel
theorem d_Mo_points_0 : decode b_Mo_points 0 = .ok (.aload_n 0, 1) := by decide +kernel
theorem d_Mo_points_1 : decode b_Mo_points 1 = .ok (.getfield 7, 3) := by decide +kernel
theorem d_Mo_points_4 : decode b_Mo_points 4 = .ok (.iload_n 1, 1) := by decide +kernel
theorem d_Mo_points_5 : decode b_Mo_points 5 = .ok (.iaload, 1) := by decide +kernel
theorem d_Mo_points_6 : decode b_Mo_points 6 = .ok (.iconst 4, 1) := by decide +kernel
theorem d_Mo_points_7 : decode b_Mo_points 7 = .ok (.idiv, 1) := by decide +kernel
theorem d_Mo_points_8 : decode b_Mo_points 8 = .ok (.iconst 1, 1) := by decide +kernel
theorem d_Mo_points_9 : decode b_Mo_points 9 = .ok (.iadd, 1) := by decide +kernel
theorem d_Mo_points_10 : decode b_Mo_points 10 = .ok (.istore_n 3, 1) := by decide +kernel
theorem d_Mo_points_11 : decode b_Mo_points 11 = .ok (.iload_n 3, 1) := by decide +kernel
theorem d_Mo_points_12 : decode b_Mo_points 12 = .ok (.iconst 1, 1) := by decide +kernel
theorem d_Mo_points_13 : decode b_Mo_points 13 = .ok (.if_icmp .ne 7, 3) := by decide +kernel
theorem d_Mo_points_16 : decode b_Mo_points 16 = .ok (.lconst 0, 1) := by decide +kernel
theorem d_Mo_points_17 : decode b_Mo_points 17 = .ok (.goto 16, 3) := by decide +kernel
theorem d_Mo_points_20 : decode b_Mo_points 20 = .ok (.aload_n 0, 1) := by decide +kernel
theorem d_Mo_points_21 : decode b_Mo_points 21 = .ok (.getfield 13, 3) := by decide +kernel
theorem d_Mo_points_24 : decode b_Mo_points 24 = .ok (.iload_n 1, 1) := by decide +kernel
theorem d_Mo_points_25 : decode b_Mo_points 25 = .ok (.iaload, 1) := by decide +kernel
theorem d_Mo_points_26 : decode b_Mo_points 26 = .ok (.i2l, 1) := by decide +kernel
theorem d_Mo_points_27 : decode b_Mo_points 27 = .ok (.iconst 4, 1) := by decide +kernel
theorem d_Mo_points_28 : decode b_Mo_points 28 = .ok (.iload_n 3, 1) := by decide +kernel
theorem d_Mo_points_29 : decode b_Mo_points 29 = .ok (.iconst 2, 1) := by decide +kernel
theorem d_Mo_points_30 : decode b_Mo_points 30 = .ok (.isub, 1) := by decide +kernel
theorem d_Mo_points_31 : decode b_Mo_points 31 = .ok (.imul, 1) := by decide +kernel
theorem d_Mo_points_32 : decode b_Mo_points 32 = .ok (.lshl, 1) := by decide +kernel
theorem d_Mo_points_33 : decode b_Mo_points 33 = .ok (.lstore 4, 2) := by decide +kernel
theorem d_Mo_points_35 : decode b_Mo_points 35 = .ok (.iload_n 2, 1) := by decide +kernel
theorem d_Mo_points_36 : decode b_Mo_points 36 = .ok (.ifCond .eq 8, 3) := by decide +kernel
theorem d_Mo_points_39 : decode b_Mo_points 39 = .ok (.lload 4, 2) := by decide +kernel
theorem d_Mo_points_41 : decode b_Mo_points 41 = .ok (.goto 12, 3) := by decide +kernel
theorem d_Mo_points_44 : decode b_Mo_points 44 = .ok (.lload 4, 2) := by decide +kernel
theorem d_Mo_points_46 : decode b_Mo_points 46 = .ok (.aload_n 0, 1) := by decide +kernel
theorem d_Mo_points_47 : decode b_Mo_points 47 = .ok (.getfield 16, 3) := by decide +kernel
theorem d_Mo_points_50 : decode b_Mo_points 50 = .ok (.iload_n 1, 1) := by decide +kernel
theorem d_Mo_points_51 : decode b_Mo_points 51 = .ok (.laload, 1) := by decide +kernel
theorem d_Mo_points_52 : decode b_Mo_points 52 = .ok (.lor, 1) := by decide +kernel
theorem d_Mo_points_53 : decode b_Mo_points 53 = .ok (.lreturn, 1) := by decide +kernel
theorem d_Mo_graphOf_0 : decode b_Mo_graphOf 0 = .ok (.lconst 0, 1) := by decide +kernel
theorem d_Mo_graphOf_1 : decode b_Mo_graphOf 1 = .ok (.lstore_n 2, 1) := by decide +kernel
theorem d_Mo_graphOf_2 : decode b_Mo_graphOf 2 = .ok (.iconst 0, 1) := by decide +kernel
theorem d_Mo_graphOf_3 : decode b_Mo_graphOf 3 = .ok (.istore 4, 2) := by decide +kernel
theorem d_Mo_graphOf_5 : decode b_Mo_graphOf 5 = .ok (.iload 4, 2) := by decide +kernel
theorem d_Mo_graphOf_7 : decode b_Mo_graphOf 7 = .ok (.bipush 48, 2) := by decide +kernel
theorem d_Mo_graphOf_9 : decode b_Mo_graphOf 9 = .ok (.if_icmp .ge 35, 3) := by decide +kernel
theorem d_Mo_graphOf_12 : decode b_Mo_graphOf 12 = .ok (.aload_n 0, 1) := by decide +kernel
theorem d_Mo_graphOf_13 : decode b_Mo_graphOf 13 = .ok (.getfield 36, 3) := by decide +kernel
theorem d_Mo_graphOf_16 : decode b_Mo_graphOf 16 = .ok (.bipush 48, 2) := by decide +kernel
theorem d_Mo_graphOf_18 : decode b_Mo_graphOf 18 = .ok (.iload_n 1, 1) := by decide +kernel
theorem d_Mo_graphOf_19 : decode b_Mo_graphOf 19 = .ok (.imul, 1) := by decide +kernel
theorem d_Mo_graphOf_20 : decode b_Mo_graphOf 20 = .ok (.iload 4, 2) := by decide +kernel
theorem d_Mo_graphOf_22 : decode b_Mo_graphOf 22 = .ok (.iadd, 1) := by decide +kernel
theorem d_Mo_graphOf_23 : decode b_Mo_graphOf 23 = .ok (.baload, 1) := by decide +kernel
theorem d_Mo_graphOf_24 : decode b_Mo_graphOf 24 = .ok (.ifCond .eq 12, 3) := by decide +kernel
theorem d_Mo_graphOf_27 : decode b_Mo_graphOf 27 = .ok (.lload_n 2, 1) := by decide +kernel
theorem d_Mo_graphOf_28 : decode b_Mo_graphOf 28 = .ok (.lconst 1, 1) := by decide +kernel
theorem d_Mo_graphOf_29 : decode b_Mo_graphOf 29 = .ok (.iload 4, 2) := by decide +kernel
theorem d_Mo_graphOf_31 : decode b_Mo_graphOf 31 = .ok (.lshl, 1) := by decide +kernel
theorem d_Mo_graphOf_32 : decode b_Mo_graphOf 32 = .ok (.lor, 1) := by decide +kernel
theorem d_Mo_graphOf_33 : decode b_Mo_graphOf 33 = .ok (.goto 4, 3) := by decide +kernel
theorem d_Mo_graphOf_36 : decode b_Mo_graphOf 36 = .ok (.lload_n 2, 1) := by decide +kernel
theorem d_Mo_graphOf_37 : decode b_Mo_graphOf 37 = .ok (.lstore_n 2, 1) := by decide +kernel
theorem d_Mo_graphOf_38 : decode b_Mo_graphOf 38 = .ok (.iinc 4 1, 3) := by decide +kernel
theorem d_Mo_graphOf_41 : decode b_Mo_graphOf 41 = .ok (.goto (-36), 3) := by decide +kernel
theorem d_Mo_graphOf_44 : decode b_Mo_graphOf 44 = .ok (.lload_n 2, 1) := by decide +kernel
theorem d_Mo_graphOf_45 : decode b_Mo_graphOf 45 = .ok (.lreturn, 1) := by decide +kernel
theorem d_Mo_addAll_0 : decode b_Mo_addAll 0 = .ok (.iconst 1, 1) := by decide +kernel
theorem d_Mo_addAll_1 : decode b_Mo_addAll 1 = .ok (.istore_n 2, 1) := by decide +kernel
theorem d_Mo_addAll_2 : decode b_Mo_addAll 2 = .ok (.iload_n 2, 1) := by decide +kernel
theorem d_Mo_addAll_3 : decode b_Mo_addAll 3 = .ok (.ifCond .eq 110, 3) := by decide +kernel
theorem d_Mo_addAll_6 : decode b_Mo_addAll 6 = .ok (.iconst 0, 1) := by decide +kernel
theorem d_Mo_addAll_7 : decode b_Mo_addAll 7 = .ok (.istore_n 2, 1) := by decide +kernel
theorem d_Mo_addAll_8 : decode b_Mo_addAll 8 = .ok (.aload_n 0, 1) := by decide +kernel
theorem d_Mo_addAll_9 : decode b_Mo_addAll 9 = .ok (.iload_n 1, 1) := by decide +kernel
theorem d_Mo_addAll_10 : decode b_Mo_addAll 10 = .ok (.invokevirtual 140, 3) := by decide +kernel
theorem d_Mo_addAll_13 : decode b_Mo_addAll 13 = .ok (.lstore_n 3, 1) := by decide +kernel
theorem d_Mo_addAll_14 : decode b_Mo_addAll 14 = .ok (.iconst 0, 1) := by decide +kernel
theorem d_Mo_addAll_15 : decode b_Mo_addAll 15 = .ok (.istore 5, 2) := by decide +kernel
end
section
theorem d_Mo_addAll_17 : decode b_Mo_addAll 17 = .ok (.iload 5, 2) := by decide +kernel
theorem d_Mo_addAll_19 : decode b_Mo_addAll 19 = .ok (.bipush 48, 2) := by decide +kernel
theorem d_Mo_addAll_21 : decode b_Mo_addAll 21 = .ok (.if_icmp .ge 89, 3) := by decide +kernel
theorem d_Mo_addAll_24 : decode b_Mo_addAll 24 = .ok (.iload_n 2, 1) := by decide +kernel
theorem d_Mo_addAll_25 : decode b_Mo_addAll 25 = .ok (.ifCond .ne 85, 3) := by decide +kernel
theorem d_Mo_addAll_28 : decode b_Mo_addAll 28 = .ok (.aload_n 0, 1) := by decide +kernel
theorem d_Mo_addAll_29 : decode b_Mo_addAll 29 = .ok (.getfield 33, 3) := by decide +kernel
theorem d_Mo_addAll_32 : decode b_Mo_addAll 32 = .ok (.bipush 48, 2) := by decide +kernel
theorem d_Mo_addAll_34 : decode b_Mo_addAll 34 = .ok (.iload_n 1, 1) := by decide +kernel
theorem d_Mo_addAll_35 : decode b_Mo_addAll 35 = .ok (.imul, 1) := by decide +kernel
theorem d_Mo_addAll_36 : decode b_Mo_addAll 36 = .ok (.iload 5, 2) := by decide +kernel
theorem d_Mo_addAll_38 : decode b_Mo_addAll 38 = .ok (.iadd, 1) := by decide +kernel
theorem d_Mo_addAll_39 : decode b_Mo_addAll 39 = .ok (.iaload, 1) := by decide +kernel
theorem d_Mo_addAll_40 : decode b_Mo_addAll 40 = .ok (.istore 6, 2) := by decide +kernel
theorem d_Mo_addAll_42 : decode b_Mo_addAll 42 = .ok (.iload 6, 2) := by decide +kernel
theorem d_Mo_addAll_44 : decode b_Mo_addAll 44 = .ok (.ifCond .le 60, 3) := by decide +kernel
theorem d_Mo_addAll_47 : decode b_Mo_addAll 47 = .ok (.aload_n 0, 1) := by decide +kernel
theorem d_Mo_addAll_48 : decode b_Mo_addAll 48 = .ok (.getfield 36, 3) := by decide +kernel
theorem d_Mo_addAll_51 : decode b_Mo_addAll 51 = .ok (.bipush 48, 2) := by decide +kernel
theorem d_Mo_addAll_53 : decode b_Mo_addAll 53 = .ok (.iload_n 1, 1) := by decide +kernel
theorem d_Mo_addAll_54 : decode b_Mo_addAll 54 = .ok (.imul, 1) := by decide +kernel
theorem d_Mo_addAll_55 : decode b_Mo_addAll 55 = .ok (.iload 5, 2) := by decide +kernel
theorem d_Mo_addAll_57 : decode b_Mo_addAll 57 = .ok (.iadd, 1) := by decide +kernel
theorem d_Mo_addAll_58 : decode b_Mo_addAll 58 = .ok (.baload, 1) := by decide +kernel
theorem d_Mo_addAll_59 : decode b_Mo_addAll 59 = .ok (.ifCond .ne 45, 3) := by decide +kernel
theorem d_Mo_addAll_62 : decode b_Mo_addAll 62 = .ok (.aload_n 0, 1) := by decide +kernel
theorem d_Mo_addAll_63 : decode b_Mo_addAll 63 = .ok (.iload 6, 2) := by decide +kernel
theorem d_Mo_addAll_65 : decode b_Mo_addAll 65 = .ok (.invokevirtual 144, 3) := by decide +kernel
theorem d_Mo_addAll_68 : decode b_Mo_addAll 68 = .ok (.ifCond .eq 36, 3) := by decide +kernel
theorem d_Mo_addAll_71 : decode b_Mo_addAll 71 = .ok (.aload_n 0, 1) := by decide +kernel
theorem d_Mo_addAll_72 : decode b_Mo_addAll 72 = .ok (.iload 6, 2) := by decide +kernel
theorem d_Mo_addAll_74 : decode b_Mo_addAll 74 = .ok (.iconst 0, 1) := by decide +kernel
theorem d_Mo_addAll_75 : decode b_Mo_addAll 75 = .ok (.invokevirtual 147, 3) := by decide +kernel
theorem d_Mo_addAll_78 : decode b_Mo_addAll 78 = .ok (.lload_n 3, 1) := by decide +kernel
theorem d_Mo_addAll_79 : decode b_Mo_addAll 79 = .ok (.ldc2_w 138, 3) := by decide +kernel
theorem d_Mo_addAll_82 : decode b_Mo_addAll 82 = .ok (.lxor, 1) := by decide +kernel
theorem d_Mo_addAll_83 : decode b_Mo_addAll 83 = .ok (.land, 1) := by decide +kernel
theorem d_Mo_addAll_84 : decode b_Mo_addAll 84 = .ok (.lconst 0, 1) := by decide +kernel
theorem d_Mo_addAll_85 : decode b_Mo_addAll 85 = .ok (.lcmp, 1) := by decide +kernel
theorem d_Mo_addAll_86 : decode b_Mo_addAll 86 = .ok (.ifCond .ne 18, 3) := by decide +kernel
theorem d_Mo_addAll_89 : decode b_Mo_addAll 89 = .ok (.aload_n 0, 1) := by decide +kernel
theorem d_Mo_addAll_90 : decode b_Mo_addAll 90 = .ok (.getfield 36, 3) := by decide +kernel
theorem d_Mo_addAll_93 : decode b_Mo_addAll 93 = .ok (.bipush 48, 2) := by decide +kernel
theorem d_Mo_addAll_95 : decode b_Mo_addAll 95 = .ok (.iload_n 1, 1) := by decide +kernel
theorem d_Mo_addAll_96 : decode b_Mo_addAll 96 = .ok (.imul, 1) := by decide +kernel
theorem d_Mo_addAll_97 : decode b_Mo_addAll 97 = .ok (.iload 5, 2) := by decide +kernel
theorem d_Mo_addAll_99 : decode b_Mo_addAll 99 = .ok (.iadd, 1) := by decide +kernel
theorem d_Mo_addAll_100 : decode b_Mo_addAll 100 = .ok (.iconst 1, 1) := by decide +kernel
theorem d_Mo_addAll_101 : decode b_Mo_addAll 101 = .ok (.bastore, 1) := by decide +kernel
theorem d_Mo_addAll_102 : decode b_Mo_addAll 102 = .ok (.iconst 1, 1) := by decide +kernel
theorem d_Mo_addAll_103 : decode b_Mo_addAll 103 = .ok (.istore_n 2, 1) := by decide +kernel
theorem d_Mo_addAll_104 : decode b_Mo_addAll 104 = .ok (.iinc 5 1, 3) := by decide +kernel
theorem d_Mo_addAll_107 : decode b_Mo_addAll 107 = .ok (.goto (-90), 3) := by decide +kernel
theorem d_Mo_addAll_110 : decode b_Mo_addAll 110 = .ok (.goto (-108), 3) := by decide +kernel
theorem d_Mo_addAll_113 : decode b_Mo_addAll 113 = .ok (.return_, 1) := by decide +kernel
theorem d_Mo_below_0 : decode b_Mo_below 0 = .ok (.lload_n 2, 1) := by decide +kernel
theorem d_Mo_below_1 : decode b_Mo_below 1 = .ok (.lstore 5, 2) := by decide +kernel
theorem d_Mo_below_3 : decode b_Mo_below 3 = .ok (.bipush 47, 2) := by decide +kernel
theorem d_Mo_below_5 : decode b_Mo_below 5 = .ok (.istore 7, 2) := by decide +kernel
theorem d_Mo_below_7 : decode b_Mo_below 7 = .ok (.iload 7, 2) := by decide +kernel
theorem d_Mo_below_9 : decode b_Mo_below 9 = .ok (.ifCond .lt 53, 3) := by decide +kernel
theorem d_Mo_below_12 : decode b_Mo_below 12 = .ok (.aload_n 0, 1) := by decide +kernel
theorem d_Mo_below_13 : decode b_Mo_below 13 = .ok (.getfield 33, 3) := by decide +kernel
theorem d_Mo_below_16 : decode b_Mo_below 16 = .ok (.bipush 48, 2) := by decide +kernel
theorem d_Mo_below_18 : decode b_Mo_below 18 = .ok (.iload_n 1, 1) := by decide +kernel
theorem d_Mo_below_19 : decode b_Mo_below 19 = .ok (.imul, 1) := by decide +kernel
theorem d_Mo_below_20 : decode b_Mo_below 20 = .ok (.iload 7, 2) := by decide +kernel
theorem d_Mo_below_22 : decode b_Mo_below 22 = .ok (.iadd, 1) := by decide +kernel
theorem d_Mo_below_23 : decode b_Mo_below 23 = .ok (.iaload, 1) := by decide +kernel
theorem d_Mo_below_24 : decode b_Mo_below 24 = .ok (.istore 8, 2) := by decide +kernel
theorem d_Mo_below_26 : decode b_Mo_below 26 = .ok (.lload 5, 2) := by decide +kernel
theorem d_Mo_below_28 : decode b_Mo_below 28 = .ok (.iload 7, 2) := by decide +kernel
theorem d_Mo_below_30 : decode b_Mo_below 30 = .ok (.lshr, 1) := by decide +kernel
theorem d_Mo_below_31 : decode b_Mo_below 31 = .ok (.lconst 1, 1) := by decide +kernel
theorem d_Mo_below_32 : decode b_Mo_below 32 = .ok (.land, 1) := by decide +kernel
theorem d_Mo_below_33 : decode b_Mo_below 33 = .ok (.lconst 1, 1) := by decide +kernel
theorem d_Mo_below_34 : decode b_Mo_below 34 = .ok (.lcmp, 1) := by decide +kernel
theorem d_Mo_below_35 : decode b_Mo_below 35 = .ok (.ifCond .ne 21, 3) := by decide +kernel
theorem d_Mo_below_38 : decode b_Mo_below 38 = .ok (.iload 8, 2) := by decide +kernel
theorem d_Mo_below_40 : decode b_Mo_below 40 = .ok (.ifCond .le 16, 3) := by decide +kernel
theorem d_Mo_below_43 : decode b_Mo_below 43 = .ok (.lload 5, 2) := by decide +kernel
theorem d_Mo_below_45 : decode b_Mo_below 45 = .ok (.aload_n 0, 1) := by decide +kernel
theorem d_Mo_below_46 : decode b_Mo_below 46 = .ok (.iload 8, 2) := by decide +kernel
theorem d_Mo_below_48 : decode b_Mo_below 48 = .ok (.iload 4, 2) := by decide +kernel
theorem d_Mo_below_50 : decode b_Mo_below 50 = .ok (.invokevirtual 147, 3) := by decide +kernel
theorem d_Mo_below_53 : decode b_Mo_below 53 = .ok (.lor, 1) := by decide +kernel
theorem d_Mo_below_54 : decode b_Mo_below 54 = .ok (.lstore 5, 2) := by decide +kernel
theorem d_Mo_below_56 : decode b_Mo_below 56 = .ok (.iinc 7 (-1), 3) := by decide +kernel
theorem d_Mo_below_59 : decode b_Mo_below 59 = .ok (.goto (-52), 3) := by decide +kernel
theorem d_Mo_below_62 : decode b_Mo_below 62 = .ok (.lload 5, 2) := by decide +kernel
theorem d_Mo_below_64 : decode b_Mo_below 64 = .ok (.lreturn, 1) := by decide +kernel
theorem d_Mo_inRound_0 : decode b_Mo_inRound 0 = .ok (.iconst 0, 1) := by decide +kernel
theorem d_Mo_inRound_1 : decode b_Mo_inRound 1 = .ok (.istore_n 3, 1) := by decide +kernel
theorem d_Mo_inRound_2 : decode b_Mo_inRound 2 = .ok (.iconst 0, 1) := by decide +kernel
theorem d_Mo_inRound_3 : decode b_Mo_inRound 3 = .ok (.istore 4, 2) := by decide +kernel
theorem d_Mo_inRound_5 : decode b_Mo_inRound 5 = .ok (.iload 4, 2) := by decide +kernel
theorem d_Mo_inRound_7 : decode b_Mo_inRound 7 = .ok (.iconst 4, 1) := by decide +kernel
theorem d_Mo_inRound_8 : decode b_Mo_inRound 8 = .ok (.if_icmp .ge 41, 3) := by decide +kernel
theorem d_Mo_inRound_11 : decode b_Mo_inRound 11 = .ok (.iload_n 3, 1) := by decide +kernel
theorem d_Mo_inRound_12 : decode b_Mo_inRound 12 = .ok (.aload_n 0, 1) := by decide +kernel
theorem d_Mo_inRound_13 : decode b_Mo_inRound 13 = .ok (.getfield 36, 3) := by decide +kernel
theorem d_Mo_inRound_16 : decode b_Mo_inRound 16 = .ok (.bipush 48, 2) := by decide +kernel
theorem d_Mo_inRound_18 : decode b_Mo_inRound 18 = .ok (.iload_n 1, 1) := by decide +kernel
theorem d_Mo_inRound_19 : decode b_Mo_inRound 19 = .ok (.imul, 1) := by decide +kernel
theorem d_Mo_inRound_20 : decode b_Mo_inRound 20 = .ok (.iconst 4, 1) := by decide +kernel
theorem d_Mo_inRound_21 : decode b_Mo_inRound 21 = .ok (.iload_n 2, 1) := by decide +kernel
theorem d_Mo_inRound_22 : decode b_Mo_inRound 22 = .ok (.iconst 1, 1) := by decide +kernel
theorem d_Mo_inRound_23 : decode b_Mo_inRound 23 = .ok (.isub, 1) := by decide +kernel
theorem d_Mo_inRound_24 : decode b_Mo_inRound 24 = .ok (.imul, 1) := by decide +kernel
theorem d_Mo_inRound_25 : decode b_Mo_inRound 25 = .ok (.iadd, 1) := by decide +kernel
theorem d_Mo_inRound_26 : decode b_Mo_inRound 26 = .ok (.iload 4, 2) := by decide +kernel
theorem d_Mo_inRound_28 : decode b_Mo_inRound 28 = .ok (.iadd, 1) := by decide +kernel
theorem d_Mo_inRound_29 : decode b_Mo_inRound 29 = .ok (.baload, 1) := by decide +kernel
theorem d_Mo_inRound_30 : decode b_Mo_inRound 30 = .ok (.ifCond .eq 10, 3) := by decide +kernel
theorem d_Mo_inRound_33 : decode b_Mo_inRound 33 = .ok (.iconst 1, 1) := by decide +kernel
theorem d_Mo_inRound_34 : decode b_Mo_inRound 34 = .ok (.iload 4, 2) := by decide +kernel
theorem d_Mo_inRound_36 : decode b_Mo_inRound 36 = .ok (.ishl, 1) := by decide +kernel
theorem d_Mo_inRound_37 : decode b_Mo_inRound 37 = .ok (.goto 4, 3) := by decide +kernel
theorem d_Mo_inRound_40 : decode b_Mo_inRound 40 = .ok (.iconst 0, 1) := by decide +kernel
theorem d_Mo_inRound_41 : decode b_Mo_inRound 41 = .ok (.iadd, 1) := by decide +kernel
theorem d_Mo_inRound_42 : decode b_Mo_inRound 42 = .ok (.istore_n 3, 1) := by decide +kernel
theorem d_Mo_inRound_43 : decode b_Mo_inRound 43 = .ok (.iinc 4 1, 3) := by decide +kernel
theorem d_Mo_inRound_46 : decode b_Mo_inRound 46 = .ok (.goto (-41), 3) := by decide +kernel
theorem d_Mo_inRound_49 : decode b_Mo_inRound 49 = .ok (.iload_n 3, 1) := by decide +kernel
theorem d_Mo_inRound_50 : decode b_Mo_inRound 50 = .ok (.ireturn, 1) := by decide +kernel
theorem d_Mo_leader_0 : decode b_Mo_leader 0 = .ok (.bipush 16, 2) := by decide +kernel
theorem d_Mo_leader_2 : decode b_Mo_leader 2 = .ok (.iload_n 1, 1) := by decide +kernel
theorem d_Mo_leader_3 : decode b_Mo_leader 3 = .ok (.iconst 1, 1) := by decide +kernel
theorem d_Mo_leader_4 : decode b_Mo_leader 4 = .ok (.isub, 1) := by decide +kernel
theorem d_Mo_leader_5 : decode b_Mo_leader 5 = .ok (.imul, 1) := by decide +kernel
theorem d_Mo_leader_6 : decode b_Mo_leader 6 = .ok (.aload_n 0, 1) := by decide +kernel
theorem d_Mo_leader_7 : decode b_Mo_leader 7 = .ok (.getfield 79, 3) := by decide +kernel
theorem d_Mo_leader_10 : decode b_Mo_leader 10 = .ok (.iconst 2, 1) := by decide +kernel
theorem d_Mo_leader_11 : decode b_Mo_leader 11 = .ok (.iload_n 1, 1) := by decide +kernel
theorem d_Mo_leader_12 : decode b_Mo_leader 12 = .ok (.iconst 1, 1) := by decide +kernel
theorem d_Mo_leader_13 : decode b_Mo_leader 13 = .ok (.isub, 1) := by decide +kernel
theorem d_Mo_leader_14 : decode b_Mo_leader 14 = .ok (.imul, 1) := by decide +kernel
theorem d_Mo_leader_15 : decode b_Mo_leader 15 = .ok (.ishr, 1) := by decide +kernel
theorem d_Mo_leader_16 : decode b_Mo_leader 16 = .ok (.iconst 3, 1) := by decide +kernel
theorem d_Mo_leader_17 : decode b_Mo_leader 17 = .ok (.iand, 1) := by decide +kernel
theorem d_Mo_leader_18 : decode b_Mo_leader 18 = .ok (.iadd, 1) := by decide +kernel
theorem d_Mo_leader_19 : decode b_Mo_leader 19 = .ok (.ireturn, 1) := by decide +kernel
theorem d_Mo_done_0 : decode b_Mo_done 0 = .ok (.aload_n 0, 1) := by decide +kernel
theorem d_Mo_done_1 : decode b_Mo_done 1 = .ok (.iload_n 2, 1) := by decide +kernel
theorem d_Mo_done_2 : decode b_Mo_done 2 = .ok (.invokevirtual 151, 3) := by decide +kernel
theorem d_Mo_done_5 : decode b_Mo_done 5 = .ok (.istore_n 3, 1) := by decide +kernel
theorem d_Mo_done_6 : decode b_Mo_done 6 = .ok (.aload_n 0, 1) := by decide +kernel
theorem d_Mo_done_7 : decode b_Mo_done 7 = .ok (.getfield 36, 3) := by decide +kernel
theorem d_Mo_done_10 : decode b_Mo_done 10 = .ok (.bipush 48, 2) := by decide +kernel
theorem d_Mo_done_12 : decode b_Mo_done 12 = .ok (.iload_n 1, 1) := by decide +kernel
theorem d_Mo_done_13 : decode b_Mo_done 13 = .ok (.imul, 1) := by decide +kernel
theorem d_Mo_done_14 : decode b_Mo_done 14 = .ok (.iload_n 3, 1) := by decide +kernel
theorem d_Mo_done_15 : decode b_Mo_done 15 = .ok (.iadd, 1) := by decide +kernel
theorem d_Mo_done_16 : decode b_Mo_done 16 = .ok (.baload, 1) := by decide +kernel
theorem d_Mo_done_17 : decode b_Mo_done 17 = .ok (.ifCond .ne 4, 3) := by decide +kernel
theorem d_Mo_done_20 : decode b_Mo_done 20 = .ok (.return_, 1) := by decide +kernel
theorem d_Mo_done_21 : decode b_Mo_done 21 = .ok (.iconst 0, 1) := by decide +kernel
theorem d_Mo_done_22 : decode b_Mo_done 22 = .ok (.istore 4, 2) := by decide +kernel
theorem d_Mo_done_24 : decode b_Mo_done 24 = .ok (.iconst 0, 1) := by decide +kernel
theorem d_Mo_done_25 : decode b_Mo_done 25 = .ok (.istore 5, 2) := by decide +kernel
theorem d_Mo_done_27 : decode b_Mo_done 27 = .ok (.iload 5, 2) := by decide +kernel
theorem d_Mo_done_29 : decode b_Mo_done 29 = .ok (.iconst 4, 1) := by decide +kernel
theorem d_Mo_done_30 : decode b_Mo_done 30 = .ok (.if_icmp .ge 57, 3) := by decide +kernel
theorem d_Mo_done_33 : decode b_Mo_done 33 = .ok (.bipush 16, 2) := by decide +kernel
theorem d_Mo_done_35 : decode b_Mo_done 35 = .ok (.iload_n 2, 1) := by decide +kernel
theorem d_Mo_done_36 : decode b_Mo_done 36 = .ok (.imul, 1) := by decide +kernel
theorem d_Mo_done_37 : decode b_Mo_done 37 = .ok (.iconst 4, 1) := by decide +kernel
theorem d_Mo_done_38 : decode b_Mo_done 38 = .ok (.isub, 1) := by decide +kernel
theorem d_Mo_done_39 : decode b_Mo_done 39 = .ok (.iload 5, 2) := by decide +kernel
theorem d_Mo_done_41 : decode b_Mo_done 41 = .ok (.iadd, 1) := by decide +kernel
theorem d_Mo_done_42 : decode b_Mo_done 42 = .ok (.istore 6, 2) := by decide +kernel
theorem d_Mo_done_44 : decode b_Mo_done 44 = .ok (.aload_n 0, 1) := by decide +kernel
theorem d_Mo_done_45 : decode b_Mo_done 45 = .ok (.getfield 36, 3) := by decide +kernel
theorem d_Mo_done_48 : decode b_Mo_done 48 = .ok (.bipush 48, 2) := by decide +kernel
theorem d_Mo_done_50 : decode b_Mo_done 50 = .ok (.iload_n 1, 1) := by decide +kernel
theorem d_Mo_done_51 : decode b_Mo_done 51 = .ok (.imul, 1) := by decide +kernel
theorem d_Mo_done_52 : decode b_Mo_done 52 = .ok (.iload 6, 2) := by decide +kernel
theorem d_Mo_done_54 : decode b_Mo_done 54 = .ok (.iadd, 1) := by decide +kernel
theorem d_Mo_done_55 : decode b_Mo_done 55 = .ok (.baload, 1) := by decide +kernel
theorem d_Mo_done_56 : decode b_Mo_done 56 = .ok (.ifCond .eq 25, 3) := by decide +kernel
theorem d_Mo_done_59 : decode b_Mo_done 59 = .ok (.aload_n 0, 1) := by decide +kernel
theorem d_Mo_done_60 : decode b_Mo_done 60 = .ok (.iload_n 1, 1) := by decide +kernel
theorem d_Mo_done_61 : decode b_Mo_done 61 = .ok (.lconst 1, 1) := by decide +kernel
theorem d_Mo_done_62 : decode b_Mo_done 62 = .ok (.iload 6, 2) := by decide +kernel
theorem d_Mo_done_64 : decode b_Mo_done 64 = .ok (.lshl, 1) := by decide +kernel
theorem d_Mo_done_65 : decode b_Mo_done 65 = .ok (.iconst 1, 1) := by decide +kernel
theorem d_Mo_done_66 : decode b_Mo_done 66 = .ok (.invokevirtual 154, 3) := by decide +kernel
theorem d_Mo_done_69 : decode b_Mo_done 69 = .ok (.iload_n 3, 1) := by decide +kernel
theorem d_Mo_done_70 : decode b_Mo_done 70 = .ok (.lshr, 1) := by decide +kernel
theorem d_Mo_done_71 : decode b_Mo_done 71 = .ok (.lconst 1, 1) := by decide +kernel
theorem d_Mo_done_72 : decode b_Mo_done 72 = .ok (.land, 1) := by decide +kernel
theorem d_Mo_done_73 : decode b_Mo_done 73 = .ok (.lconst 1, 1) := by decide +kernel
theorem d_Mo_done_74 : decode b_Mo_done 74 = .ok (.lcmp, 1) := by decide +kernel
theorem d_Mo_done_75 : decode b_Mo_done 75 = .ok (.ifCond .ne 6, 3) := by decide +kernel
theorem d_Mo_done_78 : decode b_Mo_done 78 = .ok (.iinc 4 1, 3) := by decide +kernel
theorem d_Mo_done_81 : decode b_Mo_done 81 = .ok (.iinc 5 1, 3) := by decide +kernel
theorem d_Mo_done_84 : decode b_Mo_done 84 = .ok (.goto (-57), 3) := by decide +kernel
theorem d_Mo_done_87 : decode b_Mo_done 87 = .ok (.iload 4, 2) := by decide +kernel
theorem d_Mo_done_89 : decode b_Mo_done 89 = .ok (.iconst 3, 1) := by decide +kernel
theorem d_Mo_done_90 : decode b_Mo_done 90 = .ok (.if_icmp .ge 4, 3) := by decide +kernel
theorem d_Mo_done_93 : decode b_Mo_done 93 = .ok (.return_, 1) := by decide +kernel
theorem d_Mo_done_94 : decode b_Mo_done 94 = .ok (.iconst 1, 1) := by decide +kernel
theorem d_Mo_done_95 : decode b_Mo_done 95 = .ok (.istore 5, 2) := by decide +kernel
theorem d_Mo_done_97 : decode b_Mo_done 97 = .ok (.aload_n 0, 1) := by decide +kernel
theorem d_Mo_done_98 : decode b_Mo_done 98 = .ok (.getfield 72, 3) := by decide +kernel
theorem d_Mo_done_101 : decode b_Mo_done 101 = .ok (.iconst 0, 1) := by decide +kernel
theorem d_Mo_done_102 : decode b_Mo_done 102 = .ok (.iload_n 3, 1) := by decide +kernel
theorem d_Mo_done_103 : decode b_Mo_done 103 = .ok (.iastore, 1) := by decide +kernel
theorem d_Mo_done_104 : decode b_Mo_done 104 = .ok (.iload_n 2, 1) := by decide +kernel
theorem d_Mo_done_105 : decode b_Mo_done 105 = .ok (.iconst 1, 1) := by decide +kernel
theorem d_Mo_done_106 : decode b_Mo_done 106 = .ok (.isub, 1) := by decide +kernel
theorem d_Mo_done_107 : decode b_Mo_done 107 = .ok (.istore 6, 2) := by decide +kernel
theorem d_Mo_done_109 : decode b_Mo_done 109 = .ok (.iload 6, 2) := by decide +kernel
theorem d_Mo_done_111 : decode b_Mo_done 111 = .ok (.aload_n 0, 1) := by decide +kernel
theorem d_Mo_done_112 : decode b_Mo_done 112 = .ok (.getfield 57, 3) := by decide +kernel
theorem d_Mo_done_115 : decode b_Mo_done 115 = .ok (.iload_n 1, 1) := by decide +kernel
theorem d_Mo_done_116 : decode b_Mo_done 116 = .ok (.iaload, 1) := by decide +kernel
theorem d_Mo_done_117 : decode b_Mo_done 117 = .ok (.if_icmp .le 83, 3) := by decide +kernel
theorem d_Mo_done_120 : decode b_Mo_done 120 = .ok (.aload_n 0, 1) := by decide +kernel
theorem d_Mo_done_121 : decode b_Mo_done 121 = .ok (.iload 6, 2) := by decide +kernel
theorem d_Mo_done_123 : decode b_Mo_done 123 = .ok (.invokevirtual 151, 3) := by decide +kernel
theorem d_Mo_done_126 : decode b_Mo_done 126 = .ok (.istore 7, 2) := by decide +kernel
theorem d_Mo_done_128 : decode b_Mo_done 128 = .ok (.aload_n 0, 1) := by decide +kernel
theorem d_Mo_done_129 : decode b_Mo_done 129 = .ok (.getfield 36, 3) := by decide +kernel
theorem d_Mo_done_132 : decode b_Mo_done 132 = .ok (.bipush 48, 2) := by decide +kernel
theorem d_Mo_done_134 : decode b_Mo_done 134 = .ok (.iload_n 1, 1) := by decide +kernel
theorem d_Mo_done_135 : decode b_Mo_done 135 = .ok (.imul, 1) := by decide +kernel
theorem d_Mo_done_136 : decode b_Mo_done 136 = .ok (.iload 7, 2) := by decide +kernel
theorem d_Mo_done_138 : decode b_Mo_done 138 = .ok (.iadd, 1) := by decide +kernel
theorem d_Mo_done_139 : decode b_Mo_done 139 = .ok (.baload, 1) := by decide +kernel
theorem d_Mo_done_140 : decode b_Mo_done 140 = .ok (.ifCond .eq 34, 3) := by decide +kernel
theorem d_Mo_done_143 : decode b_Mo_done 143 = .ok (.aload_n 0, 1) := by decide +kernel
theorem d_Mo_done_144 : decode b_Mo_done 144 = .ok (.iload_n 1, 1) := by decide +kernel
theorem d_Mo_done_145 : decode b_Mo_done 145 = .ok (.lconst 1, 1) := by decide +kernel
theorem d_Mo_done_146 : decode b_Mo_done 146 = .ok (.aload_n 0, 1) := by decide +kernel
theorem d_Mo_done_147 : decode b_Mo_done 147 = .ok (.getfield 72, 3) := by decide +kernel
theorem d_Mo_done_150 : decode b_Mo_done 150 = .ok (.iload 5, 2) := by decide +kernel
theorem d_Mo_done_152 : decode b_Mo_done 152 = .ok (.iconst 1, 1) := by decide +kernel
theorem d_Mo_done_153 : decode b_Mo_done 153 = .ok (.isub, 1) := by decide +kernel
theorem d_Mo_done_154 : decode b_Mo_done 154 = .ok (.iaload, 1) := by decide +kernel
theorem d_Mo_done_155 : decode b_Mo_done 155 = .ok (.lshl, 1) := by decide +kernel
theorem d_Mo_done_156 : decode b_Mo_done 156 = .ok (.iconst 1, 1) := by decide +kernel
theorem d_Mo_done_157 : decode b_Mo_done 157 = .ok (.invokevirtual 154, 3) := by decide +kernel
theorem d_Mo_done_160 : decode b_Mo_done 160 = .ok (.iload 7, 2) := by decide +kernel
theorem d_Mo_done_162 : decode b_Mo_done 162 = .ok (.lshr, 1) := by decide +kernel
theorem d_Mo_done_163 : decode b_Mo_done 163 = .ok (.lconst 1, 1) := by decide +kernel
theorem d_Mo_done_164 : decode b_Mo_done 164 = .ok (.land, 1) := by decide +kernel
theorem d_Mo_done_165 : decode b_Mo_done 165 = .ok (.lconst 1, 1) := by decide +kernel
theorem d_Mo_done_166 : decode b_Mo_done 166 = .ok (.lcmp, 1) := by decide +kernel
theorem d_Mo_done_167 : decode b_Mo_done 167 = .ok (.ifCond .ne 7, 3) := by decide +kernel
theorem d_Mo_done_170 : decode b_Mo_done 170 = .ok (.iconst 1, 1) := by decide +kernel
theorem d_Mo_done_171 : decode b_Mo_done 171 = .ok (.goto 4, 3) := by decide +kernel
theorem d_Mo_done_174 : decode b_Mo_done 174 = .ok (.iconst 0, 1) := by decide +kernel
theorem d_Mo_done_175 : decode b_Mo_done 175 = .ok (.istore 8, 2) := by decide +kernel
theorem d_Mo_done_177 : decode b_Mo_done 177 = .ok (.iload 8, 2) := by decide +kernel
theorem d_Mo_done_179 : decode b_Mo_done 179 = .ok (.ifCond .eq 15, 3) := by decide +kernel
theorem d_Mo_done_182 : decode b_Mo_done 182 = .ok (.aload_n 0, 1) := by decide +kernel
theorem d_Mo_done_183 : decode b_Mo_done 183 = .ok (.getfield 72, 3) := by decide +kernel
theorem d_Mo_done_186 : decode b_Mo_done 186 = .ok (.iload 5, 2) := by decide +kernel
theorem d_Mo_done_188 : decode b_Mo_done 188 = .ok (.iload 7, 2) := by decide +kernel
theorem d_Mo_done_190 : decode b_Mo_done 190 = .ok (.iastore, 1) := by decide +kernel
theorem d_Mo_done_191 : decode b_Mo_done 191 = .ok (.iinc 5 1, 3) := by decide +kernel
theorem d_Mo_done_194 : decode b_Mo_done 194 = .ok (.iinc 6 (-1), 3) := by decide +kernel
theorem d_Mo_done_197 : decode b_Mo_done 197 = .ok (.goto (-88), 3) := by decide +kernel
theorem d_Mo_done_200 : decode b_Mo_done 200 = .ok (.aload_n 0, 1) := by decide +kernel
theorem d_Mo_done_201 : decode b_Mo_done 201 = .ok (.getfield 57, 3) := by decide +kernel
theorem d_Mo_done_204 : decode b_Mo_done 204 = .ok (.iload_n 1, 1) := by decide +kernel
theorem d_Mo_done_205 : decode b_Mo_done 205 = .ok (.iload_n 2, 1) := by decide +kernel
theorem d_Mo_done_206 : decode b_Mo_done 206 = .ok (.iastore, 1) := by decide +kernel
theorem d_Mo_done_207 : decode b_Mo_done 207 = .ok (.iload 5, 2) := by decide +kernel
theorem d_Mo_done_209 : decode b_Mo_done 209 = .ok (.iconst 1, 1) := by decide +kernel
theorem d_Mo_done_210 : decode b_Mo_done 210 = .ok (.isub, 1) := by decide +kernel
theorem d_Mo_done_211 : decode b_Mo_done 211 = .ok (.istore 6, 2) := by decide +kernel
theorem d_Mo_done_213 : decode b_Mo_done 213 = .ok (.iload 6, 2) := by decide +kernel
theorem d_Mo_done_215 : decode b_Mo_done 215 = .ok (.ifCond .lt 21, 3) := by decide +kernel
theorem d_Mo_done_218 : decode b_Mo_done 218 = .ok (.aload_n 0, 1) := by decide +kernel
theorem d_Mo_done_219 : decode b_Mo_done 219 = .ok (.iload_n 1, 1) := by decide +kernel
theorem d_Mo_done_220 : decode b_Mo_done 220 = .ok (.aload_n 0, 1) := by decide +kernel
theorem d_Mo_done_221 : decode b_Mo_done 221 = .ok (.getfield 72, 3) := by decide +kernel
theorem d_Mo_done_224 : decode b_Mo_done 224 = .ok (.iload 6, 2) := by decide +kernel
theorem d_Mo_done_226 : decode b_Mo_done 226 = .ok (.iaload, 1) := by decide +kernel
theorem d_Mo_done_227 : decode b_Mo_done 227 = .ok (.invokevirtual 158, 3) := by decide +kernel
theorem d_Mo_done_230 : decode b_Mo_done 230 = .ok (.iinc 6 (-1), 3) := by decide +kernel
theorem d_Mo_done_233 : decode b_Mo_done 233 = .ok (.goto (-20), 3) := by decide +kernel
theorem d_Mo_done_236 : decode b_Mo_done 236 = .ok (.return_, 1) := by decide +kernel
theorem d_Mo_orderBelow_0 : decode b_Mo_orderBelow 0 = .ok (.aload_n 0, 1) := by decide +kernel
theorem d_Mo_orderBelow_1 : decode b_Mo_orderBelow 1 = .ok (.iload_n 1, 1) := by decide +kernel
theorem d_Mo_orderBelow_2 : decode b_Mo_orderBelow 2 = .ok (.lconst 1, 1) := by decide +kernel
theorem d_Mo_orderBelow_3 : decode b_Mo_orderBelow 3 = .ok (.iload_n 2, 1) := by decide +kernel
theorem d_Mo_orderBelow_4 : decode b_Mo_orderBelow 4 = .ok (.lshl, 1) := by decide +kernel
theorem d_Mo_orderBelow_5 : decode b_Mo_orderBelow 5 = .ok (.iconst 0, 1) := by decide +kernel
theorem d_Mo_orderBelow_6 : decode b_Mo_orderBelow 6 = .ok (.invokevirtual 154, 3) := by decide +kernel
theorem d_Mo_orderBelow_9 : decode b_Mo_orderBelow 9 = .ok (.lstore_n 3, 1) := by decide +kernel
theorem d_Mo_orderBelow_10 : decode b_Mo_orderBelow 10 = .ok (.iconst 0, 1) := by decide +kernel
theorem d_Mo_orderBelow_11 : decode b_Mo_orderBelow 11 = .ok (.istore 5, 2) := by decide +kernel
theorem d_Mo_orderBelow_13 : decode b_Mo_orderBelow 13 = .ok (.iload 5, 2) := by decide +kernel
theorem d_Mo_orderBelow_15 : decode b_Mo_orderBelow 15 = .ok (.bipush 48, 2) := by decide +kernel
theorem d_Mo_orderBelow_17 : decode b_Mo_orderBelow 17 = .ok (.if_icmp .ge 92, 3) := by decide +kernel
theorem d_Mo_orderBelow_20 : decode b_Mo_orderBelow 20 = .ok (.bipush 48, 2) := by decide +kernel
theorem d_Mo_orderBelow_22 : decode b_Mo_orderBelow 22 = .ok (.iload_n 1, 1) := by decide +kernel
theorem d_Mo_orderBelow_23 : decode b_Mo_orderBelow 23 = .ok (.imul, 1) := by decide +kernel
theorem d_Mo_orderBelow_24 : decode b_Mo_orderBelow 24 = .ok (.iload 5, 2) := by decide +kernel
theorem d_Mo_orderBelow_26 : decode b_Mo_orderBelow 26 = .ok (.iadd, 1) := by decide +kernel
theorem d_Mo_orderBelow_27 : decode b_Mo_orderBelow 27 = .ok (.istore 6, 2) := by decide +kernel
theorem d_Mo_orderBelow_29 : decode b_Mo_orderBelow 29 = .ok (.lload_n 3, 1) := by decide +kernel
theorem d_Mo_orderBelow_30 : decode b_Mo_orderBelow 30 = .ok (.iload 5, 2) := by decide +kernel
theorem d_Mo_orderBelow_32 : decode b_Mo_orderBelow 32 = .ok (.lshr, 1) := by decide +kernel
theorem d_Mo_orderBelow_33 : decode b_Mo_orderBelow 33 = .ok (.lconst 1, 1) := by decide +kernel
theorem d_Mo_orderBelow_34 : decode b_Mo_orderBelow 34 = .ok (.land, 1) := by decide +kernel
theorem d_Mo_orderBelow_35 : decode b_Mo_orderBelow 35 = .ok (.lconst 1, 1) := by decide +kernel
theorem d_Mo_orderBelow_36 : decode b_Mo_orderBelow 36 = .ok (.lcmp, 1) := by decide +kernel
theorem d_Mo_orderBelow_37 : decode b_Mo_orderBelow 37 = .ok (.ifCond .ne 66, 3) := by decide +kernel
theorem d_Mo_orderBelow_40 : decode b_Mo_orderBelow 40 = .ok (.aload_n 0, 1) := by decide +kernel
theorem d_Mo_orderBelow_41 : decode b_Mo_orderBelow 41 = .ok (.getfield 39, 3) := by decide +kernel
theorem d_Mo_orderBelow_44 : decode b_Mo_orderBelow 44 = .ok (.iload 6, 2) := by decide +kernel
theorem d_Mo_orderBelow_46 : decode b_Mo_orderBelow 46 = .ok (.baload, 1) := by decide +kernel
theorem d_Mo_orderBelow_47 : decode b_Mo_orderBelow 47 = .ok (.ifCond .ne 56, 3) := by decide +kernel
theorem d_Mo_orderBelow_50 : decode b_Mo_orderBelow 50 = .ok (.aload_n 0, 1) := by decide +kernel
theorem d_Mo_orderBelow_51 : decode b_Mo_orderBelow 51 = .ok (.getfield 39, 3) := by decide +kernel
theorem d_Mo_orderBelow_54 : decode b_Mo_orderBelow 54 = .ok (.iload 6, 2) := by decide +kernel
theorem d_Mo_orderBelow_56 : decode b_Mo_orderBelow 56 = .ok (.iconst 1, 1) := by decide +kernel
theorem d_Mo_orderBelow_57 : decode b_Mo_orderBelow 57 = .ok (.bastore, 1) := by decide +kernel
theorem d_Mo_orderBelow_58 : decode b_Mo_orderBelow 58 = .ok (.aload_n 0, 1) := by decide +kernel
theorem d_Mo_orderBelow_59 : decode b_Mo_orderBelow 59 = .ok (.getfield 42, 3) := by decide +kernel
theorem d_Mo_orderBelow_62 : decode b_Mo_orderBelow 62 = .ok (.bipush 48, 2) := by decide +kernel
theorem d_Mo_orderBelow_64 : decode b_Mo_orderBelow 64 = .ok (.iload_n 1, 1) := by decide +kernel
theorem d_Mo_orderBelow_65 : decode b_Mo_orderBelow 65 = .ok (.imul, 1) := by decide +kernel
theorem d_Mo_orderBelow_66 : decode b_Mo_orderBelow 66 = .ok (.aload_n 0, 1) := by decide +kernel
theorem d_Mo_orderBelow_67 : decode b_Mo_orderBelow 67 = .ok (.getfield 60, 3) := by decide +kernel
theorem d_Mo_orderBelow_70 : decode b_Mo_orderBelow 70 = .ok (.iload_n 1, 1) := by decide +kernel
theorem d_Mo_orderBelow_71 : decode b_Mo_orderBelow 71 = .ok (.iaload, 1) := by decide +kernel
theorem d_Mo_orderBelow_72 : decode b_Mo_orderBelow 72 = .ok (.iadd, 1) := by decide +kernel
theorem d_Mo_orderBelow_73 : decode b_Mo_orderBelow 73 = .ok (.iload 5, 2) := by decide +kernel
theorem d_Mo_orderBelow_75 : decode b_Mo_orderBelow 75 = .ok (.iastore, 1) := by decide +kernel
theorem d_Mo_orderBelow_76 : decode b_Mo_orderBelow 76 = .ok (.aload_n 0, 1) := by decide +kernel
theorem d_Mo_orderBelow_77 : decode b_Mo_orderBelow 77 = .ok (.getfield 60, 3) := by decide +kernel
theorem d_Mo_orderBelow_80 : decode b_Mo_orderBelow 80 = .ok (.iload_n 1, 1) := by decide +kernel
theorem d_Mo_orderBelow_81 : decode b_Mo_orderBelow 81 = .ok (.dup2, 1) := by decide +kernel
theorem d_Mo_orderBelow_82 : decode b_Mo_orderBelow 82 = .ok (.iaload, 1) := by decide +kernel
theorem d_Mo_orderBelow_83 : decode b_Mo_orderBelow 83 = .ok (.iconst 1, 1) := by decide +kernel
theorem d_Mo_orderBelow_84 : decode b_Mo_orderBelow 84 = .ok (.iadd, 1) := by decide +kernel
theorem d_Mo_orderBelow_85 : decode b_Mo_orderBelow 85 = .ok (.iastore, 1) := by decide +kernel
theorem d_Mo_orderBelow_86 : decode b_Mo_orderBelow 86 = .ok (.aload_n 0, 1) := by decide +kernel
theorem d_Mo_orderBelow_87 : decode b_Mo_orderBelow 87 = .ok (.iload_n 1, 1) := by decide +kernel
theorem d_Mo_orderBelow_88 : decode b_Mo_orderBelow 88 = .ok (.aload_n 0, 1) := by decide +kernel
theorem d_Mo_orderBelow_89 : decode b_Mo_orderBelow 89 = .ok (.getfield 20, 3) := by decide +kernel
theorem d_Mo_orderBelow_92 : decode b_Mo_orderBelow 92 = .ok (.aload_n 0, 1) := by decide +kernel
theorem d_Mo_orderBelow_93 : decode b_Mo_orderBelow 93 = .ok (.getfield 33, 3) := by decide +kernel
theorem d_Mo_orderBelow_96 : decode b_Mo_orderBelow 96 = .ok (.iload 6, 2) := by decide +kernel
theorem d_Mo_orderBelow_98 : decode b_Mo_orderBelow 98 = .ok (.iaload, 1) := by decide +kernel
theorem d_Mo_orderBelow_99 : decode b_Mo_orderBelow 99 = .ok (.iaload, 1) := by decide +kernel
theorem d_Mo_orderBelow_100 : decode b_Mo_orderBelow 100 = .ok (.invokevirtual 162, 3) := by decide +kernel
theorem d_Mo_orderBelow_103 : decode b_Mo_orderBelow 103 = .ok (.iinc 5 1, 3) := by decide +kernel
theorem d_Mo_orderBelow_106 : decode b_Mo_orderBelow 106 = .ok (.goto (-93), 3) := by decide +kernel
theorem d_Mo_orderBelow_109 : decode b_Mo_orderBelow 109 = .ok (.return_, 1) := by decide +kernel
theorem d_Mo_make_0 : decode b_Mo_make 0 = .ok (.iload_n 2, 1) := by decide +kernel
theorem d_Mo_make_1 : decode b_Mo_make 1 = .ok (.sipush 1000, 3) := by decide +kernel
theorem d_Mo_make_4 : decode b_Mo_make 4 = .ok (.idiv, 1) := by decide +kernel
theorem d_Mo_make_5 : decode b_Mo_make 5 = .ok (.istore_n 3, 1) := by decide +kernel
theorem d_Mo_make_6 : decode b_Mo_make 6 = .ok (.iconst 4, 1) := by decide +kernel
theorem d_Mo_make_7 : decode b_Mo_make 7 = .ok (.iload_n 1, 1) := by decide +kernel
theorem d_Mo_make_8 : decode b_Mo_make 8 = .ok (.imul, 1) := by decide +kernel
theorem d_Mo_make_9 : decode b_Mo_make 9 = .ok (.iload_n 2, 1) := by decide +kernel
theorem d_Mo_make_10 : decode b_Mo_make 10 = .ok (.bipush 10, 2) := by decide +kernel
theorem d_Mo_make_12 : decode b_Mo_make 12 = .ok (.idiv, 1) := by decide +kernel
theorem d_Mo_make_13 : decode b_Mo_make 13 = .ok (.bipush 10, 2) := by decide +kernel
theorem d_Mo_make_15 : decode b_Mo_make 15 = .ok (.irem, 1) := by decide +kernel
theorem d_Mo_make_16 : decode b_Mo_make 16 = .ok (.iadd, 1) := by decide +kernel
theorem d_Mo_make_17 : decode b_Mo_make 17 = .ok (.istore 4, 2) := by decide +kernel
theorem d_Mo_make_19 : decode b_Mo_make 19 = .ok (.iconst 4, 1) := by decide +kernel
theorem d_Mo_make_20 : decode b_Mo_make 20 = .ok (.iload_n 1, 1) := by decide +kernel
theorem d_Mo_make_21 : decode b_Mo_make 21 = .ok (.imul, 1) := by decide +kernel
theorem d_Mo_make_22 : decode b_Mo_make 22 = .ok (.iload_n 2, 1) := by decide +kernel
theorem d_Mo_make_23 : decode b_Mo_make 23 = .ok (.bipush 10, 2) := by decide +kernel
theorem d_Mo_make_25 : decode b_Mo_make 25 = .ok (.irem, 1) := by decide +kernel
theorem d_Mo_make_26 : decode b_Mo_make 26 = .ok (.iadd, 1) := by decide +kernel
theorem d_Mo_make_27 : decode b_Mo_make 27 = .ok (.istore 5, 2) := by decide +kernel
theorem d_Mo_make_29 : decode b_Mo_make 29 = .ok (.iload_n 2, 1) := by decide +kernel
theorem d_Mo_make_30 : decode b_Mo_make 30 = .ok (.ifCond .eq 14, 3) := by decide +kernel
theorem d_Mo_make_33 : decode b_Mo_make 33 = .ok (.aload_n 0, 1) := by decide +kernel
theorem d_Mo_make_34 : decode b_Mo_make 34 = .ok (.getfield 63, 3) := by decide +kernel
theorem d_Mo_make_37 : decode b_Mo_make 37 = .ok (.iload 4, 2) := by decide +kernel
theorem d_Mo_make_39 : decode b_Mo_make 39 = .ok (.iaload, 1) := by decide +kernel
theorem d_Mo_make_40 : decode b_Mo_make 40 = .ok (.iload_n 3, 1) := by decide +kernel
theorem d_Mo_make_41 : decode b_Mo_make 41 = .ok (.if_icmp .ge 4, 3) := by decide +kernel
theorem d_Mo_make_44 : decode b_Mo_make 44 = .ok (.return_, 1) := by decide +kernel
theorem d_Mo_make_45 : decode b_Mo_make 45 = .ok (.aload_n 0, 1) := by decide +kernel
theorem d_Mo_make_46 : decode b_Mo_make 46 = .ok (.getfield 63, 3) := by decide +kernel
theorem d_Mo_make_49 : decode b_Mo_make 49 = .ok (.iload 4, 2) := by decide +kernel
theorem d_Mo_make_51 : decode b_Mo_make 51 = .ok (.dup2, 1) := by decide +kernel
theorem d_Mo_make_52 : decode b_Mo_make 52 = .ok (.iaload, 1) := by decide +kernel
theorem d_Mo_make_53 : decode b_Mo_make 53 = .ok (.iload_n 3, 1) := by decide +kernel
theorem d_Mo_make_54 : decode b_Mo_make 54 = .ok (.isub, 1) := by decide +kernel
theorem d_Mo_make_55 : decode b_Mo_make 55 = .ok (.iastore, 1) := by decide +kernel
theorem d_Mo_make_56 : decode b_Mo_make 56 = .ok (.aload_n 0, 1) := by decide +kernel
theorem d_Mo_make_57 : decode b_Mo_make 57 = .ok (.getfield 63, 3) := by decide +kernel
theorem d_Mo_make_60 : decode b_Mo_make 60 = .ok (.iload 5, 2) := by decide +kernel
theorem d_Mo_make_62 : decode b_Mo_make 62 = .ok (.dup2, 1) := by decide +kernel
theorem d_Mo_make_63 : decode b_Mo_make 63 = .ok (.iaload, 1) := by decide +kernel
theorem d_Mo_make_64 : decode b_Mo_make 64 = .ok (.iload_n 3, 1) := by decide +kernel
theorem d_Mo_make_65 : decode b_Mo_make 65 = .ok (.iadd, 1) := by decide +kernel
theorem d_Mo_make_66 : decode b_Mo_make 66 = .ok (.iastore, 1) := by decide +kernel
theorem d_Mo_make_67 : decode b_Mo_make 67 = .ok (.return_, 1) := by decide +kernel
theorem d_Mo_newVertex_0 : decode b_Mo_newVertex 0 = .ok (.aload_n 0, 1) := by decide +kernel
theorem d_Mo_newVertex_1 : decode b_Mo_newVertex 1 = .ok (.dup, 1) := by decide +kernel
theorem d_Mo_newVertex_2 : decode b_Mo_newVertex 2 = .ok (.getfield 165, 3) := by decide +kernel
theorem d_Mo_newVertex_5 : decode b_Mo_newVertex 5 = .ok (.iconst 1, 1) := by decide +kernel
theorem d_Mo_newVertex_6 : decode b_Mo_newVertex 6 = .ok (.iadd, 1) := by decide +kernel
theorem d_Mo_newVertex_7 : decode b_Mo_newVertex 7 = .ok (.putfield 165, 3) := by decide +kernel
theorem d_Mo_newVertex_10 : decode b_Mo_newVertex 10 = .ok (.aload_n 0, 1) := by decide +kernel
theorem d_Mo_newVertex_11 : decode b_Mo_newVertex 11 = .ok (.getfield 7, 3) := by decide +kernel
theorem d_Mo_newVertex_14 : decode b_Mo_newVertex 14 = .ok (.aload_n 0, 1) := by decide +kernel
theorem d_Mo_newVertex_15 : decode b_Mo_newVertex 15 = .ok (.getfield 165, 3) := by decide +kernel
theorem d_Mo_newVertex_18 : decode b_Mo_newVertex 18 = .ok (.iload_n 1, 1) := by decide +kernel
theorem d_Mo_newVertex_19 : decode b_Mo_newVertex 19 = .ok (.iastore, 1) := by decide +kernel
theorem d_Mo_newVertex_20 : decode b_Mo_newVertex 20 = .ok (.aload_n 0, 1) := by decide +kernel
theorem d_Mo_newVertex_21 : decode b_Mo_newVertex 21 = .ok (.getfield 13, 3) := by decide +kernel
theorem d_Mo_newVertex_24 : decode b_Mo_newVertex 24 = .ok (.aload_n 0, 1) := by decide +kernel
theorem d_Mo_newVertex_25 : decode b_Mo_newVertex 25 = .ok (.getfield 165, 3) := by decide +kernel
theorem d_Mo_newVertex_28 : decode b_Mo_newVertex 28 = .ok (.iload_n 2, 1) := by decide +kernel
theorem d_Mo_newVertex_29 : decode b_Mo_newVertex 29 = .ok (.iastore, 1) := by decide +kernel
theorem d_Mo_newVertex_30 : decode b_Mo_newVertex 30 = .ok (.aload_n 0, 1) := by decide +kernel
theorem d_Mo_newVertex_31 : decode b_Mo_newVertex 31 = .ok (.getfield 16, 3) := by decide +kernel
theorem d_Mo_newVertex_34 : decode b_Mo_newVertex 34 = .ok (.aload_n 0, 1) := by decide +kernel
theorem d_Mo_newVertex_35 : decode b_Mo_newVertex 35 = .ok (.getfield 165, 3) := by decide +kernel
theorem d_Mo_newVertex_38 : decode b_Mo_newVertex 38 = .ok (.lload_n 3, 1) := by decide +kernel
theorem d_Mo_newVertex_39 : decode b_Mo_newVertex 39 = .ok (.lastore, 1) := by decide +kernel
theorem d_Mo_newVertex_40 : decode b_Mo_newVertex 40 = .ok (.aload_n 0, 1) := by decide +kernel
theorem d_Mo_newVertex_41 : decode b_Mo_newVertex 41 = .ok (.getfield 20, 3) := by decide +kernel
theorem d_Mo_newVertex_44 : decode b_Mo_newVertex 44 = .ok (.aload_n 0, 1) := by decide +kernel
theorem d_Mo_newVertex_45 : decode b_Mo_newVertex 45 = .ok (.getfield 165, 3) := by decide +kernel
theorem d_Mo_newVertex_48 : decode b_Mo_newVertex 48 = .ok (.iload 5, 2) := by decide +kernel
theorem d_Mo_newVertex_50 : decode b_Mo_newVertex 50 = .ok (.iastore, 1) := by decide +kernel
theorem d_Mo_newVertex_51 : decode b_Mo_newVertex 51 = .ok (.aload_n 0, 1) := by decide +kernel
theorem d_Mo_newVertex_52 : decode b_Mo_newVertex 52 = .ok (.getfield 165, 3) := by decide +kernel
theorem d_Mo_newVertex_55 : decode b_Mo_newVertex 55 = .ok (.ireturn, 1) := by decide +kernel
theorem d_Mo_firstTransfer_0 : decode b_Mo_firstTransfer 0 = .ok (.aload_n 0, 1) := by decide +kernel
theorem d_Mo_firstTransfer_1 : decode b_Mo_firstTransfer 1 = .ok (.getfield 69, 3) := by decide +kernel
theorem d_Mo_firstTransfer_4 : decode b_Mo_firstTransfer 4 = .ok (.iload_n 1, 1) := by decide +kernel
theorem d_Mo_firstTransfer_5 : decode b_Mo_firstTransfer 5 = .ok (.iaload, 1) := by decide +kernel
theorem d_Mo_firstTransfer_6 : decode b_Mo_firstTransfer 6 = .ok (.ifCond .ne 5, 3) := by decide +kernel
theorem d_Mo_firstTransfer_9 : decode b_Mo_firstTransfer 9 = .ok (.iconst 0, 1) := by decide +kernel
theorem d_Mo_firstTransfer_10 : decode b_Mo_firstTransfer 10 = .ok (.ireturn, 1) := by decide +kernel
theorem d_Mo_firstTransfer_11 : decode b_Mo_firstTransfer 11 = .ok (.aload_n 0, 1) := by decide +kernel
theorem d_Mo_firstTransfer_12 : decode b_Mo_firstTransfer 12 = .ok (.getfield 66, 3) := by decide +kernel
theorem d_Mo_firstTransfer_15 : decode b_Mo_firstTransfer 15 = .ok (.bipush 12, 2) := by decide +kernel
theorem d_Mo_firstTransfer_17 : decode b_Mo_firstTransfer 17 = .ok (.iload_n 1, 1) := by decide +kernel
theorem d_Mo_firstTransfer_18 : decode b_Mo_firstTransfer 18 = .ok (.imul, 1) := by decide +kernel
theorem d_Mo_firstTransfer_19 : decode b_Mo_firstTransfer 19 = .ok (.iaload, 1) := by decide +kernel
theorem d_Mo_firstTransfer_20 : decode b_Mo_firstTransfer 20 = .ok (.istore_n 2, 1) := by decide +kernel
theorem d_Mo_firstTransfer_21 : decode b_Mo_firstTransfer 21 = .ok (.aload_n 0, 1) := by decide +kernel
theorem d_Mo_firstTransfer_22 : decode b_Mo_firstTransfer 22 = .ok (.getfield 69, 3) := by decide +kernel
theorem d_Mo_firstTransfer_25 : decode b_Mo_firstTransfer 25 = .ok (.iload_n 1, 1) := by decide +kernel
theorem d_Mo_firstTransfer_26 : decode b_Mo_firstTransfer 26 = .ok (.dup2, 1) := by decide +kernel
theorem d_Mo_firstTransfer_27 : decode b_Mo_firstTransfer 27 = .ok (.iaload, 1) := by decide +kernel
theorem d_Mo_firstTransfer_28 : decode b_Mo_firstTransfer 28 = .ok (.iconst 1, 1) := by decide +kernel
theorem d_Mo_firstTransfer_29 : decode b_Mo_firstTransfer 29 = .ok (.isub, 1) := by decide +kernel
theorem d_Mo_firstTransfer_30 : decode b_Mo_firstTransfer 30 = .ok (.iastore, 1) := by decide +kernel
theorem d_Mo_firstTransfer_31 : decode b_Mo_firstTransfer 31 = .ok (.iconst 0, 1) := by decide +kernel
theorem d_Mo_firstTransfer_32 : decode b_Mo_firstTransfer 32 = .ok (.istore_n 3, 1) := by decide +kernel
theorem d_Mo_firstTransfer_33 : decode b_Mo_firstTransfer 33 = .ok (.iload_n 3, 1) := by decide +kernel
theorem d_Mo_firstTransfer_34 : decode b_Mo_firstTransfer 34 = .ok (.aload_n 0, 1) := by decide +kernel
theorem d_Mo_firstTransfer_35 : decode b_Mo_firstTransfer 35 = .ok (.getfield 69, 3) := by decide +kernel
theorem d_Mo_firstTransfer_38 : decode b_Mo_firstTransfer 38 = .ok (.iload_n 1, 1) := by decide +kernel
theorem d_Mo_firstTransfer_39 : decode b_Mo_firstTransfer 39 = .ok (.iaload, 1) := by decide +kernel
theorem d_Mo_firstTransfer_40 : decode b_Mo_firstTransfer 40 = .ok (.if_icmp .ge 33, 3) := by decide +kernel
theorem d_Mo_firstTransfer_43 : decode b_Mo_firstTransfer 43 = .ok (.aload_n 0, 1) := by decide +kernel
theorem d_Mo_firstTransfer_44 : decode b_Mo_firstTransfer 44 = .ok (.getfield 66, 3) := by decide +kernel
theorem d_Mo_firstTransfer_47 : decode b_Mo_firstTransfer 47 = .ok (.bipush 12, 2) := by decide +kernel
theorem d_Mo_firstTransfer_49 : decode b_Mo_firstTransfer 49 = .ok (.iload_n 1, 1) := by decide +kernel
theorem d_Mo_firstTransfer_50 : decode b_Mo_firstTransfer 50 = .ok (.imul, 1) := by decide +kernel
theorem d_Mo_firstTransfer_51 : decode b_Mo_firstTransfer 51 = .ok (.iload_n 3, 1) := by decide +kernel
theorem d_Mo_firstTransfer_52 : decode b_Mo_firstTransfer 52 = .ok (.iadd, 1) := by decide +kernel
theorem d_Mo_firstTransfer_53 : decode b_Mo_firstTransfer 53 = .ok (.aload_n 0, 1) := by decide +kernel
theorem d_Mo_firstTransfer_54 : decode b_Mo_firstTransfer 54 = .ok (.getfield 66, 3) := by decide +kernel
theorem d_Mo_firstTransfer_57 : decode b_Mo_firstTransfer 57 = .ok (.bipush 12, 2) := by decide +kernel
theorem d_Mo_firstTransfer_59 : decode b_Mo_firstTransfer 59 = .ok (.iload_n 1, 1) := by decide +kernel
theorem d_Mo_firstTransfer_60 : decode b_Mo_firstTransfer 60 = .ok (.imul, 1) := by decide +kernel
theorem d_Mo_firstTransfer_61 : decode b_Mo_firstTransfer 61 = .ok (.iload_n 3, 1) := by decide +kernel
theorem d_Mo_firstTransfer_62 : decode b_Mo_firstTransfer 62 = .ok (.iadd, 1) := by decide +kernel
theorem d_Mo_firstTransfer_63 : decode b_Mo_firstTransfer 63 = .ok (.iconst 1, 1) := by decide +kernel
theorem d_Mo_firstTransfer_64 : decode b_Mo_firstTransfer 64 = .ok (.iadd, 1) := by decide +kernel
theorem d_Mo_firstTransfer_65 : decode b_Mo_firstTransfer 65 = .ok (.iaload, 1) := by decide +kernel
theorem d_Mo_firstTransfer_66 : decode b_Mo_firstTransfer 66 = .ok (.iastore, 1) := by decide +kernel
theorem d_Mo_firstTransfer_67 : decode b_Mo_firstTransfer 67 = .ok (.iinc 3 1, 3) := by decide +kernel
theorem d_Mo_firstTransfer_70 : decode b_Mo_firstTransfer 70 = .ok (.goto (-37), 3) := by decide +kernel
theorem d_Mo_firstTransfer_73 : decode b_Mo_firstTransfer 73 = .ok (.iload_n 2, 1) := by decide +kernel
theorem d_Mo_firstTransfer_74 : decode b_Mo_firstTransfer 74 = .ok (.ireturn, 1) := by decide +kernel
theorem d_Mo_makeVertex_0 : decode b_Mo_makeVertex 0 = .ok (.iload_n 2, 1) := by decide +kernel
theorem d_Mo_makeVertex_1 : decode b_Mo_makeVertex 1 = .ok (.iconst 1, 1) := by decide +kernel
theorem d_Mo_makeVertex_2 : decode b_Mo_makeVertex 2 = .ok (.if_icmp .ne 7, 3) := by decide +kernel
theorem d_Mo_makeVertex_5 : decode b_Mo_makeVertex 5 = .ok (.iconst 0, 1) := by decide +kernel
theorem d_Mo_makeVertex_6 : decode b_Mo_makeVertex 6 = .ok (.goto 11, 3) := by decide +kernel
theorem d_Mo_makeVertex_9 : decode b_Mo_makeVertex 9 = .ok (.aload_n 0, 1) := by decide +kernel
theorem d_Mo_makeVertex_10 : decode b_Mo_makeVertex 10 = .ok (.iload_n 1, 1) := by decide +kernel
theorem d_Mo_makeVertex_11 : decode b_Mo_makeVertex 11 = .ok (.iload_n 2, 1) := by decide +kernel
theorem d_Mo_makeVertex_12 : decode b_Mo_makeVertex 12 = .ok (.iconst 1, 1) := by decide +kernel
theorem d_Mo_makeVertex_13 : decode b_Mo_makeVertex 13 = .ok (.isub, 1) := by decide +kernel
theorem d_Mo_makeVertex_14 : decode b_Mo_makeVertex 14 = .ok (.invokevirtual 168, 3) := by decide +kernel
theorem d_Mo_makeVertex_17 : decode b_Mo_makeVertex 17 = .ok (.istore_n 3, 1) := by decide +kernel
theorem d_Mo_makeVertex_18 : decode b_Mo_makeVertex 18 = .ok (.lconst 0, 1) := by decide +kernel
theorem d_Mo_makeVertex_19 : decode b_Mo_makeVertex 19 = .ok (.lstore 4, 2) := by decide +kernel
theorem d_Mo_makeVertex_21 : decode b_Mo_makeVertex 21 = .ok (.iload_n 2, 1) := by decide +kernel
theorem d_Mo_makeVertex_22 : decode b_Mo_makeVertex 22 = .ok (.iconst 1, 1) := by decide +kernel
theorem d_Mo_makeVertex_23 : decode b_Mo_makeVertex 23 = .ok (.if_icmp .ne 7, 3) := by decide +kernel
theorem d_Mo_makeVertex_26 : decode b_Mo_makeVertex 26 = .ok (.lconst 0, 1) := by decide +kernel
theorem d_Mo_makeVertex_27 : decode b_Mo_makeVertex 27 = .ok (.goto 17, 3) := by decide +kernel
theorem d_Mo_makeVertex_30 : decode b_Mo_makeVertex 30 = .ok (.aload_n 0, 1) := by decide +kernel
theorem d_Mo_makeVertex_31 : decode b_Mo_makeVertex 31 = .ok (.iload_n 1, 1) := by decide +kernel
theorem d_Mo_makeVertex_32 : decode b_Mo_makeVertex 32 = .ok (.iload_n 3, 1) := by decide +kernel
theorem d_Mo_makeVertex_33 : decode b_Mo_makeVertex 33 = .ok (.i2l, 1) := by decide +kernel
theorem d_Mo_makeVertex_34 : decode b_Mo_makeVertex 34 = .ok (.iconst 4, 1) := by decide +kernel
theorem d_Mo_makeVertex_35 : decode b_Mo_makeVertex 35 = .ok (.iload_n 2, 1) := by decide +kernel
theorem d_Mo_makeVertex_36 : decode b_Mo_makeVertex 36 = .ok (.iconst 2, 1) := by decide +kernel
theorem d_Mo_makeVertex_37 : decode b_Mo_makeVertex 37 = .ok (.isub, 1) := by decide +kernel
theorem d_Mo_makeVertex_38 : decode b_Mo_makeVertex 38 = .ok (.imul, 1) := by decide +kernel
theorem d_Mo_makeVertex_39 : decode b_Mo_makeVertex 39 = .ok (.lshl, 1) := by decide +kernel
theorem d_Mo_makeVertex_40 : decode b_Mo_makeVertex 40 = .ok (.iconst 0, 1) := by decide +kernel
theorem d_Mo_makeVertex_41 : decode b_Mo_makeVertex 41 = .ok (.invokevirtual 154, 3) := by decide +kernel
theorem d_Mo_makeVertex_44 : decode b_Mo_makeVertex 44 = .ok (.lstore 6, 2) := by decide +kernel
theorem d_Mo_makeVertex_46 : decode b_Mo_makeVertex 46 = .ok (.iload_n 2, 1) := by decide +kernel
theorem d_Mo_makeVertex_47 : decode b_Mo_makeVertex 47 = .ok (.iconst 2, 1) := by decide +kernel
theorem d_Mo_makeVertex_48 : decode b_Mo_makeVertex 48 = .ok (.isub, 1) := by decide +kernel
theorem d_Mo_makeVertex_49 : decode b_Mo_makeVertex 49 = .ok (.istore 8, 2) := by decide +kernel
theorem d_Mo_makeVertex_51 : decode b_Mo_makeVertex 51 = .ok (.iload 8, 2) := by decide +kernel
theorem d_Mo_makeVertex_53 : decode b_Mo_makeVertex 53 = .ok (.iconst 1, 1) := by decide +kernel
theorem d_Mo_makeVertex_54 : decode b_Mo_makeVertex 54 = .ok (.if_icmp .lt 86, 3) := by decide +kernel
theorem d_Mo_makeVertex_57 : decode b_Mo_makeVertex 57 = .ok (.iconst 0, 1) := by decide +kernel
theorem d_Mo_makeVertex_58 : decode b_Mo_makeVertex 58 = .ok (.istore 9, 2) := by decide +kernel
theorem d_Mo_makeVertex_60 : decode b_Mo_makeVertex 60 = .ok (.iload 9, 2) := by decide +kernel
theorem d_Mo_makeVertex_62 : decode b_Mo_makeVertex 62 = .ok (.iconst 4, 1) := by decide +kernel
theorem d_Mo_makeVertex_63 : decode b_Mo_makeVertex 63 = .ok (.if_icmp .ge 71, 3) := by decide +kernel
theorem d_Mo_makeVertex_66 : decode b_Mo_makeVertex 66 = .ok (.iconst 4, 1) := by decide +kernel
theorem d_Mo_makeVertex_67 : decode b_Mo_makeVertex 67 = .ok (.iload 8, 2) := by decide +kernel
theorem d_Mo_makeVertex_69 : decode b_Mo_makeVertex 69 = .ok (.iconst 1, 1) := by decide +kernel
theorem d_Mo_makeVertex_70 : decode b_Mo_makeVertex 70 = .ok (.isub, 1) := by decide +kernel
theorem d_Mo_makeVertex_71 : decode b_Mo_makeVertex 71 = .ok (.imul, 1) := by decide +kernel
theorem d_Mo_makeVertex_72 : decode b_Mo_makeVertex 72 = .ok (.iload 9, 2) := by decide +kernel
theorem d_Mo_makeVertex_74 : decode b_Mo_makeVertex 74 = .ok (.iadd, 1) := by decide +kernel
theorem d_Mo_makeVertex_75 : decode b_Mo_makeVertex 75 = .ok (.istore 10, 2) := by decide +kernel
theorem d_Mo_makeVertex_77 : decode b_Mo_makeVertex 77 = .ok (.aload_n 0, 1) := by decide +kernel
theorem d_Mo_makeVertex_78 : decode b_Mo_makeVertex 78 = .ok (.getfield 36, 3) := by decide +kernel
theorem d_Mo_makeVertex_81 : decode b_Mo_makeVertex 81 = .ok (.bipush 48, 2) := by decide +kernel
theorem d_Mo_makeVertex_83 : decode b_Mo_makeVertex 83 = .ok (.iload_n 1, 1) := by decide +kernel
theorem d_Mo_makeVertex_84 : decode b_Mo_makeVertex 84 = .ok (.imul, 1) := by decide +kernel
theorem d_Mo_makeVertex_85 : decode b_Mo_makeVertex 85 = .ok (.iload 10, 2) := by decide +kernel
theorem d_Mo_makeVertex_87 : decode b_Mo_makeVertex 87 = .ok (.iadd, 1) := by decide +kernel
theorem d_Mo_makeVertex_88 : decode b_Mo_makeVertex 88 = .ok (.baload, 1) := by decide +kernel
theorem d_Mo_makeVertex_89 : decode b_Mo_makeVertex 89 = .ok (.ifCond .eq 39, 3) := by decide +kernel
theorem d_Mo_makeVertex_92 : decode b_Mo_makeVertex 92 = .ok (.lload 6, 2) := by decide +kernel
theorem d_Mo_makeVertex_94 : decode b_Mo_makeVertex 94 = .ok (.iload 10, 2) := by decide +kernel
theorem d_Mo_makeVertex_96 : decode b_Mo_makeVertex 96 = .ok (.lshr, 1) := by decide +kernel
theorem d_Mo_makeVertex_97 : decode b_Mo_makeVertex 97 = .ok (.lconst 1, 1) := by decide +kernel
theorem d_Mo_makeVertex_98 : decode b_Mo_makeVertex 98 = .ok (.land, 1) := by decide +kernel
theorem d_Mo_makeVertex_99 : decode b_Mo_makeVertex 99 = .ok (.lconst 0, 1) := by decide +kernel
theorem d_Mo_makeVertex_100 : decode b_Mo_makeVertex 100 = .ok (.lcmp, 1) := by decide +kernel
theorem d_Mo_makeVertex_101 : decode b_Mo_makeVertex 101 = .ok (.ifCond .ne 27, 3) := by decide +kernel
theorem d_Mo_makeVertex_104 : decode b_Mo_makeVertex 104 = .ok (.lload 4, 2) := by decide +kernel
theorem d_Mo_makeVertex_106 : decode b_Mo_makeVertex 106 = .ok (.lconst 1, 1) := by decide +kernel
theorem d_Mo_makeVertex_107 : decode b_Mo_makeVertex 107 = .ok (.iload 10, 2) := by decide +kernel
theorem d_Mo_makeVertex_109 : decode b_Mo_makeVertex 109 = .ok (.lshl, 1) := by decide +kernel
theorem d_Mo_makeVertex_110 : decode b_Mo_makeVertex 110 = .ok (.lor, 1) := by decide +kernel
theorem d_Mo_makeVertex_111 : decode b_Mo_makeVertex 111 = .ok (.lstore 4, 2) := by decide +kernel
theorem d_Mo_makeVertex_113 : decode b_Mo_makeVertex 113 = .ok (.aload_n 0, 1) := by decide +kernel
theorem d_Mo_makeVertex_114 : decode b_Mo_makeVertex 114 = .ok (.iload_n 1, 1) := by decide +kernel
theorem d_Mo_makeVertex_115 : decode b_Mo_makeVertex 115 = .ok (.lload 6, 2) := by decide +kernel
theorem d_Mo_makeVertex_117 : decode b_Mo_makeVertex 117 = .ok (.lconst 1, 1) := by decide +kernel
theorem d_Mo_makeVertex_118 : decode b_Mo_makeVertex 118 = .ok (.iload 10, 2) := by decide +kernel
theorem d_Mo_makeVertex_120 : decode b_Mo_makeVertex 120 = .ok (.lshl, 1) := by decide +kernel
theorem d_Mo_makeVertex_121 : decode b_Mo_makeVertex 121 = .ok (.lor, 1) := by decide +kernel
theorem d_Mo_makeVertex_122 : decode b_Mo_makeVertex 122 = .ok (.iconst 0, 1) := by decide +kernel
theorem d_Mo_makeVertex_123 : decode b_Mo_makeVertex 123 = .ok (.invokevirtual 154, 3) := by decide +kernel
theorem d_Mo_makeVertex_126 : decode b_Mo_makeVertex 126 = .ok (.lstore 6, 2) := by decide +kernel
theorem d_Mo_makeVertex_128 : decode b_Mo_makeVertex 128 = .ok (.iinc 9 1, 3) := by decide +kernel
theorem d_Mo_makeVertex_131 : decode b_Mo_makeVertex 131 = .ok (.goto (-71), 3) := by decide +kernel
theorem d_Mo_makeVertex_134 : decode b_Mo_makeVertex 134 = .ok (.iinc 8 (-1), 3) := by decide +kernel
theorem d_Mo_makeVertex_137 : decode b_Mo_makeVertex 137 = .ok (.goto (-86), 3) := by decide +kernel
theorem d_Mo_makeVertex_140 : decode b_Mo_makeVertex 140 = .ok (.aload_n 0, 1) := by decide +kernel
theorem d_Mo_makeVertex_141 : decode b_Mo_makeVertex 141 = .ok (.iload_n 1, 1) := by decide +kernel
theorem d_Mo_makeVertex_142 : decode b_Mo_makeVertex 142 = .ok (.invokevirtual 172, 3) := by decide +kernel
theorem d_Mo_makeVertex_145 : decode b_Mo_makeVertex 145 = .ok (.istore 8, 2) := by decide +kernel
theorem d_Mo_makeVertex_147 : decode b_Mo_makeVertex 147 = .ok (.aload_n 0, 1) := by decide +kernel
theorem d_Mo_makeVertex_148 : decode b_Mo_makeVertex 148 = .ok (.iconst 4, 1) := by decide +kernel
theorem d_Mo_makeVertex_149 : decode b_Mo_makeVertex 149 = .ok (.iload_n 2, 1) := by decide +kernel
theorem d_Mo_makeVertex_150 : decode b_Mo_makeVertex 150 = .ok (.iconst 1, 1) := by decide +kernel
theorem d_Mo_makeVertex_151 : decode b_Mo_makeVertex 151 = .ok (.isub, 1) := by decide +kernel
theorem d_Mo_makeVertex_152 : decode b_Mo_makeVertex 152 = .ok (.imul, 1) := by decide +kernel
theorem d_Mo_makeVertex_153 : decode b_Mo_makeVertex 153 = .ok (.iload_n 1, 1) := by decide +kernel
theorem d_Mo_makeVertex_154 : decode b_Mo_makeVertex 154 = .ok (.iadd, 1) := by decide +kernel
theorem d_Mo_makeVertex_155 : decode b_Mo_makeVertex 155 = .ok (.iload_n 3, 1) := by decide +kernel
theorem d_Mo_makeVertex_156 : decode b_Mo_makeVertex 156 = .ok (.lload 4, 2) := by decide +kernel
theorem d_Mo_makeVertex_158 : decode b_Mo_makeVertex 158 = .ok (.iload 8, 2) := by decide +kernel
theorem d_Mo_makeVertex_160 : decode b_Mo_makeVertex 160 = .ok (.invokevirtual 175, 3) := by decide +kernel
theorem d_Mo_makeVertex_163 : decode b_Mo_makeVertex 163 = .ok (.istore 9, 2) := by decide +kernel
theorem d_Mo_makeVertex_165 : decode b_Mo_makeVertex 165 = .ok (.aload_n 0, 1) := by decide +kernel
theorem d_Mo_makeVertex_166 : decode b_Mo_makeVertex 166 = .ok (.iconst 0, 1) := by decide +kernel
theorem d_Mo_makeVertex_167 : decode b_Mo_makeVertex 167 = .ok (.iload_n 1, 1) := by decide +kernel
theorem d_Mo_makeVertex_168 : decode b_Mo_makeVertex 168 = .ok (.iload 9, 2) := by decide +kernel
theorem d_Mo_makeVertex_170 : decode b_Mo_makeVertex 170 = .ok (.invokevirtual 120, 3) := by decide +kernel
theorem d_Mo_makeVertex_173 : decode b_Mo_makeVertex 173 = .ok (.return_, 1) := by decide +kernel
end
section
theorem d_Mo_isFull_0 : decode b_Mo_isFull 0 = .ok (.aload_n 0, 1) := by decide +kernel
theorem d_Mo_isFull_1 : decode b_Mo_isFull 1 = .ok (.getfield 51, 3) := by decide +kernel
theorem d_Mo_isFull_4 : decode b_Mo_isFull 4 = .ok (.iload_n 1, 1) := by decide +kernel
theorem d_Mo_isFull_5 : decode b_Mo_isFull 5 = .ok (.iaload, 1) := by decide +kernel
theorem d_Mo_isFull_6 : decode b_Mo_isFull 6 = .ok (.ifCond .eq 21, 3) := by decide +kernel
theorem d_Mo_isFull_9 : decode b_Mo_isFull 9 = .ok (.aload_n 0, 1) := by decide +kernel
theorem d_Mo_isFull_10 : decode b_Mo_isFull 10 = .ok (.iload_n 1, 1) := by decide +kernel
theorem d_Mo_isFull_11 : decode b_Mo_isFull 11 = .ok (.aload_n 0, 1) := by decide +kernel
theorem d_Mo_isFull_12 : decode b_Mo_isFull 12 = .ok (.getfield 51, 3) := by decide +kernel
theorem d_Mo_isFull_15 : decode b_Mo_isFull 15 = .ok (.iload_n 1, 1) := by decide +kernel
theorem d_Mo_isFull_16 : decode b_Mo_isFull 16 = .ok (.iaload, 1) := by decide +kernel
theorem d_Mo_isFull_17 : decode b_Mo_isFull 17 = .ok (.invokevirtual 168, 3) := by decide +kernel
theorem d_Mo_isFull_20 : decode b_Mo_isFull 20 = .ok (.invokestatic 134, 3) := by decide +kernel
theorem d_Mo_isFull_23 : decode b_Mo_isFull 23 = .ok (.iconst 3, 1) := by decide +kernel
theorem d_Mo_isFull_24 : decode b_Mo_isFull 24 = .ok (.if_icmp .lt 7, 3) := by decide +kernel
theorem d_Mo_isFull_27 : decode b_Mo_isFull 27 = .ok (.iconst 1, 1) := by decide +kernel
theorem d_Mo_isFull_28 : decode b_Mo_isFull 28 = .ok (.goto 4, 3) := by decide +kernel
theorem d_Mo_isFull_31 : decode b_Mo_isFull 31 = .ok (.iconst 0, 1) := by decide +kernel
theorem d_Mo_isFull_32 : decode b_Mo_isFull 32 = .ok (.ireturn, 1) := by decide +kernel
theorem d_Mo_goesOn_0 : decode b_Mo_goesOn 0 = .ok (.aload_n 0, 1) := by decide +kernel
theorem d_Mo_goesOn_1 : decode b_Mo_goesOn 1 = .ok (.getfield 51, 3) := by decide +kernel
theorem d_Mo_goesOn_4 : decode b_Mo_goesOn 4 = .ok (.iload_n 1, 1) := by decide +kernel
theorem d_Mo_goesOn_5 : decode b_Mo_goesOn 5 = .ok (.iaload, 1) := by decide +kernel
theorem d_Mo_goesOn_6 : decode b_Mo_goesOn 6 = .ok (.bipush 12, 2) := by decide +kernel
theorem d_Mo_goesOn_8 : decode b_Mo_goesOn 8 = .ok (.if_icmp .ge 60, 3) := by decide +kernel
theorem d_Mo_goesOn_11 : decode b_Mo_goesOn 11 = .ok (.aload_n 0, 1) := by decide +kernel
theorem d_Mo_goesOn_12 : decode b_Mo_goesOn 12 = .ok (.iload_n 1, 1) := by decide +kernel
theorem d_Mo_goesOn_13 : decode b_Mo_goesOn 13 = .ok (.invokevirtual 179, 3) := by decide +kernel
theorem d_Mo_goesOn_16 : decode b_Mo_goesOn 16 = .ok (.ifCond .eq 52, 3) := by decide +kernel
theorem d_Mo_goesOn_19 : decode b_Mo_goesOn 19 = .ok (.aload_n 0, 1) := by decide +kernel
theorem d_Mo_goesOn_20 : decode b_Mo_goesOn 20 = .ok (.getfield 51, 3) := by decide +kernel
theorem d_Mo_goesOn_23 : decode b_Mo_goesOn 23 = .ok (.iload_n 1, 1) := by decide +kernel
theorem d_Mo_goesOn_24 : decode b_Mo_goesOn 24 = .ok (.iaload, 1) := by decide +kernel
theorem d_Mo_goesOn_25 : decode b_Mo_goesOn 25 = .ok (.istore_n 2, 1) := by decide +kernel
theorem d_Mo_goesOn_26 : decode b_Mo_goesOn 26 = .ok (.iload_n 2, 1) := by decide +kernel
theorem d_Mo_goesOn_27 : decode b_Mo_goesOn 27 = .ok (.ifCond .le 17, 3) := by decide +kernel
theorem d_Mo_goesOn_30 : decode b_Mo_goesOn 30 = .ok (.iload_n 2, 1) := by decide +kernel
theorem d_Mo_goesOn_31 : decode b_Mo_goesOn 31 = .ok (.iconst 4, 1) := by decide +kernel
theorem d_Mo_goesOn_32 : decode b_Mo_goesOn 32 = .ok (.irem, 1) := by decide +kernel
theorem d_Mo_goesOn_33 : decode b_Mo_goesOn 33 = .ok (.ifCond .ne 11, 3) := by decide +kernel
theorem d_Mo_goesOn_36 : decode b_Mo_goesOn 36 = .ok (.aload_n 0, 1) := by decide +kernel
theorem d_Mo_goesOn_37 : decode b_Mo_goesOn 37 = .ok (.iload_n 1, 1) := by decide +kernel
theorem d_Mo_goesOn_38 : decode b_Mo_goesOn 38 = .ok (.iload_n 2, 1) := by decide +kernel
theorem d_Mo_goesOn_39 : decode b_Mo_goesOn 39 = .ok (.iconst 4, 1) := by decide +kernel
theorem d_Mo_goesOn_40 : decode b_Mo_goesOn 40 = .ok (.idiv, 1) := by decide +kernel
theorem d_Mo_goesOn_41 : decode b_Mo_goesOn 41 = .ok (.invokevirtual 182, 3) := by decide +kernel
theorem d_Mo_goesOn_44 : decode b_Mo_goesOn 44 = .ok (.aload_n 0, 1) := by decide +kernel
theorem d_Mo_goesOn_45 : decode b_Mo_goesOn 45 = .ok (.getfield 51, 3) := by decide +kernel
theorem d_Mo_goesOn_48 : decode b_Mo_goesOn 48 = .ok (.iload_n 1, 1) := by decide +kernel
theorem d_Mo_goesOn_49 : decode b_Mo_goesOn 49 = .ok (.dup2, 1) := by decide +kernel
theorem d_Mo_goesOn_50 : decode b_Mo_goesOn 50 = .ok (.iaload, 1) := by decide +kernel
theorem d_Mo_goesOn_51 : decode b_Mo_goesOn 51 = .ok (.iconst 1, 1) := by decide +kernel
theorem d_Mo_goesOn_52 : decode b_Mo_goesOn 52 = .ok (.iadd, 1) := by decide +kernel
theorem d_Mo_goesOn_53 : decode b_Mo_goesOn 53 = .ok (.iastore, 1) := by decide +kernel
theorem d_Mo_goesOn_54 : decode b_Mo_goesOn 54 = .ok (.aload_n 0, 1) := by decide +kernel
theorem d_Mo_goesOn_55 : decode b_Mo_goesOn 55 = .ok (.iload_n 1, 1) := by decide +kernel
theorem d_Mo_goesOn_56 : decode b_Mo_goesOn 56 = .ok (.aload_n 0, 1) := by decide +kernel
theorem d_Mo_goesOn_57 : decode b_Mo_goesOn 57 = .ok (.getfield 51, 3) := by decide +kernel
theorem d_Mo_goesOn_60 : decode b_Mo_goesOn 60 = .ok (.iload_n 1, 1) := by decide +kernel
theorem d_Mo_goesOn_61 : decode b_Mo_goesOn 61 = .ok (.iaload, 1) := by decide +kernel
theorem d_Mo_goesOn_62 : decode b_Mo_goesOn 62 = .ok (.invokevirtual 185, 3) := by decide +kernel
theorem d_Mo_goesOn_65 : decode b_Mo_goesOn 65 = .ok (.goto (-65), 3) := by decide +kernel
theorem d_Mo_goesOn_68 : decode b_Mo_goesOn 68 = .ok (.aload_n 0, 1) := by decide +kernel
theorem d_Mo_goesOn_69 : decode b_Mo_goesOn 69 = .ok (.getfield 51, 3) := by decide +kernel
theorem d_Mo_goesOn_72 : decode b_Mo_goesOn 72 = .ok (.iload_n 1, 1) := by decide +kernel
theorem d_Mo_goesOn_73 : decode b_Mo_goesOn 73 = .ok (.iaload, 1) := by decide +kernel
theorem d_Mo_goesOn_74 : decode b_Mo_goesOn 74 = .ok (.bipush 12, 2) := by decide +kernel
theorem d_Mo_goesOn_76 : decode b_Mo_goesOn 76 = .ok (.if_icmp .ne 33, 3) := by decide +kernel
theorem d_Mo_goesOn_79 : decode b_Mo_goesOn 79 = .ok (.aload_n 0, 1) := by decide +kernel
theorem d_Mo_goesOn_80 : decode b_Mo_goesOn 80 = .ok (.getfield 54, 3) := by decide +kernel
theorem d_Mo_goesOn_83 : decode b_Mo_goesOn 83 = .ok (.iload_n 1, 1) := by decide +kernel
theorem d_Mo_goesOn_84 : decode b_Mo_goesOn 84 = .ok (.baload, 1) := by decide +kernel
theorem d_Mo_goesOn_85 : decode b_Mo_goesOn 85 = .ok (.ifCond .ne 24, 3) := by decide +kernel
theorem d_Mo_goesOn_88 : decode b_Mo_goesOn 88 = .ok (.aload_n 0, 1) := by decide +kernel
theorem d_Mo_goesOn_89 : decode b_Mo_goesOn 89 = .ok (.iload_n 1, 1) := by decide +kernel
theorem d_Mo_goesOn_90 : decode b_Mo_goesOn 90 = .ok (.invokevirtual 179, 3) := by decide +kernel
theorem d_Mo_goesOn_93 : decode b_Mo_goesOn 93 = .ok (.ifCond .eq 16, 3) := by decide +kernel
theorem d_Mo_goesOn_96 : decode b_Mo_goesOn 96 = .ok (.aload_n 0, 1) := by decide +kernel
theorem d_Mo_goesOn_97 : decode b_Mo_goesOn 97 = .ok (.getfield 54, 3) := by decide +kernel
theorem d_Mo_goesOn_100 : decode b_Mo_goesOn 100 = .ok (.iload_n 1, 1) := by decide +kernel
theorem d_Mo_goesOn_101 : decode b_Mo_goesOn 101 = .ok (.iconst 1, 1) := by decide +kernel
theorem d_Mo_goesOn_102 : decode b_Mo_goesOn 102 = .ok (.bastore, 1) := by decide +kernel
theorem d_Mo_goesOn_103 : decode b_Mo_goesOn 103 = .ok (.aload_n 0, 1) := by decide +kernel
theorem d_Mo_goesOn_104 : decode b_Mo_goesOn 104 = .ok (.iload_n 1, 1) := by decide +kernel
theorem d_Mo_goesOn_105 : decode b_Mo_goesOn 105 = .ok (.iconst 3, 1) := by decide +kernel
theorem d_Mo_goesOn_106 : decode b_Mo_goesOn 106 = .ok (.invokevirtual 182, 3) := by decide +kernel
theorem d_Mo_goesOn_109 : decode b_Mo_goesOn 109 = .ok (.return_, 1) := by decide +kernel
theorem d_Mo_isTransfer_0 : decode b_Mo_isTransfer 0 = .ok (.iload_n 1, 1) := by decide +kernel
theorem d_Mo_isTransfer_1 : decode b_Mo_isTransfer 1 = .ok (.invokestatic 88, 3) := by decide +kernel
theorem d_Mo_isTransfer_4 : decode b_Mo_isTransfer 4 = .ok (.ifCond .eq 25, 3) := by decide +kernel
theorem d_Mo_isTransfer_7 : decode b_Mo_isTransfer 7 = .ok (.iload_n 2, 1) := by decide +kernel
theorem d_Mo_isTransfer_8 : decode b_Mo_isTransfer 8 = .ok (.invokestatic 88, 3) := by decide +kernel
theorem d_Mo_isTransfer_11 : decode b_Mo_isTransfer 11 = .ok (.ifCond .eq 18, 3) := by decide +kernel
theorem d_Mo_isTransfer_14 : decode b_Mo_isTransfer 14 = .ok (.iload_n 0, 1) := by decide +kernel
theorem d_Mo_isTransfer_15 : decode b_Mo_isTransfer 15 = .ok (.iconst 1, 1) := by decide +kernel
theorem d_Mo_isTransfer_16 : decode b_Mo_isTransfer 16 = .ok (.if_icmp .lt 13, 3) := by decide +kernel
theorem d_Mo_isTransfer_19 : decode b_Mo_isTransfer 19 = .ok (.iload_n 0, 1) := by decide +kernel
theorem d_Mo_isTransfer_20 : decode b_Mo_isTransfer 20 = .ok (.bipush 99, 2) := by decide +kernel
theorem d_Mo_isTransfer_22 : decode b_Mo_isTransfer 22 = .ok (.if_icmp .gt 7, 3) := by decide +kernel
theorem d_Mo_isTransfer_25 : decode b_Mo_isTransfer 25 = .ok (.iconst 1, 1) := by decide +kernel
theorem d_Mo_isTransfer_26 : decode b_Mo_isTransfer 26 = .ok (.goto 4, 3) := by decide +kernel
theorem d_Mo_isTransfer_29 : decode b_Mo_isTransfer 29 = .ok (.iconst 0, 1) := by decide +kernel
theorem d_Mo_isTransfer_30 : decode b_Mo_isTransfer 30 = .ok (.ireturn, 1) := by decide +kernel
theorem d_Mo_transfer_0 : decode b_Mo_transfer 0 = .ok (.aload_n 0, 1) := by decide +kernel
theorem d_Mo_transfer_1 : decode b_Mo_transfer 1 = .ok (.iconst 0, 1) := by decide +kernel
theorem d_Mo_transfer_2 : decode b_Mo_transfer 2 = .ok (.putfield 85, 3) := by decide +kernel
theorem d_Mo_transfer_5 : decode b_Mo_transfer 5 = .ok (.iload_n 1, 1) := by decide +kernel
theorem d_Mo_transfer_6 : decode b_Mo_transfer 6 = .ok (.invokestatic 88, 3) := by decide +kernel
theorem d_Mo_transfer_9 : decode b_Mo_transfer 9 = .ok (.ifCond .eq 21, 3) := by decide +kernel
theorem d_Mo_transfer_12 : decode b_Mo_transfer 12 = .ok (.aload_n 0, 1) := by decide +kernel
theorem d_Mo_transfer_13 : decode b_Mo_transfer 13 = .ok (.iload_n 1, 1) := by decide +kernel
theorem d_Mo_transfer_14 : decode b_Mo_transfer 14 = .ok (.invokevirtual 93, 3) := by decide +kernel
theorem d_Mo_transfer_17 : decode b_Mo_transfer 17 = .ok (.ifCond .ne 13, 3) := by decide +kernel
theorem d_Mo_transfer_20 : decode b_Mo_transfer 20 = .ok (.iload 4, 2) := by decide +kernel
theorem d_Mo_transfer_22 : decode b_Mo_transfer 22 = .ok (.iload_n 2, 1) := by decide +kernel
theorem d_Mo_transfer_23 : decode b_Mo_transfer 23 = .ok (.iload_n 3, 1) := by decide +kernel
theorem d_Mo_transfer_24 : decode b_Mo_transfer 24 = .ok (.invokestatic 188, 3) := by decide +kernel
theorem d_Mo_transfer_27 : decode b_Mo_transfer 27 = .ok (.ifCond .ne 9, 3) := by decide +kernel
theorem d_Mo_transfer_30 : decode b_Mo_transfer 30 = .ok (.aload_n 0, 1) := by decide +kernel
theorem d_Mo_transfer_31 : decode b_Mo_transfer 31 = .ok (.iconst 1, 1) := by decide +kernel
theorem d_Mo_transfer_32 : decode b_Mo_transfer 32 = .ok (.invokevirtual 192, 3) := by decide +kernel
theorem d_Mo_transfer_35 : decode b_Mo_transfer 35 = .ok (.ireturn, 1) := by decide +kernel
theorem d_Mo_transfer_36 : decode b_Mo_transfer 36 = .ok (.aload_n 0, 1) := by decide +kernel
theorem d_Mo_transfer_37 : decode b_Mo_transfer 37 = .ok (.getfield 69, 3) := by decide +kernel
theorem d_Mo_transfer_40 : decode b_Mo_transfer 40 = .ok (.iload_n 1, 1) := by decide +kernel
theorem d_Mo_transfer_41 : decode b_Mo_transfer 41 = .ok (.iaload, 1) := by decide +kernel
theorem d_Mo_transfer_42 : decode b_Mo_transfer 42 = .ok (.bipush 12, 2) := by decide +kernel
theorem d_Mo_transfer_44 : decode b_Mo_transfer 44 = .ok (.if_icmp .ne 9, 3) := by decide +kernel
theorem d_Mo_transfer_47 : decode b_Mo_transfer 47 = .ok (.aload_n 0, 1) := by decide +kernel
theorem d_Mo_transfer_48 : decode b_Mo_transfer 48 = .ok (.iconst 2, 1) := by decide +kernel
theorem d_Mo_transfer_49 : decode b_Mo_transfer 49 = .ok (.invokevirtual 192, 3) := by decide +kernel
theorem d_Mo_transfer_52 : decode b_Mo_transfer 52 = .ok (.ireturn, 1) := by decide +kernel
theorem d_Mo_transfer_53 : decode b_Mo_transfer 53 = .ok (.aload_n 0, 1) := by decide +kernel
theorem d_Mo_transfer_54 : decode b_Mo_transfer 54 = .ok (.getfield 66, 3) := by decide +kernel
theorem d_Mo_transfer_57 : decode b_Mo_transfer 57 = .ok (.bipush 12, 2) := by decide +kernel
theorem d_Mo_transfer_59 : decode b_Mo_transfer 59 = .ok (.iload_n 1, 1) := by decide +kernel
theorem d_Mo_transfer_60 : decode b_Mo_transfer 60 = .ok (.imul, 1) := by decide +kernel
theorem d_Mo_transfer_61 : decode b_Mo_transfer 61 = .ok (.aload_n 0, 1) := by decide +kernel
theorem d_Mo_transfer_62 : decode b_Mo_transfer 62 = .ok (.getfield 69, 3) := by decide +kernel
theorem d_Mo_transfer_65 : decode b_Mo_transfer 65 = .ok (.iload_n 1, 1) := by decide +kernel
theorem d_Mo_transfer_66 : decode b_Mo_transfer 66 = .ok (.iaload, 1) := by decide +kernel
theorem d_Mo_transfer_67 : decode b_Mo_transfer 67 = .ok (.iadd, 1) := by decide +kernel
theorem d_Mo_transfer_68 : decode b_Mo_transfer 68 = .ok (.sipush 1000, 3) := by decide +kernel
theorem d_Mo_transfer_71 : decode b_Mo_transfer 71 = .ok (.iload 4, 2) := by decide +kernel
theorem d_Mo_transfer_73 : decode b_Mo_transfer 73 = .ok (.imul, 1) := by decide +kernel
theorem d_Mo_transfer_74 : decode b_Mo_transfer 74 = .ok (.bipush 10, 2) := by decide +kernel
theorem d_Mo_transfer_76 : decode b_Mo_transfer 76 = .ok (.iload_n 2, 1) := by decide +kernel
theorem d_Mo_transfer_77 : decode b_Mo_transfer 77 = .ok (.imul, 1) := by decide +kernel
theorem d_Mo_transfer_78 : decode b_Mo_transfer 78 = .ok (.iadd, 1) := by decide +kernel
theorem d_Mo_transfer_79 : decode b_Mo_transfer 79 = .ok (.iload_n 3, 1) := by decide +kernel
theorem d_Mo_transfer_80 : decode b_Mo_transfer 80 = .ok (.iadd, 1) := by decide +kernel
theorem d_Mo_transfer_81 : decode b_Mo_transfer 81 = .ok (.iastore, 1) := by decide +kernel
theorem d_Mo_transfer_82 : decode b_Mo_transfer 82 = .ok (.aload_n 0, 1) := by decide +kernel
theorem d_Mo_transfer_83 : decode b_Mo_transfer 83 = .ok (.getfield 69, 3) := by decide +kernel
theorem d_Mo_transfer_86 : decode b_Mo_transfer 86 = .ok (.iload_n 1, 1) := by decide +kernel
theorem d_Mo_transfer_87 : decode b_Mo_transfer 87 = .ok (.dup2, 1) := by decide +kernel
theorem d_Mo_transfer_88 : decode b_Mo_transfer 88 = .ok (.iaload, 1) := by decide +kernel
theorem d_Mo_transfer_89 : decode b_Mo_transfer 89 = .ok (.iconst 1, 1) := by decide +kernel
theorem d_Mo_transfer_90 : decode b_Mo_transfer 90 = .ok (.iadd, 1) := by decide +kernel
theorem d_Mo_transfer_91 : decode b_Mo_transfer 91 = .ok (.iastore, 1) := by decide +kernel
theorem d_Mo_transfer_92 : decode b_Mo_transfer 92 = .ok (.aload_n 0, 1) := by decide +kernel
theorem d_Mo_transfer_93 : decode b_Mo_transfer 93 = .ok (.getfield 69, 3) := by decide +kernel
theorem d_Mo_transfer_96 : decode b_Mo_transfer 96 = .ok (.iload_n 1, 1) := by decide +kernel
theorem d_Mo_transfer_97 : decode b_Mo_transfer 97 = .ok (.iaload, 1) := by decide +kernel
theorem d_Mo_transfer_98 : decode b_Mo_transfer 98 = .ok (.ireturn, 1) := by decide +kernel
theorem d_Mo_begin_0 : decode b_Mo_begin 0 = .ok (.aload_n 0, 1) := by decide +kernel
theorem d_Mo_begin_1 : decode b_Mo_begin 1 = .ok (.iconst 0, 1) := by decide +kernel
theorem d_Mo_begin_2 : decode b_Mo_begin 2 = .ok (.putfield 85, 3) := by decide +kernel
theorem d_Mo_begin_5 : decode b_Mo_begin 5 = .ok (.aload_n 0, 1) := by decide +kernel
theorem d_Mo_begin_6 : decode b_Mo_begin 6 = .ok (.getfield 112, 3) := by decide +kernel
theorem d_Mo_begin_9 : decode b_Mo_begin 9 = .ok (.ifCond .eq 5, 3) := by decide +kernel
theorem d_Mo_begin_12 : decode b_Mo_begin 12 = .ok (.iconst 0, 1) := by decide +kernel
theorem d_Mo_begin_13 : decode b_Mo_begin 13 = .ok (.ireturn, 1) := by decide +kernel
theorem d_Mo_begin_14 : decode b_Mo_begin 14 = .ok (.aload_n 0, 1) := by decide +kernel
theorem d_Mo_begin_15 : decode b_Mo_begin 15 = .ok (.iconst 1, 1) := by decide +kernel
theorem d_Mo_begin_16 : decode b_Mo_begin 16 = .ok (.putfield 112, 3) := by decide +kernel
theorem d_Mo_begin_19 : decode b_Mo_begin 19 = .ok (.iconst 0, 1) := by decide +kernel
theorem d_Mo_begin_20 : decode b_Mo_begin 20 = .ok (.istore_n 1, 1) := by decide +kernel
theorem d_Mo_begin_21 : decode b_Mo_begin 21 = .ok (.iload_n 1, 1) := by decide +kernel
theorem d_Mo_begin_22 : decode b_Mo_begin 22 = .ok (.iconst 4, 1) := by decide +kernel
theorem d_Mo_begin_23 : decode b_Mo_begin 23 = .ok (.if_icmp .ge 22, 3) := by decide +kernel
theorem d_Mo_begin_26 : decode b_Mo_begin 26 = .ok (.aload_n 0, 1) := by decide +kernel
theorem d_Mo_begin_27 : decode b_Mo_begin 27 = .ok (.iload_n 1, 1) := by decide +kernel
theorem d_Mo_begin_28 : decode b_Mo_begin 28 = .ok (.invokevirtual 93, 3) := by decide +kernel
theorem d_Mo_begin_31 : decode b_Mo_begin 31 = .ok (.ifCond .ne 8, 3) := by decide +kernel
theorem d_Mo_begin_34 : decode b_Mo_begin 34 = .ok (.aload_n 0, 1) := by decide +kernel
theorem d_Mo_begin_35 : decode b_Mo_begin 35 = .ok (.iload_n 1, 1) := by decide +kernel
theorem d_Mo_begin_36 : decode b_Mo_begin 36 = .ok (.invokevirtual 116, 3) := by decide +kernel
theorem d_Mo_begin_39 : decode b_Mo_begin 39 = .ok (.iinc 1 1, 3) := by decide +kernel
theorem d_Mo_begin_42 : decode b_Mo_begin 42 = .ok (.goto (-21), 3) := by decide +kernel
theorem d_Mo_begin_45 : decode b_Mo_begin 45 = .ok (.iconst 1, 1) := by decide +kernel
theorem d_Mo_begin_46 : decode b_Mo_begin 46 = .ok (.ireturn, 1) := by decide +kernel
theorem d_Mo_run_0 : decode b_Mo_run 0 = .ok (.aload_n 0, 1) := by decide +kernel
theorem d_Mo_run_1 : decode b_Mo_run 1 = .ok (.iconst 0, 1) := by decide +kernel
theorem d_Mo_run_2 : decode b_Mo_run 2 = .ok (.putfield 85, 3) := by decide +kernel
theorem d_Mo_run_5 : decode b_Mo_run 5 = .ok (.iload_n 1, 1) := by decide +kernel
theorem d_Mo_run_6 : decode b_Mo_run 6 = .ok (.ifCond .lt 9, 3) := by decide +kernel
theorem d_Mo_run_9 : decode b_Mo_run 9 = .ok (.iload_n 1, 1) := by decide +kernel
theorem d_Mo_run_10 : decode b_Mo_run 10 = .ok (.bipush 100, 2) := by decide +kernel
theorem d_Mo_run_12 : decode b_Mo_run 12 = .ok (.if_icmp .le 9, 3) := by decide +kernel
theorem d_Mo_run_15 : decode b_Mo_run 15 = .ok (.aload_n 0, 1) := by decide +kernel
theorem d_Mo_run_16 : decode b_Mo_run 16 = .ok (.iconst 1, 1) := by decide +kernel
theorem d_Mo_run_17 : decode b_Mo_run 17 = .ok (.invokevirtual 192, 3) := by decide +kernel
theorem d_Mo_run_20 : decode b_Mo_run 20 = .ok (.ireturn, 1) := by decide +kernel
theorem d_Mo_run_21 : decode b_Mo_run 21 = .ok (.iconst 0, 1) := by decide +kernel
theorem d_Mo_run_22 : decode b_Mo_run 22 = .ok (.istore_n 2, 1) := by decide +kernel
theorem d_Mo_run_23 : decode b_Mo_run 23 = .ok (.iload_n 2, 1) := by decide +kernel
theorem d_Mo_run_24 : decode b_Mo_run 24 = .ok (.iload_n 1, 1) := by decide +kernel
theorem d_Mo_run_25 : decode b_Mo_run 25 = .ok (.if_icmp .ge 30, 3) := by decide +kernel
theorem d_Mo_run_28 : decode b_Mo_run 28 = .ok (.aload_n 0, 1) := by decide +kernel
theorem d_Mo_run_29 : decode b_Mo_run 29 = .ok (.getfield 96, 3) := by decide +kernel
theorem d_Mo_run_32 : decode b_Mo_run 32 = .ok (.ifCond .le 23, 3) := by decide +kernel
theorem d_Mo_run_35 : decode b_Mo_run 35 = .ok (.aload_n 0, 1) := by decide +kernel
theorem d_Mo_run_36 : decode b_Mo_run 36 = .ok (.aload_n 0, 1) := by decide +kernel
theorem d_Mo_run_37 : decode b_Mo_run 37 = .ok (.getfield 96, 3) := by decide +kernel
theorem d_Mo_run_40 : decode b_Mo_run 40 = .ok (.invokevirtual 195, 3) := by decide +kernel
theorem d_Mo_run_43 : decode b_Mo_run 43 = .ok (.istore_n 3, 1) := by decide +kernel
theorem d_Mo_run_44 : decode b_Mo_run 44 = .ok (.aload_n 0, 1) := by decide +kernel
theorem d_Mo_run_45 : decode b_Mo_run 45 = .ok (.iload_n 3, 1) := by decide +kernel
theorem d_Mo_run_46 : decode b_Mo_run 46 = .ok (.invokevirtual 198, 3) := by decide +kernel
theorem d_Mo_run_49 : decode b_Mo_run 49 = .ok (.iinc 2 1, 3) := by decide +kernel
theorem d_Mo_run_52 : decode b_Mo_run 52 = .ok (.goto (-29), 3) := by decide +kernel
theorem d_Mo_run_55 : decode b_Mo_run 55 = .ok (.aload_n 0, 1) := by decide +kernel
theorem d_Mo_run_56 : decode b_Mo_run 56 = .ok (.getfield 96, 3) := by decide +kernel
theorem d_Mo_run_59 : decode b_Mo_run 59 = .ok (.ireturn, 1) := by decide +kernel
theorem d_Mo_deliver_0 : decode b_Mo_deliver 0 = .ok (.aload_n 0, 1) := by decide +kernel
theorem d_Mo_deliver_1 : decode b_Mo_deliver 1 = .ok (.iconst 0, 1) := by decide +kernel
theorem d_Mo_deliver_2 : decode b_Mo_deliver 2 = .ok (.putfield 85, 3) := by decide +kernel
theorem d_Mo_deliver_5 : decode b_Mo_deliver 5 = .ok (.iload_n 1, 1) := by decide +kernel
theorem d_Mo_deliver_6 : decode b_Mo_deliver 6 = .ok (.ifCond .lt 11, 3) := by decide +kernel
theorem d_Mo_deliver_9 : decode b_Mo_deliver 9 = .ok (.iload_n 1, 1) := by decide +kernel
theorem d_Mo_deliver_10 : decode b_Mo_deliver 10 = .ok (.aload_n 0, 1) := by decide +kernel
theorem d_Mo_deliver_11 : decode b_Mo_deliver 11 = .ok (.getfield 96, 3) := by decide +kernel
theorem d_Mo_deliver_14 : decode b_Mo_deliver 14 = .ok (.if_icmp .lt 5, 3) := by decide +kernel
theorem d_Mo_deliver_17 : decode b_Mo_deliver 17 = .ok (.iconst 0, 1) := by decide +kernel
theorem d_Mo_deliver_18 : decode b_Mo_deliver 18 = .ok (.ireturn, 1) := by decide +kernel
theorem d_Mo_deliver_19 : decode b_Mo_deliver 19 = .ok (.aload_n 0, 1) := by decide +kernel
theorem d_Mo_deliver_20 : decode b_Mo_deliver 20 = .ok (.iload_n 1, 1) := by decide +kernel
theorem d_Mo_deliver_21 : decode b_Mo_deliver 21 = .ok (.invokevirtual 198, 3) := by decide +kernel
theorem d_Mo_deliver_24 : decode b_Mo_deliver 24 = .ok (.iconst 1, 1) := by decide +kernel
theorem d_Mo_deliver_25 : decode b_Mo_deliver 25 = .ok (.ireturn, 1) := by decide +kernel
theorem d_Mo_forge_0 : decode b_Mo_forge 0 = .ok (.aload_n 0, 1) := by decide +kernel
theorem d_Mo_forge_1 : decode b_Mo_forge 1 = .ok (.iconst 0, 1) := by decide +kernel
theorem d_Mo_forge_2 : decode b_Mo_forge 2 = .ok (.putfield 85, 3) := by decide +kernel
theorem d_Mo_forge_5 : decode b_Mo_forge 5 = .ok (.iload 5, 2) := by decide +kernel
theorem d_Mo_forge_7 : decode b_Mo_forge 7 = .ok (.ifCond .eq 33, 3) := by decide +kernel
theorem d_Mo_forge_10 : decode b_Mo_forge 10 = .ok (.iload 5, 2) := by decide +kernel
theorem d_Mo_forge_12 : decode b_Mo_forge 12 = .ok (.ifCond .le 32, 3) := by decide +kernel
theorem d_Mo_forge_15 : decode b_Mo_forge 15 = .ok (.iload 5, 2) := by decide +kernel
theorem d_Mo_forge_17 : decode b_Mo_forge 17 = .ok (.sipush 1000, 3) := by decide +kernel
theorem d_Mo_forge_20 : decode b_Mo_forge 20 = .ok (.idiv, 1) := by decide +kernel
theorem d_Mo_forge_21 : decode b_Mo_forge 21 = .ok (.iload 5, 2) := by decide +kernel
theorem d_Mo_forge_23 : decode b_Mo_forge 23 = .ok (.bipush 10, 2) := by decide +kernel
theorem d_Mo_forge_25 : decode b_Mo_forge 25 = .ok (.idiv, 1) := by decide +kernel
theorem d_Mo_forge_26 : decode b_Mo_forge 26 = .ok (.bipush 100, 2) := by decide +kernel
theorem d_Mo_forge_28 : decode b_Mo_forge 28 = .ok (.irem, 1) := by decide +kernel
theorem d_Mo_forge_29 : decode b_Mo_forge 29 = .ok (.iload 5, 2) := by decide +kernel
theorem d_Mo_forge_31 : decode b_Mo_forge 31 = .ok (.bipush 10, 2) := by decide +kernel
theorem d_Mo_forge_33 : decode b_Mo_forge 33 = .ok (.irem, 1) := by decide +kernel
theorem d_Mo_forge_34 : decode b_Mo_forge 34 = .ok (.invokestatic 188, 3) := by decide +kernel
theorem d_Mo_forge_37 : decode b_Mo_forge 37 = .ok (.ifCond .eq 7, 3) := by decide +kernel
theorem d_Mo_forge_40 : decode b_Mo_forge 40 = .ok (.iconst 1, 1) := by decide +kernel
theorem d_Mo_forge_41 : decode b_Mo_forge 41 = .ok (.goto 4, 3) := by decide +kernel
theorem d_Mo_forge_44 : decode b_Mo_forge 44 = .ok (.iconst 0, 1) := by decide +kernel
theorem d_Mo_forge_45 : decode b_Mo_forge 45 = .ok (.istore 6, 2) := by decide +kernel
theorem d_Mo_forge_47 : decode b_Mo_forge 47 = .ok (.iload_n 1, 1) := by decide +kernel
theorem d_Mo_forge_48 : decode b_Mo_forge 48 = .ok (.iconst 1, 1) := by decide +kernel
theorem d_Mo_forge_49 : decode b_Mo_forge 49 = .ok (.if_icmp .lt 33, 3) := by decide +kernel
theorem d_Mo_forge_52 : decode b_Mo_forge 52 = .ok (.iload_n 1, 1) := by decide +kernel
theorem d_Mo_forge_53 : decode b_Mo_forge 53 = .ok (.bipush 12, 2) := by decide +kernel
theorem d_Mo_forge_55 : decode b_Mo_forge 55 = .ok (.if_icmp .gt 27, 3) := by decide +kernel
theorem d_Mo_forge_58 : decode b_Mo_forge 58 = .ok (.iload_n 2, 1) := by decide +kernel
theorem d_Mo_forge_59 : decode b_Mo_forge 59 = .ok (.ifCond .lt 23, 3) := by decide +kernel
theorem d_Mo_forge_62 : decode b_Mo_forge 62 = .ok (.iload_n 2, 1) := by decide +kernel
theorem d_Mo_forge_63 : decode b_Mo_forge 63 = .ok (.bipush 15, 2) := by decide +kernel
theorem d_Mo_forge_65 : decode b_Mo_forge 65 = .ok (.if_icmp .gt 17, 3) := by decide +kernel
theorem d_Mo_forge_68 : decode b_Mo_forge 68 = .ok (.lload_n 3, 1) := by decide +kernel
theorem d_Mo_forge_69 : decode b_Mo_forge 69 = .ok (.bipush 48, 2) := by decide +kernel
theorem d_Mo_forge_71 : decode b_Mo_forge 71 = .ok (.lushr, 1) := by decide +kernel
theorem d_Mo_forge_72 : decode b_Mo_forge 72 = .ok (.lconst 0, 1) := by decide +kernel
theorem d_Mo_forge_73 : decode b_Mo_forge 73 = .ok (.lcmp, 1) := by decide +kernel
theorem d_Mo_forge_74 : decode b_Mo_forge 74 = .ok (.ifCond .ne 8, 3) := by decide +kernel
theorem d_Mo_forge_77 : decode b_Mo_forge 77 = .ok (.iload 6, 2) := by decide +kernel
theorem d_Mo_forge_79 : decode b_Mo_forge 79 = .ok (.ifCond .ne 9, 3) := by decide +kernel
theorem d_Mo_forge_82 : decode b_Mo_forge 82 = .ok (.aload_n 0, 1) := by decide +kernel
theorem d_Mo_forge_83 : decode b_Mo_forge 83 = .ok (.iconst 1, 1) := by decide +kernel
theorem d_Mo_forge_84 : decode b_Mo_forge 84 = .ok (.invokevirtual 192, 3) := by decide +kernel
theorem d_Mo_forge_87 : decode b_Mo_forge 87 = .ok (.ireturn, 1) := by decide +kernel
theorem d_Mo_forge_88 : decode b_Mo_forge 88 = .ok (.aload_n 0, 1) := by decide +kernel
theorem d_Mo_forge_89 : decode b_Mo_forge 89 = .ok (.getfield 82, 3) := by decide +kernel
theorem d_Mo_forge_92 : decode b_Mo_forge 92 = .ok (.invokestatic 88, 3) := by decide +kernel
theorem d_Mo_forge_95 : decode b_Mo_forge 95 = .ok (.ifCond .eq 12, 3) := by decide +kernel
theorem d_Mo_forge_98 : decode b_Mo_forge 98 = .ok (.aload_n 0, 1) := by decide +kernel
theorem d_Mo_forge_99 : decode b_Mo_forge 99 = .ok (.getfield 201, 3) := by decide +kernel
theorem d_Mo_forge_102 : decode b_Mo_forge 102 = .ok (.bipush 24, 2) := by decide +kernel
theorem d_Mo_forge_104 : decode b_Mo_forge 104 = .ok (.if_icmp .ne 9, 3) := by decide +kernel
theorem d_Mo_forge_107 : decode b_Mo_forge 107 = .ok (.aload_n 0, 1) := by decide +kernel
theorem d_Mo_forge_108 : decode b_Mo_forge 108 = .ok (.iconst 2, 1) := by decide +kernel
theorem d_Mo_forge_109 : decode b_Mo_forge 109 = .ok (.invokevirtual 192, 3) := by decide +kernel
theorem d_Mo_forge_112 : decode b_Mo_forge 112 = .ok (.ireturn, 1) := by decide +kernel
theorem d_Mo_forge_113 : decode b_Mo_forge 113 = .ok (.aload_n 0, 1) := by decide +kernel
theorem d_Mo_forge_114 : decode b_Mo_forge 114 = .ok (.dup, 1) := by decide +kernel
theorem d_Mo_forge_115 : decode b_Mo_forge 115 = .ok (.getfield 201, 3) := by decide +kernel
theorem d_Mo_forge_118 : decode b_Mo_forge 118 = .ok (.iconst 1, 1) := by decide +kernel
theorem d_Mo_forge_119 : decode b_Mo_forge 119 = .ok (.iadd, 1) := by decide +kernel
theorem d_Mo_forge_120 : decode b_Mo_forge 120 = .ok (.putfield 201, 3) := by decide +kernel
theorem d_Mo_forge_123 : decode b_Mo_forge 123 = .ok (.aload_n 0, 1) := by decide +kernel
theorem d_Mo_forge_124 : decode b_Mo_forge 124 = .ok (.iconst 4, 1) := by decide +kernel
theorem d_Mo_forge_125 : decode b_Mo_forge 125 = .ok (.iload_n 1, 1) := by decide +kernel
theorem d_Mo_forge_126 : decode b_Mo_forge 126 = .ok (.iconst 1, 1) := by decide +kernel
theorem d_Mo_forge_127 : decode b_Mo_forge 127 = .ok (.isub, 1) := by decide +kernel
theorem d_Mo_forge_128 : decode b_Mo_forge 128 = .ok (.imul, 1) := by decide +kernel
theorem d_Mo_forge_129 : decode b_Mo_forge 129 = .ok (.aload_n 0, 1) := by decide +kernel
theorem d_Mo_forge_130 : decode b_Mo_forge 130 = .ok (.getfield 82, 3) := by decide +kernel
theorem d_Mo_forge_133 : decode b_Mo_forge 133 = .ok (.iadd, 1) := by decide +kernel
theorem d_Mo_forge_134 : decode b_Mo_forge 134 = .ok (.iload_n 2, 1) := by decide +kernel
theorem d_Mo_forge_135 : decode b_Mo_forge 135 = .ok (.lload_n 3, 1) := by decide +kernel
theorem d_Mo_forge_136 : decode b_Mo_forge 136 = .ok (.iload 5, 2) := by decide +kernel
theorem d_Mo_forge_138 : decode b_Mo_forge 138 = .ok (.invokevirtual 175, 3) := by decide +kernel
theorem d_Mo_forge_141 : decode b_Mo_forge 141 = .ok (.ireturn, 1) := by decide +kernel
theorem d_Mo_whisper_0 : decode b_Mo_whisper 0 = .ok (.aload_n 0, 1) := by decide +kernel
theorem d_Mo_whisper_1 : decode b_Mo_whisper 1 = .ok (.iconst 0, 1) := by decide +kernel
theorem d_Mo_whisper_2 : decode b_Mo_whisper 2 = .ok (.putfield 85, 3) := by decide +kernel
theorem d_Mo_whisper_5 : decode b_Mo_whisper 5 = .ok (.iload_n 1, 1) := by decide +kernel
theorem d_Mo_whisper_6 : decode b_Mo_whisper 6 = .ok (.ifCond .lt 36, 3) := by decide +kernel
theorem d_Mo_whisper_9 : decode b_Mo_whisper 9 = .ok (.iload_n 1, 1) := by decide +kernel
theorem d_Mo_whisper_10 : decode b_Mo_whisper 10 = .ok (.iconst 2, 1) := by decide +kernel
theorem d_Mo_whisper_11 : decode b_Mo_whisper 11 = .ok (.if_icmp .gt 31, 3) := by decide +kernel
theorem d_Mo_whisper_14 : decode b_Mo_whisper 14 = .ok (.iload_n 2, 1) := by decide +kernel
theorem d_Mo_whisper_15 : decode b_Mo_whisper 15 = .ok (.invokestatic 88, 3) := by decide +kernel
theorem d_Mo_whisper_18 : decode b_Mo_whisper 18 = .ok (.ifCond .eq 24, 3) := by decide +kernel
theorem d_Mo_whisper_21 : decode b_Mo_whisper 21 = .ok (.aload_n 0, 1) := by decide +kernel
theorem d_Mo_whisper_22 : decode b_Mo_whisper 22 = .ok (.iload_n 2, 1) := by decide +kernel
theorem d_Mo_whisper_23 : decode b_Mo_whisper 23 = .ok (.invokevirtual 93, 3) := by decide +kernel
theorem d_Mo_whisper_26 : decode b_Mo_whisper 26 = .ok (.ifCond .ne 16, 3) := by decide +kernel
theorem d_Mo_whisper_29 : decode b_Mo_whisper 29 = .ok (.iload_n 3, 1) := by decide +kernel
theorem d_Mo_whisper_30 : decode b_Mo_whisper 30 = .ok (.iconst 1, 1) := by decide +kernel
theorem d_Mo_whisper_31 : decode b_Mo_whisper 31 = .ok (.if_icmp .lt 11, 3) := by decide +kernel
theorem d_Mo_whisper_34 : decode b_Mo_whisper 34 = .ok (.iload_n 3, 1) := by decide +kernel
theorem d_Mo_whisper_35 : decode b_Mo_whisper 35 = .ok (.aload_n 0, 1) := by decide +kernel
theorem d_Mo_whisper_36 : decode b_Mo_whisper 36 = .ok (.getfield 165, 3) := by decide +kernel
theorem d_Mo_whisper_39 : decode b_Mo_whisper 39 = .ok (.if_icmp .le 9, 3) := by decide +kernel
theorem d_Mo_whisper_42 : decode b_Mo_whisper 42 = .ok (.aload_n 0, 1) := by decide +kernel
theorem d_Mo_whisper_43 : decode b_Mo_whisper 43 = .ok (.iconst 1, 1) := by decide +kernel
theorem d_Mo_whisper_44 : decode b_Mo_whisper 44 = .ok (.invokevirtual 192, 3) := by decide +kernel
theorem d_Mo_whisper_47 : decode b_Mo_whisper 47 = .ok (.ireturn, 1) := by decide +kernel
theorem d_Mo_whisper_48 : decode b_Mo_whisper 48 = .ok (.aload_n 0, 1) := by decide +kernel
theorem d_Mo_whisper_49 : decode b_Mo_whisper 49 = .ok (.getfield 82, 3) := by decide +kernel
theorem d_Mo_whisper_52 : decode b_Mo_whisper 52 = .ok (.invokestatic 88, 3) := by decide +kernel
theorem d_Mo_whisper_55 : decode b_Mo_whisper 55 = .ok (.ifCond .ne 9, 3) := by decide +kernel
theorem d_Mo_whisper_58 : decode b_Mo_whisper 58 = .ok (.aload_n 0, 1) := by decide +kernel
theorem d_Mo_whisper_59 : decode b_Mo_whisper 59 = .ok (.iconst 2, 1) := by decide +kernel
theorem d_Mo_whisper_60 : decode b_Mo_whisper 60 = .ok (.invokevirtual 192, 3) := by decide +kernel
theorem d_Mo_whisper_63 : decode b_Mo_whisper 63 = .ok (.ireturn, 1) := by decide +kernel
theorem d_Mo_whisper_64 : decode b_Mo_whisper 64 = .ok (.aload_n 0, 1) := by decide +kernel
theorem d_Mo_whisper_65 : decode b_Mo_whisper 65 = .ok (.iload_n 1, 1) := by decide +kernel
theorem d_Mo_whisper_66 : decode b_Mo_whisper 66 = .ok (.aload_n 0, 1) := by decide +kernel
theorem d_Mo_whisper_67 : decode b_Mo_whisper 67 = .ok (.getfield 82, 3) := by decide +kernel
theorem d_Mo_whisper_70 : decode b_Mo_whisper 70 = .ok (.iload_n 2, 1) := by decide +kernel
theorem d_Mo_whisper_71 : decode b_Mo_whisper 71 = .ok (.iload_n 3, 1) := by decide +kernel
theorem d_Mo_whisper_72 : decode b_Mo_whisper 72 = .ok (.invokevirtual 99, 3) := by decide +kernel
theorem d_Mo_whisper_75 : decode b_Mo_whisper 75 = .ok (.aload_n 0, 1) := by decide +kernel
theorem d_Mo_whisper_76 : decode b_Mo_whisper 76 = .ok (.getfield 96, 3) := by decide +kernel
theorem d_Mo_whisper_79 : decode b_Mo_whisper 79 = .ok (.ireturn, 1) := by decide +kernel
theorem d_Mo_message_0 : decode b_Mo_message 0 = .ok (.aload_n 0, 1) := by decide +kernel
theorem d_Mo_message_1 : decode b_Mo_message 1 = .ok (.iconst 0, 1) := by decide +kernel
theorem d_Mo_message_2 : decode b_Mo_message 2 = .ok (.putfield 85, 3) := by decide +kernel
theorem d_Mo_message_5 : decode b_Mo_message 5 = .ok (.iload_n 1, 1) := by decide +kernel
theorem d_Mo_message_6 : decode b_Mo_message 6 = .ok (.ifCond .lt 20, 3) := by decide +kernel
theorem d_Mo_message_9 : decode b_Mo_message 9 = .ok (.iload_n 1, 1) := by decide +kernel
theorem d_Mo_message_10 : decode b_Mo_message 10 = .ok (.aload_n 0, 1) := by decide +kernel
theorem d_Mo_message_11 : decode b_Mo_message 11 = .ok (.getfield 96, 3) := by decide +kernel
theorem d_Mo_message_14 : decode b_Mo_message 14 = .ok (.if_icmp .ge 12, 3) := by decide +kernel
theorem d_Mo_message_17 : decode b_Mo_message 17 = .ok (.iload_n 2, 1) := by decide +kernel
theorem d_Mo_message_18 : decode b_Mo_message 18 = .ok (.ifCond .lt 8, 3) := by decide +kernel
theorem d_Mo_message_21 : decode b_Mo_message 21 = .ok (.iload_n 2, 1) := by decide +kernel
theorem d_Mo_message_22 : decode b_Mo_message 22 = .ok (.iconst 3, 1) := by decide +kernel
theorem d_Mo_message_23 : decode b_Mo_message 23 = .ok (.if_icmp .le 5, 3) := by decide +kernel
theorem d_Mo_message_26 : decode b_Mo_message 26 = .ok (.iconst (-1), 1) := by decide +kernel
theorem d_Mo_message_27 : decode b_Mo_message 27 = .ok (.ireturn, 1) := by decide +kernel
theorem d_Mo_message_28 : decode b_Mo_message 28 = .ok (.aload_n 0, 1) := by decide +kernel
theorem d_Mo_message_29 : decode b_Mo_message 29 = .ok (.getfield 23, 3) := by decide +kernel
theorem d_Mo_message_32 : decode b_Mo_message 32 = .ok (.iload_n 1, 1) := by decide +kernel
theorem d_Mo_message_33 : decode b_Mo_message 33 = .ok (.iaload, 1) := by decide +kernel
theorem d_Mo_message_34 : decode b_Mo_message 34 = .ok (.istore_n 3, 1) := by decide +kernel
theorem d_Mo_message_35 : decode b_Mo_message 35 = .ok (.iload_n 2, 1) := by decide +kernel
theorem d_Mo_message_36 : decode b_Mo_message 36 = .ok (.ifCond .ne 11, 3) := by decide +kernel
theorem d_Mo_message_39 : decode b_Mo_message 39 = .ok (.iload_n 3, 1) := by decide +kernel
theorem d_Mo_message_40 : decode b_Mo_message 40 = .ok (.sipush 1280, 3) := by decide +kernel
theorem d_Mo_message_43 : decode b_Mo_message 43 = .ok (.idiv, 1) := by decide +kernel
theorem d_Mo_message_44 : decode b_Mo_message 44 = .ok (.goto 36, 3) := by decide +kernel
theorem d_Mo_message_47 : decode b_Mo_message 47 = .ok (.iload_n 2, 1) := by decide +kernel
theorem d_Mo_message_48 : decode b_Mo_message 48 = .ok (.iconst 1, 1) := by decide +kernel
theorem d_Mo_message_49 : decode b_Mo_message 49 = .ok (.if_icmp .ne 13, 3) := by decide +kernel
theorem d_Mo_message_52 : decode b_Mo_message 52 = .ok (.iload_n 3, 1) := by decide +kernel
theorem d_Mo_message_53 : decode b_Mo_message 53 = .ok (.sipush 320, 3) := by decide +kernel
theorem d_Mo_message_56 : decode b_Mo_message 56 = .ok (.idiv, 1) := by decide +kernel
theorem d_Mo_message_57 : decode b_Mo_message 57 = .ok (.iconst 4, 1) := by decide +kernel
theorem d_Mo_message_58 : decode b_Mo_message 58 = .ok (.irem, 1) := by decide +kernel
theorem d_Mo_message_59 : decode b_Mo_message 59 = .ok (.goto 21, 3) := by decide +kernel
theorem d_Mo_message_62 : decode b_Mo_message 62 = .ok (.iload_n 2, 1) := by decide +kernel
theorem d_Mo_message_63 : decode b_Mo_message 63 = .ok (.iconst 2, 1) := by decide +kernel
theorem d_Mo_message_64 : decode b_Mo_message 64 = .ok (.if_icmp .ne 12, 3) := by decide +kernel
theorem d_Mo_message_67 : decode b_Mo_message 67 = .ok (.iload_n 3, 1) := by decide +kernel
theorem d_Mo_message_68 : decode b_Mo_message 68 = .ok (.bipush 80, 2) := by decide +kernel
theorem d_Mo_message_70 : decode b_Mo_message 70 = .ok (.idiv, 1) := by decide +kernel
theorem d_Mo_message_71 : decode b_Mo_message 71 = .ok (.iconst 4, 1) := by decide +kernel
theorem d_Mo_message_72 : decode b_Mo_message 72 = .ok (.irem, 1) := by decide +kernel
theorem d_Mo_message_73 : decode b_Mo_message 73 = .ok (.goto 7, 3) := by decide +kernel
theorem d_Mo_message_76 : decode b_Mo_message 76 = .ok (.iload_n 3, 1) := by decide +kernel
theorem d_Mo_message_77 : decode b_Mo_message 77 = .ok (.bipush 80, 2) := by decide +kernel
theorem d_Mo_message_79 : decode b_Mo_message 79 = .ok (.irem, 1) := by decide +kernel
theorem d_Mo_message_80 : decode b_Mo_message 80 = .ok (.ireturn, 1) := by decide +kernel
theorem d_Mo_vertex_0 : decode b_Mo_vertex 0 = .ok (.aload_n 0, 1) := by decide +kernel
theorem d_Mo_vertex_1 : decode b_Mo_vertex 1 = .ok (.iconst 0, 1) := by decide +kernel
theorem d_Mo_vertex_2 : decode b_Mo_vertex 2 = .ok (.putfield 85, 3) := by decide +kernel
theorem d_Mo_vertex_5 : decode b_Mo_vertex 5 = .ok (.iload_n 1, 1) := by decide +kernel
theorem d_Mo_vertex_6 : decode b_Mo_vertex 6 = .ok (.iconst 1, 1) := by decide +kernel
theorem d_Mo_vertex_7 : decode b_Mo_vertex 7 = .ok (.if_icmp .lt 20, 3) := by decide +kernel
theorem d_Mo_vertex_10 : decode b_Mo_vertex 10 = .ok (.iload_n 1, 1) := by decide +kernel
theorem d_Mo_vertex_11 : decode b_Mo_vertex 11 = .ok (.aload_n 0, 1) := by decide +kernel
theorem d_Mo_vertex_12 : decode b_Mo_vertex 12 = .ok (.getfield 165, 3) := by decide +kernel
theorem d_Mo_vertex_15 : decode b_Mo_vertex 15 = .ok (.if_icmp .gt 12, 3) := by decide +kernel
theorem d_Mo_vertex_18 : decode b_Mo_vertex 18 = .ok (.iload_n 2, 1) := by decide +kernel
theorem d_Mo_vertex_19 : decode b_Mo_vertex 19 = .ok (.ifCond .lt 8, 3) := by decide +kernel
theorem d_Mo_vertex_22 : decode b_Mo_vertex 22 = .ok (.iload_n 2, 1) := by decide +kernel
theorem d_Mo_vertex_23 : decode b_Mo_vertex 23 = .ok (.iconst 2, 1) := by decide +kernel
theorem d_Mo_vertex_24 : decode b_Mo_vertex 24 = .ok (.if_icmp .le 5, 3) := by decide +kernel
theorem d_Mo_vertex_27 : decode b_Mo_vertex 27 = .ok (.iconst (-1), 1) := by decide +kernel
theorem d_Mo_vertex_28 : decode b_Mo_vertex 28 = .ok (.ireturn, 1) := by decide +kernel
theorem d_Mo_vertex_29 : decode b_Mo_vertex 29 = .ok (.iload_n 2, 1) := by decide +kernel
theorem d_Mo_vertex_30 : decode b_Mo_vertex 30 = .ok (.ifCond .ne 12, 3) := by decide +kernel
theorem d_Mo_vertex_33 : decode b_Mo_vertex 33 = .ok (.aload_n 0, 1) := by decide +kernel
theorem d_Mo_vertex_34 : decode b_Mo_vertex 34 = .ok (.getfield 7, 3) := by decide +kernel
theorem d_Mo_vertex_37 : decode b_Mo_vertex 37 = .ok (.iload_n 1, 1) := by decide +kernel
theorem d_Mo_vertex_38 : decode b_Mo_vertex 38 = .ok (.iaload, 1) := by decide +kernel
theorem d_Mo_vertex_39 : decode b_Mo_vertex 39 = .ok (.goto 23, 3) := by decide +kernel
theorem d_Mo_vertex_42 : decode b_Mo_vertex 42 = .ok (.iload_n 2, 1) := by decide +kernel
theorem d_Mo_vertex_43 : decode b_Mo_vertex 43 = .ok (.iconst 1, 1) := by decide +kernel
theorem d_Mo_vertex_44 : decode b_Mo_vertex 44 = .ok (.if_icmp .ne 12, 3) := by decide +kernel
theorem d_Mo_vertex_47 : decode b_Mo_vertex 47 = .ok (.aload_n 0, 1) := by decide +kernel
theorem d_Mo_vertex_48 : decode b_Mo_vertex 48 = .ok (.getfield 13, 3) := by decide +kernel
theorem d_Mo_vertex_51 : decode b_Mo_vertex 51 = .ok (.iload_n 1, 1) := by decide +kernel
theorem d_Mo_vertex_52 : decode b_Mo_vertex 52 = .ok (.iaload, 1) := by decide +kernel
theorem d_Mo_vertex_53 : decode b_Mo_vertex 53 = .ok (.goto 9, 3) := by decide +kernel
theorem d_Mo_vertex_56 : decode b_Mo_vertex 56 = .ok (.aload_n 0, 1) := by decide +kernel
theorem d_Mo_vertex_57 : decode b_Mo_vertex 57 = .ok (.getfield 20, 3) := by decide +kernel
theorem d_Mo_vertex_60 : decode b_Mo_vertex 60 = .ok (.iload_n 1, 1) := by decide +kernel
theorem d_Mo_vertex_61 : decode b_Mo_vertex 61 = .ok (.iaload, 1) := by decide +kernel
theorem d_Mo_vertex_62 : decode b_Mo_vertex 62 = .ok (.ireturn, 1) := by decide +kernel
theorem d_Mo_weak_0 : decode b_Mo_weak 0 = .ok (.aload_n 0, 1) := by decide +kernel
theorem d_Mo_weak_1 : decode b_Mo_weak 1 = .ok (.iconst 0, 1) := by decide +kernel
theorem d_Mo_weak_2 : decode b_Mo_weak 2 = .ok (.putfield 85, 3) := by decide +kernel
theorem d_Mo_weak_5 : decode b_Mo_weak 5 = .ok (.iload_n 1, 1) := by decide +kernel
theorem d_Mo_weak_6 : decode b_Mo_weak 6 = .ok (.iconst 1, 1) := by decide +kernel
theorem d_Mo_weak_7 : decode b_Mo_weak 7 = .ok (.if_icmp .lt 11, 3) := by decide +kernel
theorem d_Mo_weak_10 : decode b_Mo_weak 10 = .ok (.iload_n 1, 1) := by decide +kernel
theorem d_Mo_weak_11 : decode b_Mo_weak 11 = .ok (.aload_n 0, 1) := by decide +kernel
theorem d_Mo_weak_12 : decode b_Mo_weak 12 = .ok (.getfield 165, 3) := by decide +kernel
theorem d_Mo_weak_15 : decode b_Mo_weak 15 = .ok (.if_icmp .le 9, 3) := by decide +kernel
theorem d_Mo_weak_18 : decode b_Mo_weak 18 = .ok (.ldc2_w 138, 3) := by decide +kernel
theorem d_Mo_weak_21 : decode b_Mo_weak 21 = .ok (.goto 9, 3) := by decide +kernel
theorem d_Mo_weak_24 : decode b_Mo_weak 24 = .ok (.aload_n 0, 1) := by decide +kernel
theorem d_Mo_weak_25 : decode b_Mo_weak 25 = .ok (.getfield 16, 3) := by decide +kernel
theorem d_Mo_weak_28 : decode b_Mo_weak 28 = .ok (.iload_n 1, 1) := by decide +kernel
theorem d_Mo_weak_29 : decode b_Mo_weak 29 = .ok (.laload, 1) := by decide +kernel
theorem d_Mo_weak_30 : decode b_Mo_weak 30 = .ok (.lreturn, 1) := by decide +kernel
theorem d_Mo_graphSize_0 : decode b_Mo_graphSize 0 = .ok (.iconst 0, 1) := by decide +kernel
theorem d_Mo_graphSize_1 : decode b_Mo_graphSize 1 = .ok (.istore_n 2, 1) := by decide +kernel
theorem d_Mo_graphSize_2 : decode b_Mo_graphSize 2 = .ok (.iconst 0, 1) := by decide +kernel
theorem d_Mo_graphSize_3 : decode b_Mo_graphSize 3 = .ok (.istore_n 3, 1) := by decide +kernel
theorem d_Mo_graphSize_4 : decode b_Mo_graphSize 4 = .ok (.iload_n 3, 1) := by decide +kernel
theorem d_Mo_graphSize_5 : decode b_Mo_graphSize 5 = .ok (.bipush 48, 2) := by decide +kernel
theorem d_Mo_graphSize_7 : decode b_Mo_graphSize 7 = .ok (.if_icmp .ge 31, 3) := by decide +kernel
theorem d_Mo_graphSize_10 : decode b_Mo_graphSize 10 = .ok (.iload_n 2, 1) := by decide +kernel
theorem d_Mo_graphSize_11 : decode b_Mo_graphSize 11 = .ok (.aload_n 0, 1) := by decide +kernel
theorem d_Mo_graphSize_12 : decode b_Mo_graphSize 12 = .ok (.getfield 36, 3) := by decide +kernel
theorem d_Mo_graphSize_15 : decode b_Mo_graphSize 15 = .ok (.bipush 48, 2) := by decide +kernel
theorem d_Mo_graphSize_17 : decode b_Mo_graphSize 17 = .ok (.iload_n 1, 1) := by decide +kernel
theorem d_Mo_graphSize_18 : decode b_Mo_graphSize 18 = .ok (.imul, 1) := by decide +kernel
theorem d_Mo_graphSize_19 : decode b_Mo_graphSize 19 = .ok (.iload_n 3, 1) := by decide +kernel
theorem d_Mo_graphSize_20 : decode b_Mo_graphSize 20 = .ok (.iadd, 1) := by decide +kernel
theorem d_Mo_graphSize_21 : decode b_Mo_graphSize 21 = .ok (.baload, 1) := by decide +kernel
theorem d_Mo_graphSize_22 : decode b_Mo_graphSize 22 = .ok (.ifCond .eq 7, 3) := by decide +kernel
theorem d_Mo_graphSize_25 : decode b_Mo_graphSize 25 = .ok (.iconst 1, 1) := by decide +kernel
theorem d_Mo_graphSize_26 : decode b_Mo_graphSize 26 = .ok (.goto 4, 3) := by decide +kernel
theorem d_Mo_graphSize_29 : decode b_Mo_graphSize 29 = .ok (.iconst 0, 1) := by decide +kernel
theorem d_Mo_graphSize_30 : decode b_Mo_graphSize 30 = .ok (.iadd, 1) := by decide +kernel
theorem d_Mo_graphSize_31 : decode b_Mo_graphSize 31 = .ok (.istore_n 2, 1) := by decide +kernel
theorem d_Mo_graphSize_32 : decode b_Mo_graphSize 32 = .ok (.iinc 3 1, 3) := by decide +kernel
theorem d_Mo_graphSize_35 : decode b_Mo_graphSize 35 = .ok (.goto (-31), 3) := by decide +kernel
theorem d_Mo_graphSize_38 : decode b_Mo_graphSize 38 = .ok (.iload_n 2, 1) := by decide +kernel
theorem d_Mo_graphSize_39 : decode b_Mo_graphSize 39 = .ok (.ireturn, 1) := by decide +kernel
theorem d_Mo_node_0 : decode b_Mo_node 0 = .ok (.aload_n 0, 1) := by decide +kernel
theorem d_Mo_node_1 : decode b_Mo_node 1 = .ok (.iconst 0, 1) := by decide +kernel
theorem d_Mo_node_2 : decode b_Mo_node 2 = .ok (.putfield 85, 3) := by decide +kernel
theorem d_Mo_node_5 : decode b_Mo_node 5 = .ok (.iload_n 1, 1) := by decide +kernel
theorem d_Mo_node_6 : decode b_Mo_node 6 = .ok (.invokestatic 88, 3) := by decide +kernel
theorem d_Mo_node_9 : decode b_Mo_node 9 = .ok (.ifCond .eq 13, 3) := by decide +kernel
theorem d_Mo_node_12 : decode b_Mo_node 12 = .ok (.iload_n 2, 1) := by decide +kernel
theorem d_Mo_node_13 : decode b_Mo_node 13 = .ok (.ifCond .lt 9, 3) := by decide +kernel
theorem d_Mo_node_16 : decode b_Mo_node 16 = .ok (.iload_n 2, 1) := by decide +kernel
theorem d_Mo_node_17 : decode b_Mo_node 17 = .ok (.bipush 7, 2) := by decide +kernel
theorem d_Mo_node_19 : decode b_Mo_node 19 = .ok (.if_icmp .le 5, 3) := by decide +kernel
theorem d_Mo_node_22 : decode b_Mo_node 22 = .ok (.iconst (-1), 1) := by decide +kernel
theorem d_Mo_node_23 : decode b_Mo_node 23 = .ok (.ireturn, 1) := by decide +kernel
theorem d_Mo_node_24 : decode b_Mo_node 24 = .ok (.aload_n 0, 1) := by decide +kernel
theorem d_Mo_node_25 : decode b_Mo_node 25 = .ok (.iload_n 1, 1) := by decide +kernel
theorem d_Mo_node_26 : decode b_Mo_node 26 = .ok (.invokevirtual 93, 3) := by decide +kernel
theorem d_Mo_node_29 : decode b_Mo_node 29 = .ok (.ifCond .eq 5, 3) := by decide +kernel
theorem d_Mo_node_32 : decode b_Mo_node 32 = .ok (.iconst 0, 1) := by decide +kernel
theorem d_Mo_node_33 : decode b_Mo_node 33 = .ok (.ireturn, 1) := by decide +kernel
theorem d_Mo_node_34 : decode b_Mo_node 34 = .ok (.iload_n 2, 1) := by decide +kernel
theorem d_Mo_node_35 : decode b_Mo_node 35 = .ok (.ifCond .ne 12, 3) := by decide +kernel
theorem d_Mo_node_38 : decode b_Mo_node 38 = .ok (.aload_n 0, 1) := by decide +kernel
theorem d_Mo_node_39 : decode b_Mo_node 39 = .ok (.getfield 51, 3) := by decide +kernel
theorem d_Mo_node_42 : decode b_Mo_node 42 = .ok (.iload_n 1, 1) := by decide +kernel
theorem d_Mo_node_43 : decode b_Mo_node 43 = .ok (.iaload, 1) := by decide +kernel
theorem d_Mo_node_44 : decode b_Mo_node 44 = .ok (.goto 56, 3) := by decide +kernel
theorem d_Mo_node_47 : decode b_Mo_node 47 = .ok (.iload_n 2, 1) := by decide +kernel
theorem d_Mo_node_48 : decode b_Mo_node 48 = .ok (.iconst 1, 1) := by decide +kernel
theorem d_Mo_node_49 : decode b_Mo_node 49 = .ok (.if_icmp .ne 12, 3) := by decide +kernel
theorem d_Mo_node_52 : decode b_Mo_node 52 = .ok (.aload_n 0, 1) := by decide +kernel
theorem d_Mo_node_53 : decode b_Mo_node 53 = .ok (.getfield 57, 3) := by decide +kernel
theorem d_Mo_node_56 : decode b_Mo_node 56 = .ok (.iload_n 1, 1) := by decide +kernel
theorem d_Mo_node_57 : decode b_Mo_node 57 = .ok (.iaload, 1) := by decide +kernel
theorem d_Mo_node_58 : decode b_Mo_node 58 = .ok (.goto 42, 3) := by decide +kernel
theorem d_Mo_node_61 : decode b_Mo_node 61 = .ok (.iload_n 2, 1) := by decide +kernel
theorem d_Mo_node_62 : decode b_Mo_node 62 = .ok (.iconst 2, 1) := by decide +kernel
theorem d_Mo_node_63 : decode b_Mo_node 63 = .ok (.if_icmp .ne 12, 3) := by decide +kernel
theorem d_Mo_node_66 : decode b_Mo_node 66 = .ok (.aload_n 0, 1) := by decide +kernel
theorem d_Mo_node_67 : decode b_Mo_node 67 = .ok (.getfield 60, 3) := by decide +kernel
theorem d_Mo_node_70 : decode b_Mo_node 70 = .ok (.iload_n 1, 1) := by decide +kernel
theorem d_Mo_node_71 : decode b_Mo_node 71 = .ok (.iaload, 1) := by decide +kernel
theorem d_Mo_node_72 : decode b_Mo_node 72 = .ok (.goto 28, 3) := by decide +kernel
theorem d_Mo_node_75 : decode b_Mo_node 75 = .ok (.iload_n 2, 1) := by decide +kernel
theorem d_Mo_node_76 : decode b_Mo_node 76 = .ok (.iconst 3, 1) := by decide +kernel
theorem d_Mo_node_77 : decode b_Mo_node 77 = .ok (.if_icmp .ne 11, 3) := by decide +kernel
theorem d_Mo_node_80 : decode b_Mo_node 80 = .ok (.aload_n 0, 1) := by decide +kernel
theorem d_Mo_node_81 : decode b_Mo_node 81 = .ok (.iload_n 1, 1) := by decide +kernel
theorem d_Mo_node_82 : decode b_Mo_node 82 = .ok (.invokevirtual 204, 3) := by decide +kernel
theorem d_Mo_node_85 : decode b_Mo_node 85 = .ok (.goto 15, 3) := by decide +kernel
theorem d_Mo_node_88 : decode b_Mo_node 88 = .ok (.aload_n 0, 1) := by decide +kernel
theorem d_Mo_node_89 : decode b_Mo_node 89 = .ok (.getfield 63, 3) := by decide +kernel
theorem d_Mo_node_92 : decode b_Mo_node 92 = .ok (.iconst 4, 1) := by decide +kernel
theorem d_Mo_node_93 : decode b_Mo_node 93 = .ok (.iload_n 1, 1) := by decide +kernel
theorem d_Mo_node_94 : decode b_Mo_node 94 = .ok (.imul, 1) := by decide +kernel
theorem d_Mo_node_95 : decode b_Mo_node 95 = .ok (.iload_n 2, 1) := by decide +kernel
theorem d_Mo_node_96 : decode b_Mo_node 96 = .ok (.iadd, 1) := by decide +kernel
theorem d_Mo_node_97 : decode b_Mo_node 97 = .ok (.iconst 4, 1) := by decide +kernel
theorem d_Mo_node_98 : decode b_Mo_node 98 = .ok (.isub, 1) := by decide +kernel
theorem d_Mo_node_99 : decode b_Mo_node 99 = .ok (.iaload, 1) := by decide +kernel
theorem d_Mo_node_100 : decode b_Mo_node 100 = .ok (.ireturn, 1) := by decide +kernel
theorem d_Mo_graph_0 : decode b_Mo_graph 0 = .ok (.aload_n 0, 1) := by decide +kernel
theorem d_Mo_graph_1 : decode b_Mo_graph 1 = .ok (.iconst 0, 1) := by decide +kernel
theorem d_Mo_graph_2 : decode b_Mo_graph 2 = .ok (.putfield 85, 3) := by decide +kernel
theorem d_Mo_graph_5 : decode b_Mo_graph 5 = .ok (.iload_n 1, 1) := by decide +kernel
theorem d_Mo_graph_6 : decode b_Mo_graph 6 = .ok (.invokestatic 88, 3) := by decide +kernel
theorem d_Mo_graph_9 : decode b_Mo_graph 9 = .ok (.ifCond .eq 13, 3) := by decide +kernel
theorem d_Mo_graph_12 : decode b_Mo_graph 12 = .ok (.iload_n 2, 1) := by decide +kernel
theorem d_Mo_graph_13 : decode b_Mo_graph 13 = .ok (.ifCond .lt 9, 3) := by decide +kernel
theorem d_Mo_graph_16 : decode b_Mo_graph 16 = .ok (.iload_n 2, 1) := by decide +kernel
theorem d_Mo_graph_17 : decode b_Mo_graph 17 = .ok (.bipush 47, 2) := by decide +kernel
theorem d_Mo_graph_19 : decode b_Mo_graph 19 = .ok (.if_icmp .le 5, 3) := by decide +kernel
theorem d_Mo_graph_22 : decode b_Mo_graph 22 = .ok (.iconst 0, 1) := by decide +kernel
theorem d_Mo_graph_23 : decode b_Mo_graph 23 = .ok (.ireturn, 1) := by decide +kernel
theorem d_Mo_graph_24 : decode b_Mo_graph 24 = .ok (.aload_n 0, 1) := by decide +kernel
theorem d_Mo_graph_25 : decode b_Mo_graph 25 = .ok (.getfield 33, 3) := by decide +kernel
theorem d_Mo_graph_28 : decode b_Mo_graph 28 = .ok (.bipush 48, 2) := by decide +kernel
theorem d_Mo_graph_30 : decode b_Mo_graph 30 = .ok (.iload_n 1, 1) := by decide +kernel
theorem d_Mo_graph_31 : decode b_Mo_graph 31 = .ok (.imul, 1) := by decide +kernel
theorem d_Mo_graph_32 : decode b_Mo_graph 32 = .ok (.iload_n 2, 1) := by decide +kernel
theorem d_Mo_graph_33 : decode b_Mo_graph 33 = .ok (.iadd, 1) := by decide +kernel
theorem d_Mo_graph_34 : decode b_Mo_graph 34 = .ok (.iaload, 1) := by decide +kernel
theorem d_Mo_graph_35 : decode b_Mo_graph 35 = .ok (.istore_n 3, 1) := by decide +kernel
theorem d_Mo_graph_36 : decode b_Mo_graph 36 = .ok (.aload_n 0, 1) := by decide +kernel
theorem d_Mo_graph_37 : decode b_Mo_graph 37 = .ok (.getfield 36, 3) := by decide +kernel
theorem d_Mo_graph_40 : decode b_Mo_graph 40 = .ok (.bipush 48, 2) := by decide +kernel
theorem d_Mo_graph_42 : decode b_Mo_graph 42 = .ok (.iload_n 1, 1) := by decide +kernel
theorem d_Mo_graph_43 : decode b_Mo_graph 43 = .ok (.imul, 1) := by decide +kernel
theorem d_Mo_graph_44 : decode b_Mo_graph 44 = .ok (.iload_n 2, 1) := by decide +kernel
theorem d_Mo_graph_45 : decode b_Mo_graph 45 = .ok (.iadd, 1) := by decide +kernel
theorem d_Mo_graph_46 : decode b_Mo_graph 46 = .ok (.baload, 1) := by decide +kernel
theorem d_Mo_graph_47 : decode b_Mo_graph 47 = .ok (.ifCond .eq 7, 3) := by decide +kernel
theorem d_Mo_graph_50 : decode b_Mo_graph 50 = .ok (.iload_n 3, 1) := by decide +kernel
theorem d_Mo_graph_51 : decode b_Mo_graph 51 = .ok (.goto 5, 3) := by decide +kernel
theorem d_Mo_graph_54 : decode b_Mo_graph 54 = .ok (.iload_n 3, 1) := by decide +kernel
theorem d_Mo_graph_55 : decode b_Mo_graph 55 = .ok (.ineg, 1) := by decide +kernel
theorem d_Mo_graph_56 : decode b_Mo_graph 56 = .ok (.ireturn, 1) := by decide +kernel
theorem d_Mo_ordered_0 : decode b_Mo_ordered 0 = .ok (.aload_n 0, 1) := by decide +kernel
theorem d_Mo_ordered_1 : decode b_Mo_ordered 1 = .ok (.iconst 0, 1) := by decide +kernel
theorem d_Mo_ordered_2 : decode b_Mo_ordered 2 = .ok (.putfield 85, 3) := by decide +kernel
theorem d_Mo_ordered_5 : decode b_Mo_ordered 5 = .ok (.iload_n 1, 1) := by decide +kernel
theorem d_Mo_ordered_6 : decode b_Mo_ordered 6 = .ok (.invokestatic 88, 3) := by decide +kernel
theorem d_Mo_ordered_9 : decode b_Mo_ordered 9 = .ok (.ifCond .eq 17, 3) := by decide +kernel
theorem d_Mo_ordered_12 : decode b_Mo_ordered 12 = .ok (.iload_n 2, 1) := by decide +kernel
theorem d_Mo_ordered_13 : decode b_Mo_ordered 13 = .ok (.ifCond .lt 13, 3) := by decide +kernel
theorem d_Mo_ordered_16 : decode b_Mo_ordered 16 = .ok (.iload_n 2, 1) := by decide +kernel
theorem d_Mo_ordered_17 : decode b_Mo_ordered 17 = .ok (.aload_n 0, 1) := by decide +kernel
theorem d_Mo_ordered_18 : decode b_Mo_ordered 18 = .ok (.getfield 60, 3) := by decide +kernel
end
section
theorem d_Mo_ordered_21 : decode b_Mo_ordered 21 = .ok (.iload_n 1, 1) := by decide +kernel
theorem d_Mo_ordered_22 : decode b_Mo_ordered 22 = .ok (.iaload, 1) := by decide +kernel
theorem d_Mo_ordered_23 : decode b_Mo_ordered 23 = .ok (.if_icmp .lt 7, 3) := by decide +kernel
theorem d_Mo_ordered_26 : decode b_Mo_ordered 26 = .ok (.iconst (-1), 1) := by decide +kernel
theorem d_Mo_ordered_27 : decode b_Mo_ordered 27 = .ok (.goto 14, 3) := by decide +kernel
theorem d_Mo_ordered_30 : decode b_Mo_ordered 30 = .ok (.aload_n 0, 1) := by decide +kernel
theorem d_Mo_ordered_31 : decode b_Mo_ordered 31 = .ok (.getfield 42, 3) := by decide +kernel
theorem d_Mo_ordered_34 : decode b_Mo_ordered 34 = .ok (.bipush 48, 2) := by decide +kernel
theorem d_Mo_ordered_36 : decode b_Mo_ordered 36 = .ok (.iload_n 1, 1) := by decide +kernel
theorem d_Mo_ordered_37 : decode b_Mo_ordered 37 = .ok (.imul, 1) := by decide +kernel
theorem d_Mo_ordered_38 : decode b_Mo_ordered 38 = .ok (.iload_n 2, 1) := by decide +kernel
theorem d_Mo_ordered_39 : decode b_Mo_ordered 39 = .ok (.iadd, 1) := by decide +kernel
theorem d_Mo_ordered_40 : decode b_Mo_ordered 40 = .ok (.iaload, 1) := by decide +kernel
theorem d_Mo_ordered_41 : decode b_Mo_ordered 41 = .ok (.ireturn, 1) := by decide +kernel
end
section
theorem d_La_cell_0 : decode b_La_cell 0 = .ok (.iload_n 1, 1) := by decide +kernel
theorem d_La_cell_1 : decode b_La_cell 1 = .ok (.aload_n 0, 1) := by decide +kernel
theorem d_La_cell_2 : decode b_La_cell 2 = .ok (.arraylength, 1) := by decide +kernel
theorem d_La_cell_3 : decode b_La_cell 3 = .ok (.if_icmp .ge 9, 3) := by decide +kernel
theorem d_La_cell_6 : decode b_La_cell 6 = .ok (.aload_n 0, 1) := by decide +kernel
theorem d_La_cell_7 : decode b_La_cell 7 = .ok (.iload_n 1, 1) := by decide +kernel
theorem d_La_cell_8 : decode b_La_cell 8 = .ok (.iaload, 1) := by decide +kernel
theorem d_La_cell_9 : decode b_La_cell 9 = .ok (.goto 4, 3) := by decide +kernel
theorem d_La_cell_12 : decode b_La_cell 12 = .ok (.iconst 0, 1) := by decide +kernel
theorem d_La_cell_13 : decode b_La_cell 13 = .ok (.ireturn, 1) := by decide +kernel
theorem d_La_transfer_0 : decode b_La_transfer 0 = .ok (.aload 5, 2) := by decide +kernel
theorem d_La_transfer_2 : decode b_La_transfer 2 = .ok (.iconst 0, 1) := by decide +kernel
theorem d_La_transfer_3 : decode b_La_transfer 3 = .ok (.aload_n 0, 1) := by decide +kernel
theorem d_La_transfer_4 : decode b_La_transfer 4 = .ok (.iload_n 1, 1) := by decide +kernel
theorem d_La_transfer_5 : decode b_La_transfer 5 = .ok (.iload_n 2, 1) := by decide +kernel
theorem d_La_transfer_6 : decode b_La_transfer 6 = .ok (.iload_n 3, 1) := by decide +kernel
theorem d_La_transfer_7 : decode b_La_transfer 7 = .ok (.iload 4, 2) := by decide +kernel
theorem d_La_transfer_9 : decode b_La_transfer 9 = .ok (.invokevirtual 7, 3) := by decide +kernel
theorem d_La_transfer_12 : decode b_La_transfer 12 = .ok (.i2l, 1) := by decide +kernel
theorem d_La_transfer_13 : decode b_La_transfer 13 = .ok (.lastore, 1) := by decide +kernel
theorem d_La_transfer_14 : decode b_La_transfer 14 = .ok (.goto 11, 3) := by decide +kernel
theorem d_La_transfer_17 : decode b_La_transfer 17 = .ok (.astore 6, 2) := by decide +kernel
theorem d_La_transfer_19 : decode b_La_transfer 19 = .ok (.iconst 1, 1) := by decide +kernel
theorem d_La_transfer_20 : decode b_La_transfer 20 = .ok (.ireturn, 1) := by decide +kernel
theorem d_La_transfer_21 : decode b_La_transfer 21 = .ok (.astore 6, 2) := by decide +kernel
theorem d_La_transfer_23 : decode b_La_transfer 23 = .ok (.iconst 2, 1) := by decide +kernel
theorem d_La_transfer_24 : decode b_La_transfer 24 = .ok (.ireturn, 1) := by decide +kernel
theorem d_La_transfer_25 : decode b_La_transfer 25 = .ok (.iconst 0, 1) := by decide +kernel
theorem d_La_transfer_26 : decode b_La_transfer 26 = .ok (.ireturn, 1) := by decide +kernel
theorem d_La_run_0 : decode b_La_run 0 = .ok (.aload_n 2, 1) := by decide +kernel
theorem d_La_run_1 : decode b_La_run 1 = .ok (.iconst 0, 1) := by decide +kernel
theorem d_La_run_2 : decode b_La_run 2 = .ok (.aload_n 0, 1) := by decide +kernel
theorem d_La_run_3 : decode b_La_run 3 = .ok (.iload_n 1, 1) := by decide +kernel
theorem d_La_run_4 : decode b_La_run 4 = .ok (.invokevirtual 17, 3) := by decide +kernel
theorem d_La_run_7 : decode b_La_run 7 = .ok (.i2l, 1) := by decide +kernel
theorem d_La_run_8 : decode b_La_run 8 = .ok (.lastore, 1) := by decide +kernel
theorem d_La_run_9 : decode b_La_run 9 = .ok (.goto 6, 3) := by decide +kernel
theorem d_La_run_12 : decode b_La_run 12 = .ok (.astore_n 3, 1) := by decide +kernel
theorem d_La_run_13 : decode b_La_run 13 = .ok (.iconst 1, 1) := by decide +kernel
theorem d_La_run_14 : decode b_La_run 14 = .ok (.ireturn, 1) := by decide +kernel
theorem d_La_run_15 : decode b_La_run 15 = .ok (.iconst 0, 1) := by decide +kernel
theorem d_La_run_16 : decode b_La_run 16 = .ok (.ireturn, 1) := by decide +kernel
theorem d_La_forge_0 : decode b_La_forge 0 = .ok (.aload 6, 2) := by decide +kernel
theorem d_La_forge_2 : decode b_La_forge 2 = .ok (.iconst 0, 1) := by decide +kernel
theorem d_La_forge_3 : decode b_La_forge 3 = .ok (.aload_n 0, 1) := by decide +kernel
theorem d_La_forge_4 : decode b_La_forge 4 = .ok (.iload_n 1, 1) := by decide +kernel
theorem d_La_forge_5 : decode b_La_forge 5 = .ok (.iload_n 2, 1) := by decide +kernel
theorem d_La_forge_6 : decode b_La_forge 6 = .ok (.lload_n 3, 1) := by decide +kernel
theorem d_La_forge_7 : decode b_La_forge 7 = .ok (.iload 5, 2) := by decide +kernel
theorem d_La_forge_9 : decode b_La_forge 9 = .ok (.invokevirtual 21, 3) := by decide +kernel
theorem d_La_forge_12 : decode b_La_forge 12 = .ok (.i2l, 1) := by decide +kernel
theorem d_La_forge_13 : decode b_La_forge 13 = .ok (.lastore, 1) := by decide +kernel
theorem d_La_forge_14 : decode b_La_forge 14 = .ok (.goto 11, 3) := by decide +kernel
theorem d_La_forge_17 : decode b_La_forge 17 = .ok (.astore 7, 2) := by decide +kernel
theorem d_La_forge_19 : decode b_La_forge 19 = .ok (.iconst 1, 1) := by decide +kernel
theorem d_La_forge_20 : decode b_La_forge 20 = .ok (.ireturn, 1) := by decide +kernel
theorem d_La_forge_21 : decode b_La_forge 21 = .ok (.astore 7, 2) := by decide +kernel
theorem d_La_forge_23 : decode b_La_forge 23 = .ok (.iconst 2, 1) := by decide +kernel
theorem d_La_forge_24 : decode b_La_forge 24 = .ok (.ireturn, 1) := by decide +kernel
theorem d_La_forge_25 : decode b_La_forge 25 = .ok (.iconst 0, 1) := by decide +kernel
theorem d_La_forge_26 : decode b_La_forge 26 = .ok (.ireturn, 1) := by decide +kernel
theorem d_La_whisper_0 : decode b_La_whisper 0 = .ok (.aload 4, 2) := by decide +kernel
theorem d_La_whisper_2 : decode b_La_whisper 2 = .ok (.iconst 0, 1) := by decide +kernel
theorem d_La_whisper_3 : decode b_La_whisper 3 = .ok (.aload_n 0, 1) := by decide +kernel
theorem d_La_whisper_4 : decode b_La_whisper 4 = .ok (.iload_n 1, 1) := by decide +kernel
theorem d_La_whisper_5 : decode b_La_whisper 5 = .ok (.iload_n 2, 1) := by decide +kernel
theorem d_La_whisper_6 : decode b_La_whisper 6 = .ok (.iload_n 3, 1) := by decide +kernel
theorem d_La_whisper_7 : decode b_La_whisper 7 = .ok (.invokevirtual 25, 3) := by decide +kernel
theorem d_La_whisper_10 : decode b_La_whisper 10 = .ok (.i2l, 1) := by decide +kernel
theorem d_La_whisper_11 : decode b_La_whisper 11 = .ok (.lastore, 1) := by decide +kernel
theorem d_La_whisper_12 : decode b_La_whisper 12 = .ok (.goto 11, 3) := by decide +kernel
theorem d_La_whisper_15 : decode b_La_whisper 15 = .ok (.astore 5, 2) := by decide +kernel
theorem d_La_whisper_17 : decode b_La_whisper 17 = .ok (.iconst 1, 1) := by decide +kernel
theorem d_La_whisper_18 : decode b_La_whisper 18 = .ok (.ireturn, 1) := by decide +kernel
theorem d_La_whisper_19 : decode b_La_whisper 19 = .ok (.astore 5, 2) := by decide +kernel
theorem d_La_whisper_21 : decode b_La_whisper 21 = .ok (.iconst 2, 1) := by decide +kernel
theorem d_La_whisper_22 : decode b_La_whisper 22 = .ok (.ireturn, 1) := by decide +kernel
theorem d_La_whisper_23 : decode b_La_whisper 23 = .ok (.iconst 0, 1) := by decide +kernel
theorem d_La_whisper_24 : decode b_La_whisper 24 = .ok (.ireturn, 1) := by decide +kernel
theorem d_La_law_0 : decode b_La_law 0 = .ok (.new 8, 3) := by decide +kernel
theorem d_La_law_3 : decode b_La_law 3 = .ok (.dup, 1) := by decide +kernel
theorem d_La_law_4 : decode b_La_law 4 = .ok (.aload_n 0, 1) := by decide +kernel
theorem d_La_law_5 : decode b_La_law 5 = .ok (.iconst 0, 1) := by decide +kernel
theorem d_La_law_6 : decode b_La_law 6 = .ok (.invokestatic 29, 3) := by decide +kernel
theorem d_La_law_9 : decode b_La_law 9 = .ok (.aload_n 0, 1) := by decide +kernel
theorem d_La_law_10 : decode b_La_law 10 = .ok (.iconst 1, 1) := by decide +kernel
theorem d_La_law_11 : decode b_La_law 11 = .ok (.invokestatic 29, 3) := by decide +kernel
theorem d_La_law_14 : decode b_La_law 14 = .ok (.aload_n 0, 1) := by decide +kernel
theorem d_La_law_15 : decode b_La_law 15 = .ok (.iconst 2, 1) := by decide +kernel
theorem d_La_law_16 : decode b_La_law 16 = .ok (.invokestatic 29, 3) := by decide +kernel
theorem d_La_law_19 : decode b_La_law 19 = .ok (.invokespecial 35, 3) := by decide +kernel
theorem d_La_law_22 : decode b_La_law 22 = .ok (.astore_n 1, 1) := by decide +kernel
theorem d_La_law_23 : decode b_La_law 23 = .ok (.new 38, 3) := by decide +kernel
theorem d_La_law_26 : decode b_La_law 26 = .ok (.dup, 1) := by decide +kernel
theorem d_La_law_27 : decode b_La_law 27 = .ok (.aload_n 0, 1) := by decide +kernel
theorem d_La_law_28 : decode b_La_law 28 = .ok (.iconst 0, 1) := by decide +kernel
theorem d_La_law_29 : decode b_La_law 29 = .ok (.invokestatic 29, 3) := by decide +kernel
theorem d_La_law_32 : decode b_La_law 32 = .ok (.aload_n 0, 1) := by decide +kernel
theorem d_La_law_33 : decode b_La_law 33 = .ok (.iconst 1, 1) := by decide +kernel
theorem d_La_law_34 : decode b_La_law 34 = .ok (.invokestatic 29, 3) := by decide +kernel
theorem d_La_law_37 : decode b_La_law 37 = .ok (.aload_n 0, 1) := by decide +kernel
theorem d_La_law_38 : decode b_La_law 38 = .ok (.iconst 2, 1) := by decide +kernel
theorem d_La_law_39 : decode b_La_law 39 = .ok (.invokestatic 29, 3) := by decide +kernel
theorem d_La_law_42 : decode b_La_law 42 = .ok (.invokespecial 40, 3) := by decide +kernel
theorem d_La_law_45 : decode b_La_law 45 = .ok (.astore_n 2, 1) := by decide +kernel
theorem d_La_law_46 : decode b_La_law 46 = .ok (.iconst 1, 1) := by decide +kernel
theorem d_La_law_47 : decode b_La_law 47 = .ok (.newarray .long, 2) := by decide +kernel
theorem d_La_law_49 : decode b_La_law 49 = .ok (.astore_n 3, 1) := by decide +kernel
theorem d_La_law_50 : decode b_La_law 50 = .ok (.iconst 3, 1) := by decide +kernel
theorem d_La_law_51 : decode b_La_law 51 = .ok (.istore 4, 2) := by decide +kernel
theorem d_La_law_53 : decode b_La_law 53 = .ok (.iload 4, 2) := by decide +kernel
theorem d_La_law_55 : decode b_La_law 55 = .ok (.aload_n 0, 1) := by decide +kernel
theorem d_La_law_56 : decode b_La_law 56 = .ok (.arraylength, 1) := by decide +kernel
theorem d_La_law_57 : decode b_La_law 57 = .ok (.bipush 6, 2) := by decide +kernel
theorem d_La_law_59 : decode b_La_law 59 = .ok (.isub, 1) := by decide +kernel
theorem d_La_law_60 : decode b_La_law 60 = .ok (.if_icmp .gt 679, 3) := by decide +kernel
theorem d_La_law_63 : decode b_La_law 63 = .ok (.aload_n 0, 1) := by decide +kernel
theorem d_La_law_64 : decode b_La_law 64 = .ok (.iload 4, 2) := by decide +kernel
theorem d_La_law_66 : decode b_La_law 66 = .ok (.iaload, 1) := by decide +kernel
theorem d_La_law_67 : decode b_La_law 67 = .ok (.bipush 15, 2) := by decide +kernel
theorem d_La_law_69 : decode b_La_law 69 = .ok (.iand, 1) := by decide +kernel
theorem d_La_law_70 : decode b_La_law 70 = .ok (.tableswitch 663 0 11 #[62, 154, 167, 223, 248, 372, 452, 489, 526, 552, 589, 626], 62) := by decide +kernel
theorem d_La_law_132 : decode b_La_law 132 = .ok (.aload_n 1, 1) := by decide +kernel
theorem d_La_law_133 : decode b_La_law 133 = .ok (.aload_n 0, 1) := by decide +kernel
theorem d_La_law_134 : decode b_La_law 134 = .ok (.iload 4, 2) := by decide +kernel
theorem d_La_law_136 : decode b_La_law 136 = .ok (.iconst 1, 1) := by decide +kernel
theorem d_La_law_137 : decode b_La_law 137 = .ok (.iadd, 1) := by decide +kernel
theorem d_La_law_138 : decode b_La_law 138 = .ok (.iaload, 1) := by decide +kernel
theorem d_La_law_139 : decode b_La_law 139 = .ok (.aload_n 0, 1) := by decide +kernel
theorem d_La_law_140 : decode b_La_law 140 = .ok (.iload 4, 2) := by decide +kernel
theorem d_La_law_142 : decode b_La_law 142 = .ok (.iconst 2, 1) := by decide +kernel
theorem d_La_law_143 : decode b_La_law 143 = .ok (.iadd, 1) := by decide +kernel
theorem d_La_law_144 : decode b_La_law 144 = .ok (.iaload, 1) := by decide +kernel
theorem d_La_law_145 : decode b_La_law 145 = .ok (.aload_n 0, 1) := by decide +kernel
theorem d_La_law_146 : decode b_La_law 146 = .ok (.iload 4, 2) := by decide +kernel
theorem d_La_law_148 : decode b_La_law 148 = .ok (.iconst 3, 1) := by decide +kernel
theorem d_La_law_149 : decode b_La_law 149 = .ok (.iadd, 1) := by decide +kernel
theorem d_La_law_150 : decode b_La_law 150 = .ok (.iaload, 1) := by decide +kernel
theorem d_La_law_151 : decode b_La_law 151 = .ok (.aload_n 0, 1) := by decide +kernel
theorem d_La_law_152 : decode b_La_law 152 = .ok (.iload 4, 2) := by decide +kernel
theorem d_La_law_154 : decode b_La_law 154 = .ok (.iconst 4, 1) := by decide +kernel
theorem d_La_law_155 : decode b_La_law 155 = .ok (.iadd, 1) := by decide +kernel
theorem d_La_law_156 : decode b_La_law 156 = .ok (.iaload, 1) := by decide +kernel
theorem d_La_law_157 : decode b_La_law 157 = .ok (.aload_n 3, 1) := by decide +kernel
theorem d_La_law_158 : decode b_La_law 158 = .ok (.invokestatic 41, 3) := by decide +kernel
theorem d_La_law_161 : decode b_La_law 161 = .ok (.istore 5, 2) := by decide +kernel
theorem d_La_law_163 : decode b_La_law 163 = .ok (.aload_n 2, 1) := by decide +kernel
theorem d_La_law_164 : decode b_La_law 164 = .ok (.aload_n 0, 1) := by decide +kernel
theorem d_La_law_165 : decode b_La_law 165 = .ok (.iload 4, 2) := by decide +kernel
theorem d_La_law_167 : decode b_La_law 167 = .ok (.iconst 1, 1) := by decide +kernel
theorem d_La_law_168 : decode b_La_law 168 = .ok (.iadd, 1) := by decide +kernel
theorem d_La_law_169 : decode b_La_law 169 = .ok (.iaload, 1) := by decide +kernel
theorem d_La_law_170 : decode b_La_law 170 = .ok (.aload_n 0, 1) := by decide +kernel
theorem d_La_law_171 : decode b_La_law 171 = .ok (.iload 4, 2) := by decide +kernel
theorem d_La_law_173 : decode b_La_law 173 = .ok (.iconst 2, 1) := by decide +kernel
theorem d_La_law_174 : decode b_La_law 174 = .ok (.iadd, 1) := by decide +kernel
theorem d_La_law_175 : decode b_La_law 175 = .ok (.iaload, 1) := by decide +kernel
theorem d_La_law_176 : decode b_La_law 176 = .ok (.aload_n 0, 1) := by decide +kernel
theorem d_La_law_177 : decode b_La_law 177 = .ok (.iload 4, 2) := by decide +kernel
theorem d_La_law_179 : decode b_La_law 179 = .ok (.iconst 3, 1) := by decide +kernel
theorem d_La_law_180 : decode b_La_law 180 = .ok (.iadd, 1) := by decide +kernel
theorem d_La_law_181 : decode b_La_law 181 = .ok (.iaload, 1) := by decide +kernel
theorem d_La_law_182 : decode b_La_law 182 = .ok (.aload_n 0, 1) := by decide +kernel
theorem d_La_law_183 : decode b_La_law 183 = .ok (.iload 4, 2) := by decide +kernel
theorem d_La_law_185 : decode b_La_law 185 = .ok (.iconst 4, 1) := by decide +kernel
theorem d_La_law_186 : decode b_La_law 186 = .ok (.iadd, 1) := by decide +kernel
theorem d_La_law_187 : decode b_La_law 187 = .ok (.iaload, 1) := by decide +kernel
theorem d_La_law_188 : decode b_La_law 188 = .ok (.invokevirtual 44, 3) := by decide +kernel
theorem d_La_law_191 : decode b_La_law 191 = .ok (.istore 6, 2) := by decide +kernel
theorem d_La_law_193 : decode b_La_law 193 = .ok (.aload_n 2, 1) := by decide +kernel
theorem d_La_law_194 : decode b_La_law 194 = .ok (.invokevirtual 45, 3) := by decide +kernel
theorem d_La_law_197 : decode b_La_law 197 = .ok (.iload 5, 2) := by decide +kernel
theorem d_La_law_199 : decode b_La_law 199 = .ok (.if_icmp .eq 5, 3) := by decide +kernel
theorem d_La_law_202 : decode b_La_law 202 = .ok (.iconst 0, 1) := by decide +kernel
theorem d_La_law_203 : decode b_La_law 203 = .ok (.ireturn, 1) := by decide +kernel
theorem d_La_law_204 : decode b_La_law 204 = .ok (.iload 5, 2) := by decide +kernel
theorem d_La_law_206 : decode b_La_law 206 = .ok (.ifCond .ne 15, 3) := by decide +kernel
theorem d_La_law_209 : decode b_La_law 209 = .ok (.aload_n 3, 1) := by decide +kernel
theorem d_La_law_210 : decode b_La_law 210 = .ok (.iconst 0, 1) := by decide +kernel
theorem d_La_law_211 : decode b_La_law 211 = .ok (.laload, 1) := by decide +kernel
theorem d_La_law_212 : decode b_La_law 212 = .ok (.iload 6, 2) := by decide +kernel
theorem d_La_law_214 : decode b_La_law 214 = .ok (.i2l, 1) := by decide +kernel
theorem d_La_law_215 : decode b_La_law 215 = .ok (.lcmp, 1) := by decide +kernel
theorem d_La_law_216 : decode b_La_law 216 = .ok (.ifCond .eq 5, 3) := by decide +kernel
theorem d_La_law_219 : decode b_La_law 219 = .ok (.iconst 0, 1) := by decide +kernel
theorem d_La_law_220 : decode b_La_law 220 = .ok (.ireturn, 1) := by decide +kernel
theorem d_La_law_221 : decode b_La_law 221 = .ok (.goto 512, 3) := by decide +kernel
theorem d_La_law_224 : decode b_La_law 224 = .ok (.aload_n 1, 1) := by decide +kernel
theorem d_La_law_225 : decode b_La_law 225 = .ok (.invokevirtual 49, 3) := by decide +kernel
theorem d_La_law_228 : decode b_La_law 228 = .ok (.aload_n 2, 1) := by decide +kernel
theorem d_La_law_229 : decode b_La_law 229 = .ok (.invokevirtual 53, 3) := by decide +kernel
theorem d_La_law_232 : decode b_La_law 232 = .ok (.if_icmp .eq 501, 3) := by decide +kernel
theorem d_La_law_235 : decode b_La_law 235 = .ok (.iconst 0, 1) := by decide +kernel
theorem d_La_law_236 : decode b_La_law 236 = .ok (.ireturn, 1) := by decide +kernel
theorem d_La_law_237 : decode b_La_law 237 = .ok (.aload_n 1, 1) := by decide +kernel
theorem d_La_law_238 : decode b_La_law 238 = .ok (.aload_n 0, 1) := by decide +kernel
theorem d_La_law_239 : decode b_La_law 239 = .ok (.iload 4, 2) := by decide +kernel
theorem d_La_law_241 : decode b_La_law 241 = .ok (.iconst 1, 1) := by decide +kernel
theorem d_La_law_242 : decode b_La_law 242 = .ok (.iadd, 1) := by decide +kernel
theorem d_La_law_243 : decode b_La_law 243 = .ok (.iaload, 1) := by decide +kernel
theorem d_La_law_244 : decode b_La_law 244 = .ok (.aload_n 3, 1) := by decide +kernel
theorem d_La_law_245 : decode b_La_law 245 = .ok (.invokestatic 54, 3) := by decide +kernel
theorem d_La_law_248 : decode b_La_law 248 = .ok (.istore 5, 2) := by decide +kernel
theorem d_La_law_250 : decode b_La_law 250 = .ok (.aload_n 2, 1) := by decide +kernel
theorem d_La_law_251 : decode b_La_law 251 = .ok (.aload_n 0, 1) := by decide +kernel
theorem d_La_law_252 : decode b_La_law 252 = .ok (.iload 4, 2) := by decide +kernel
theorem d_La_law_254 : decode b_La_law 254 = .ok (.iconst 1, 1) := by decide +kernel
theorem d_La_law_255 : decode b_La_law 255 = .ok (.iadd, 1) := by decide +kernel
theorem d_La_law_256 : decode b_La_law 256 = .ok (.iaload, 1) := by decide +kernel
theorem d_La_law_257 : decode b_La_law 257 = .ok (.invokevirtual 57, 3) := by decide +kernel
theorem d_La_law_260 : decode b_La_law 260 = .ok (.istore 6, 2) := by decide +kernel
theorem d_La_law_262 : decode b_La_law 262 = .ok (.aload_n 2, 1) := by decide +kernel
theorem d_La_law_263 : decode b_La_law 263 = .ok (.invokevirtual 45, 3) := by decide +kernel
theorem d_La_law_266 : decode b_La_law 266 = .ok (.iload 5, 2) := by decide +kernel
theorem d_La_law_268 : decode b_La_law 268 = .ok (.if_icmp .eq 5, 3) := by decide +kernel
theorem d_La_law_271 : decode b_La_law 271 = .ok (.iconst 0, 1) := by decide +kernel
theorem d_La_law_272 : decode b_La_law 272 = .ok (.ireturn, 1) := by decide +kernel
theorem d_La_law_273 : decode b_La_law 273 = .ok (.iload 5, 2) := by decide +kernel
theorem d_La_law_275 : decode b_La_law 275 = .ok (.ifCond .ne 15, 3) := by decide +kernel
theorem d_La_law_278 : decode b_La_law 278 = .ok (.aload_n 3, 1) := by decide +kernel
theorem d_La_law_279 : decode b_La_law 279 = .ok (.iconst 0, 1) := by decide +kernel
theorem d_La_law_280 : decode b_La_law 280 = .ok (.laload, 1) := by decide +kernel
theorem d_La_law_281 : decode b_La_law 281 = .ok (.iload 6, 2) := by decide +kernel
theorem d_La_law_283 : decode b_La_law 283 = .ok (.i2l, 1) := by decide +kernel
theorem d_La_law_284 : decode b_La_law 284 = .ok (.lcmp, 1) := by decide +kernel
theorem d_La_law_285 : decode b_La_law 285 = .ok (.ifCond .eq 5, 3) := by decide +kernel
theorem d_La_law_288 : decode b_La_law 288 = .ok (.iconst 0, 1) := by decide +kernel
theorem d_La_law_289 : decode b_La_law 289 = .ok (.ireturn, 1) := by decide +kernel
theorem d_La_law_290 : decode b_La_law 290 = .ok (.goto 443, 3) := by decide +kernel
theorem d_La_law_293 : decode b_La_law 293 = .ok (.aload_n 1, 1) := by decide +kernel
theorem d_La_law_294 : decode b_La_law 294 = .ok (.aload_n 0, 1) := by decide +kernel
theorem d_La_law_295 : decode b_La_law 295 = .ok (.iload 4, 2) := by decide +kernel
theorem d_La_law_297 : decode b_La_law 297 = .ok (.iconst 1, 1) := by decide +kernel
theorem d_La_law_298 : decode b_La_law 298 = .ok (.iadd, 1) := by decide +kernel
theorem d_La_law_299 : decode b_La_law 299 = .ok (.iaload, 1) := by decide +kernel
theorem d_La_law_300 : decode b_La_law 300 = .ok (.invokevirtual 58, 3) := by decide +kernel
theorem d_La_law_303 : decode b_La_law 303 = .ok (.aload_n 2, 1) := by decide +kernel
theorem d_La_law_304 : decode b_La_law 304 = .ok (.aload_n 0, 1) := by decide +kernel
theorem d_La_law_305 : decode b_La_law 305 = .ok (.iload 4, 2) := by decide +kernel
theorem d_La_law_307 : decode b_La_law 307 = .ok (.iconst 1, 1) := by decide +kernel
theorem d_La_law_308 : decode b_La_law 308 = .ok (.iadd, 1) := by decide +kernel
theorem d_La_law_309 : decode b_La_law 309 = .ok (.iaload, 1) := by decide +kernel
theorem d_La_law_310 : decode b_La_law 310 = .ok (.invokevirtual 62, 3) := by decide +kernel
theorem d_La_law_313 : decode b_La_law 313 = .ok (.if_icmp .eq 420, 3) := by decide +kernel
theorem d_La_law_316 : decode b_La_law 316 = .ok (.iconst 0, 1) := by decide +kernel
theorem d_La_law_317 : decode b_La_law 317 = .ok (.ireturn, 1) := by decide +kernel
theorem d_La_law_318 : decode b_La_law 318 = .ok (.aload_n 1, 1) := by decide +kernel
theorem d_La_law_319 : decode b_La_law 319 = .ok (.aload_n 0, 1) := by decide +kernel
theorem d_La_law_320 : decode b_La_law 320 = .ok (.iload 4, 2) := by decide +kernel
theorem d_La_law_322 : decode b_La_law 322 = .ok (.iconst 1, 1) := by decide +kernel
theorem d_La_law_323 : decode b_La_law 323 = .ok (.iadd, 1) := by decide +kernel
theorem d_La_law_324 : decode b_La_law 324 = .ok (.iaload, 1) := by decide +kernel
theorem d_La_law_325 : decode b_La_law 325 = .ok (.aload_n 0, 1) := by decide +kernel
theorem d_La_law_326 : decode b_La_law 326 = .ok (.iload 4, 2) := by decide +kernel
theorem d_La_law_328 : decode b_La_law 328 = .ok (.iconst 2, 1) := by decide +kernel
theorem d_La_law_329 : decode b_La_law 329 = .ok (.iadd, 1) := by decide +kernel
theorem d_La_law_330 : decode b_La_law 330 = .ok (.iaload, 1) := by decide +kernel
theorem d_La_law_331 : decode b_La_law 331 = .ok (.aload_n 0, 1) := by decide +kernel
theorem d_La_law_332 : decode b_La_law 332 = .ok (.iload 4, 2) := by decide +kernel
theorem d_La_law_334 : decode b_La_law 334 = .ok (.iconst 3, 1) := by decide +kernel
theorem d_La_law_335 : decode b_La_law 335 = .ok (.iadd, 1) := by decide +kernel
theorem d_La_law_336 : decode b_La_law 336 = .ok (.iaload, 1) := by decide +kernel
theorem d_La_law_337 : decode b_La_law 337 = .ok (.i2l, 1) := by decide +kernel
theorem d_La_law_338 : decode b_La_law 338 = .ok (.bipush 32, 2) := by decide +kernel
theorem d_La_law_340 : decode b_La_law 340 = .ok (.lshl, 1) := by decide +kernel
theorem d_La_law_341 : decode b_La_law 341 = .ok (.aload_n 0, 1) := by decide +kernel
theorem d_La_law_342 : decode b_La_law 342 = .ok (.iload 4, 2) := by decide +kernel
theorem d_La_law_344 : decode b_La_law 344 = .ok (.iconst 4, 1) := by decide +kernel
theorem d_La_law_345 : decode b_La_law 345 = .ok (.iadd, 1) := by decide +kernel
theorem d_La_law_346 : decode b_La_law 346 = .ok (.iaload, 1) := by decide +kernel
theorem d_La_law_347 : decode b_La_law 347 = .ok (.i2l, 1) := by decide +kernel
theorem d_La_law_348 : decode b_La_law 348 = .ok (.ldc2_w 63, 3) := by decide +kernel
theorem d_La_law_351 : decode b_La_law 351 = .ok (.land, 1) := by decide +kernel
theorem d_La_law_352 : decode b_La_law 352 = .ok (.lor, 1) := by decide +kernel
theorem d_La_law_353 : decode b_La_law 353 = .ok (.aload_n 0, 1) := by decide +kernel
theorem d_La_law_354 : decode b_La_law 354 = .ok (.iload 4, 2) := by decide +kernel
theorem d_La_law_356 : decode b_La_law 356 = .ok (.iconst 5, 1) := by decide +kernel
theorem d_La_law_357 : decode b_La_law 357 = .ok (.iadd, 1) := by decide +kernel
theorem d_La_law_358 : decode b_La_law 358 = .ok (.iaload, 1) := by decide +kernel
theorem d_La_law_359 : decode b_La_law 359 = .ok (.aload_n 3, 1) := by decide +kernel
theorem d_La_law_360 : decode b_La_law 360 = .ok (.invokestatic 65, 3) := by decide +kernel
theorem d_La_law_363 : decode b_La_law 363 = .ok (.istore 5, 2) := by decide +kernel
theorem d_La_law_365 : decode b_La_law 365 = .ok (.aload_n 2, 1) := by decide +kernel
theorem d_La_law_366 : decode b_La_law 366 = .ok (.aload_n 0, 1) := by decide +kernel
theorem d_La_law_367 : decode b_La_law 367 = .ok (.iload 4, 2) := by decide +kernel
theorem d_La_law_369 : decode b_La_law 369 = .ok (.iconst 1, 1) := by decide +kernel
theorem d_La_law_370 : decode b_La_law 370 = .ok (.iadd, 1) := by decide +kernel
theorem d_La_law_371 : decode b_La_law 371 = .ok (.iaload, 1) := by decide +kernel
theorem d_La_law_372 : decode b_La_law 372 = .ok (.aload_n 0, 1) := by decide +kernel
theorem d_La_law_373 : decode b_La_law 373 = .ok (.iload 4, 2) := by decide +kernel
theorem d_La_law_375 : decode b_La_law 375 = .ok (.iconst 2, 1) := by decide +kernel
theorem d_La_law_376 : decode b_La_law 376 = .ok (.iadd, 1) := by decide +kernel
theorem d_La_law_377 : decode b_La_law 377 = .ok (.iaload, 1) := by decide +kernel
theorem d_La_law_378 : decode b_La_law 378 = .ok (.aload_n 0, 1) := by decide +kernel
theorem d_La_law_379 : decode b_La_law 379 = .ok (.iload 4, 2) := by decide +kernel
theorem d_La_law_381 : decode b_La_law 381 = .ok (.iconst 3, 1) := by decide +kernel
theorem d_La_law_382 : decode b_La_law 382 = .ok (.iadd, 1) := by decide +kernel
theorem d_La_law_383 : decode b_La_law 383 = .ok (.iaload, 1) := by decide +kernel
theorem d_La_law_384 : decode b_La_law 384 = .ok (.i2l, 1) := by decide +kernel
theorem d_La_law_385 : decode b_La_law 385 = .ok (.bipush 32, 2) := by decide +kernel
theorem d_La_law_387 : decode b_La_law 387 = .ok (.lshl, 1) := by decide +kernel
theorem d_La_law_388 : decode b_La_law 388 = .ok (.aload_n 0, 1) := by decide +kernel
theorem d_La_law_389 : decode b_La_law 389 = .ok (.iload 4, 2) := by decide +kernel
theorem d_La_law_391 : decode b_La_law 391 = .ok (.iconst 4, 1) := by decide +kernel
theorem d_La_law_392 : decode b_La_law 392 = .ok (.iadd, 1) := by decide +kernel
theorem d_La_law_393 : decode b_La_law 393 = .ok (.iaload, 1) := by decide +kernel
theorem d_La_law_394 : decode b_La_law 394 = .ok (.i2l, 1) := by decide +kernel
theorem d_La_law_395 : decode b_La_law 395 = .ok (.ldc2_w 63, 3) := by decide +kernel
theorem d_La_law_398 : decode b_La_law 398 = .ok (.land, 1) := by decide +kernel
theorem d_La_law_399 : decode b_La_law 399 = .ok (.lor, 1) := by decide +kernel
theorem d_La_law_400 : decode b_La_law 400 = .ok (.aload_n 0, 1) := by decide +kernel
theorem d_La_law_401 : decode b_La_law 401 = .ok (.iload 4, 2) := by decide +kernel
theorem d_La_law_403 : decode b_La_law 403 = .ok (.iconst 5, 1) := by decide +kernel
theorem d_La_law_404 : decode b_La_law 404 = .ok (.iadd, 1) := by decide +kernel
theorem d_La_law_405 : decode b_La_law 405 = .ok (.iaload, 1) := by decide +kernel
theorem d_La_law_406 : decode b_La_law 406 = .ok (.invokevirtual 68, 3) := by decide +kernel
theorem d_La_law_409 : decode b_La_law 409 = .ok (.istore 6, 2) := by decide +kernel
theorem d_La_law_411 : decode b_La_law 411 = .ok (.aload_n 2, 1) := by decide +kernel
theorem d_La_law_412 : decode b_La_law 412 = .ok (.invokevirtual 45, 3) := by decide +kernel
theorem d_La_law_415 : decode b_La_law 415 = .ok (.iload 5, 2) := by decide +kernel
theorem d_La_law_417 : decode b_La_law 417 = .ok (.if_icmp .eq 5, 3) := by decide +kernel
theorem d_La_law_420 : decode b_La_law 420 = .ok (.iconst 0, 1) := by decide +kernel
theorem d_La_law_421 : decode b_La_law 421 = .ok (.ireturn, 1) := by decide +kernel
theorem d_La_law_422 : decode b_La_law 422 = .ok (.iload 5, 2) := by decide +kernel
theorem d_La_law_424 : decode b_La_law 424 = .ok (.ifCond .ne 15, 3) := by decide +kernel
theorem d_La_law_427 : decode b_La_law 427 = .ok (.aload_n 3, 1) := by decide +kernel
theorem d_La_law_428 : decode b_La_law 428 = .ok (.iconst 0, 1) := by decide +kernel
theorem d_La_law_429 : decode b_La_law 429 = .ok (.laload, 1) := by decide +kernel
theorem d_La_law_430 : decode b_La_law 430 = .ok (.iload 6, 2) := by decide +kernel
theorem d_La_law_432 : decode b_La_law 432 = .ok (.i2l, 1) := by decide +kernel
theorem d_La_law_433 : decode b_La_law 433 = .ok (.lcmp, 1) := by decide +kernel
theorem d_La_law_434 : decode b_La_law 434 = .ok (.ifCond .eq 5, 3) := by decide +kernel
theorem d_La_law_437 : decode b_La_law 437 = .ok (.iconst 0, 1) := by decide +kernel
theorem d_La_law_438 : decode b_La_law 438 = .ok (.ireturn, 1) := by decide +kernel
theorem d_La_law_439 : decode b_La_law 439 = .ok (.goto 294, 3) := by decide +kernel
theorem d_La_law_442 : decode b_La_law 442 = .ok (.aload_n 1, 1) := by decide +kernel
theorem d_La_law_443 : decode b_La_law 443 = .ok (.aload_n 0, 1) := by decide +kernel
theorem d_La_law_444 : decode b_La_law 444 = .ok (.iload 4, 2) := by decide +kernel
theorem d_La_law_446 : decode b_La_law 446 = .ok (.iconst 1, 1) := by decide +kernel
theorem d_La_law_447 : decode b_La_law 447 = .ok (.iadd, 1) := by decide +kernel
theorem d_La_law_448 : decode b_La_law 448 = .ok (.iaload, 1) := by decide +kernel
theorem d_La_law_449 : decode b_La_law 449 = .ok (.aload_n 0, 1) := by decide +kernel
theorem d_La_law_450 : decode b_La_law 450 = .ok (.iload 4, 2) := by decide +kernel
theorem d_La_law_452 : decode b_La_law 452 = .ok (.iconst 2, 1) := by decide +kernel
theorem d_La_law_453 : decode b_La_law 453 = .ok (.iadd, 1) := by decide +kernel
theorem d_La_law_454 : decode b_La_law 454 = .ok (.iaload, 1) := by decide +kernel
theorem d_La_law_455 : decode b_La_law 455 = .ok (.aload_n 0, 1) := by decide +kernel
theorem d_La_law_456 : decode b_La_law 456 = .ok (.iload 4, 2) := by decide +kernel
theorem d_La_law_458 : decode b_La_law 458 = .ok (.iconst 3, 1) := by decide +kernel
theorem d_La_law_459 : decode b_La_law 459 = .ok (.iadd, 1) := by decide +kernel
theorem d_La_law_460 : decode b_La_law 460 = .ok (.iaload, 1) := by decide +kernel
theorem d_La_law_461 : decode b_La_law 461 = .ok (.aload_n 3, 1) := by decide +kernel
theorem d_La_law_462 : decode b_La_law 462 = .ok (.invokestatic 69, 3) := by decide +kernel
theorem d_La_law_465 : decode b_La_law 465 = .ok (.istore 5, 2) := by decide +kernel
theorem d_La_law_467 : decode b_La_law 467 = .ok (.aload_n 2, 1) := by decide +kernel
theorem d_La_law_468 : decode b_La_law 468 = .ok (.aload_n 0, 1) := by decide +kernel
theorem d_La_law_469 : decode b_La_law 469 = .ok (.iload 4, 2) := by decide +kernel
theorem d_La_law_471 : decode b_La_law 471 = .ok (.iconst 1, 1) := by decide +kernel
theorem d_La_law_472 : decode b_La_law 472 = .ok (.iadd, 1) := by decide +kernel
theorem d_La_law_473 : decode b_La_law 473 = .ok (.iaload, 1) := by decide +kernel
theorem d_La_law_474 : decode b_La_law 474 = .ok (.aload_n 0, 1) := by decide +kernel
theorem d_La_law_475 : decode b_La_law 475 = .ok (.iload 4, 2) := by decide +kernel
theorem d_La_law_477 : decode b_La_law 477 = .ok (.iconst 2, 1) := by decide +kernel
theorem d_La_law_478 : decode b_La_law 478 = .ok (.iadd, 1) := by decide +kernel
theorem d_La_law_479 : decode b_La_law 479 = .ok (.iaload, 1) := by decide +kernel
theorem d_La_law_480 : decode b_La_law 480 = .ok (.aload_n 0, 1) := by decide +kernel
theorem d_La_law_481 : decode b_La_law 481 = .ok (.iload 4, 2) := by decide +kernel
theorem d_La_law_483 : decode b_La_law 483 = .ok (.iconst 3, 1) := by decide +kernel
theorem d_La_law_484 : decode b_La_law 484 = .ok (.iadd, 1) := by decide +kernel
theorem d_La_law_485 : decode b_La_law 485 = .ok (.iaload, 1) := by decide +kernel
theorem d_La_law_486 : decode b_La_law 486 = .ok (.invokevirtual 72, 3) := by decide +kernel
theorem d_La_law_489 : decode b_La_law 489 = .ok (.istore 6, 2) := by decide +kernel
theorem d_La_law_491 : decode b_La_law 491 = .ok (.aload_n 2, 1) := by decide +kernel
theorem d_La_law_492 : decode b_La_law 492 = .ok (.invokevirtual 45, 3) := by decide +kernel
theorem d_La_law_495 : decode b_La_law 495 = .ok (.iload 5, 2) := by decide +kernel
theorem d_La_law_497 : decode b_La_law 497 = .ok (.if_icmp .eq 5, 3) := by decide +kernel
theorem d_La_law_500 : decode b_La_law 500 = .ok (.iconst 0, 1) := by decide +kernel
theorem d_La_law_501 : decode b_La_law 501 = .ok (.ireturn, 1) := by decide +kernel
theorem d_La_law_502 : decode b_La_law 502 = .ok (.iload 5, 2) := by decide +kernel
theorem d_La_law_504 : decode b_La_law 504 = .ok (.ifCond .ne 15, 3) := by decide +kernel
theorem d_La_law_507 : decode b_La_law 507 = .ok (.aload_n 3, 1) := by decide +kernel
theorem d_La_law_508 : decode b_La_law 508 = .ok (.iconst 0, 1) := by decide +kernel
theorem d_La_law_509 : decode b_La_law 509 = .ok (.laload, 1) := by decide +kernel
theorem d_La_law_510 : decode b_La_law 510 = .ok (.iload 6, 2) := by decide +kernel
theorem d_La_law_512 : decode b_La_law 512 = .ok (.i2l, 1) := by decide +kernel
theorem d_La_law_513 : decode b_La_law 513 = .ok (.lcmp, 1) := by decide +kernel
theorem d_La_law_514 : decode b_La_law 514 = .ok (.ifCond .eq 5, 3) := by decide +kernel
theorem d_La_law_517 : decode b_La_law 517 = .ok (.iconst 0, 1) := by decide +kernel
theorem d_La_law_518 : decode b_La_law 518 = .ok (.ireturn, 1) := by decide +kernel
theorem d_La_law_519 : decode b_La_law 519 = .ok (.goto 214, 3) := by decide +kernel
theorem d_La_law_522 : decode b_La_law 522 = .ok (.aload_n 1, 1) := by decide +kernel
theorem d_La_law_523 : decode b_La_law 523 = .ok (.aload_n 0, 1) := by decide +kernel
theorem d_La_law_524 : decode b_La_law 524 = .ok (.iload 4, 2) := by decide +kernel
theorem d_La_law_526 : decode b_La_law 526 = .ok (.iconst 1, 1) := by decide +kernel
theorem d_La_law_527 : decode b_La_law 527 = .ok (.iadd, 1) := by decide +kernel
theorem d_La_law_528 : decode b_La_law 528 = .ok (.iaload, 1) := by decide +kernel
theorem d_La_law_529 : decode b_La_law 529 = .ok (.aload_n 0, 1) := by decide +kernel
theorem d_La_law_530 : decode b_La_law 530 = .ok (.iload 4, 2) := by decide +kernel
theorem d_La_law_532 : decode b_La_law 532 = .ok (.iconst 2, 1) := by decide +kernel
theorem d_La_law_533 : decode b_La_law 533 = .ok (.iadd, 1) := by decide +kernel
theorem d_La_law_534 : decode b_La_law 534 = .ok (.iaload, 1) := by decide +kernel
theorem d_La_law_535 : decode b_La_law 535 = .ok (.invokevirtual 73, 3) := by decide +kernel
theorem d_La_law_538 : decode b_La_law 538 = .ok (.aload_n 2, 1) := by decide +kernel
theorem d_La_law_539 : decode b_La_law 539 = .ok (.aload_n 0, 1) := by decide +kernel
theorem d_La_law_540 : decode b_La_law 540 = .ok (.iload 4, 2) := by decide +kernel
theorem d_La_law_542 : decode b_La_law 542 = .ok (.iconst 1, 1) := by decide +kernel
theorem d_La_law_543 : decode b_La_law 543 = .ok (.iadd, 1) := by decide +kernel
theorem d_La_law_544 : decode b_La_law 544 = .ok (.iaload, 1) := by decide +kernel
theorem d_La_law_545 : decode b_La_law 545 = .ok (.aload_n 0, 1) := by decide +kernel
theorem d_La_law_546 : decode b_La_law 546 = .ok (.iload 4, 2) := by decide +kernel
theorem d_La_law_548 : decode b_La_law 548 = .ok (.iconst 2, 1) := by decide +kernel
theorem d_La_law_549 : decode b_La_law 549 = .ok (.iadd, 1) := by decide +kernel
theorem d_La_law_550 : decode b_La_law 550 = .ok (.iaload, 1) := by decide +kernel
theorem d_La_law_551 : decode b_La_law 551 = .ok (.invokevirtual 77, 3) := by decide +kernel
theorem d_La_law_554 : decode b_La_law 554 = .ok (.if_icmp .eq 179, 3) := by decide +kernel
theorem d_La_law_557 : decode b_La_law 557 = .ok (.iconst 0, 1) := by decide +kernel
theorem d_La_law_558 : decode b_La_law 558 = .ok (.ireturn, 1) := by decide +kernel
theorem d_La_law_559 : decode b_La_law 559 = .ok (.aload_n 1, 1) := by decide +kernel
theorem d_La_law_560 : decode b_La_law 560 = .ok (.aload_n 0, 1) := by decide +kernel
theorem d_La_law_561 : decode b_La_law 561 = .ok (.iload 4, 2) := by decide +kernel
theorem d_La_law_563 : decode b_La_law 563 = .ok (.iconst 1, 1) := by decide +kernel
theorem d_La_law_564 : decode b_La_law 564 = .ok (.iadd, 1) := by decide +kernel
theorem d_La_law_565 : decode b_La_law 565 = .ok (.iaload, 1) := by decide +kernel
theorem d_La_law_566 : decode b_La_law 566 = .ok (.aload_n 0, 1) := by decide +kernel
theorem d_La_law_567 : decode b_La_law 567 = .ok (.iload 4, 2) := by decide +kernel
theorem d_La_law_569 : decode b_La_law 569 = .ok (.iconst 2, 1) := by decide +kernel
theorem d_La_law_570 : decode b_La_law 570 = .ok (.iadd, 1) := by decide +kernel
theorem d_La_law_571 : decode b_La_law 571 = .ok (.iaload, 1) := by decide +kernel
theorem d_La_law_572 : decode b_La_law 572 = .ok (.invokevirtual 78, 3) := by decide +kernel
theorem d_La_law_575 : decode b_La_law 575 = .ok (.aload_n 2, 1) := by decide +kernel
theorem d_La_law_576 : decode b_La_law 576 = .ok (.aload_n 0, 1) := by decide +kernel
theorem d_La_law_577 : decode b_La_law 577 = .ok (.iload 4, 2) := by decide +kernel
theorem d_La_law_579 : decode b_La_law 579 = .ok (.iconst 1, 1) := by decide +kernel
theorem d_La_law_580 : decode b_La_law 580 = .ok (.iadd, 1) := by decide +kernel
theorem d_La_law_581 : decode b_La_law 581 = .ok (.iaload, 1) := by decide +kernel
theorem d_La_law_582 : decode b_La_law 582 = .ok (.aload_n 0, 1) := by decide +kernel
theorem d_La_law_583 : decode b_La_law 583 = .ok (.iload 4, 2) := by decide +kernel
theorem d_La_law_585 : decode b_La_law 585 = .ok (.iconst 2, 1) := by decide +kernel
theorem d_La_law_586 : decode b_La_law 586 = .ok (.iadd, 1) := by decide +kernel
theorem d_La_law_587 : decode b_La_law 587 = .ok (.iaload, 1) := by decide +kernel
theorem d_La_law_588 : decode b_La_law 588 = .ok (.invokevirtual 81, 3) := by decide +kernel
theorem d_La_law_591 : decode b_La_law 591 = .ok (.if_icmp .eq 142, 3) := by decide +kernel
theorem d_La_law_594 : decode b_La_law 594 = .ok (.iconst 0, 1) := by decide +kernel
theorem d_La_law_595 : decode b_La_law 595 = .ok (.ireturn, 1) := by decide +kernel
theorem d_La_law_596 : decode b_La_law 596 = .ok (.aload_n 1, 1) := by decide +kernel
theorem d_La_law_597 : decode b_La_law 597 = .ok (.aload_n 0, 1) := by decide +kernel
theorem d_La_law_598 : decode b_La_law 598 = .ok (.iload 4, 2) := by decide +kernel
theorem d_La_law_600 : decode b_La_law 600 = .ok (.iconst 1, 1) := by decide +kernel
theorem d_La_law_601 : decode b_La_law 601 = .ok (.iadd, 1) := by decide +kernel
theorem d_La_law_602 : decode b_La_law 602 = .ok (.iaload, 1) := by decide +kernel
theorem d_La_law_603 : decode b_La_law 603 = .ok (.invokevirtual 82, 3) := by decide +kernel
theorem d_La_law_606 : decode b_La_law 606 = .ok (.aload_n 2, 1) := by decide +kernel
theorem d_La_law_607 : decode b_La_law 607 = .ok (.aload_n 0, 1) := by decide +kernel
theorem d_La_law_608 : decode b_La_law 608 = .ok (.iload 4, 2) := by decide +kernel
theorem d_La_law_610 : decode b_La_law 610 = .ok (.iconst 1, 1) := by decide +kernel
theorem d_La_law_611 : decode b_La_law 611 = .ok (.iadd, 1) := by decide +kernel
theorem d_La_law_612 : decode b_La_law 612 = .ok (.iaload, 1) := by decide +kernel
theorem d_La_law_613 : decode b_La_law 613 = .ok (.invokevirtual 86, 3) := by decide +kernel
theorem d_La_law_616 : decode b_La_law 616 = .ok (.lcmp, 1) := by decide +kernel
theorem d_La_law_617 : decode b_La_law 617 = .ok (.ifCond .eq 116, 3) := by decide +kernel
theorem d_La_law_620 : decode b_La_law 620 = .ok (.iconst 0, 1) := by decide +kernel
theorem d_La_law_621 : decode b_La_law 621 = .ok (.ireturn, 1) := by decide +kernel
theorem d_La_law_622 : decode b_La_law 622 = .ok (.aload_n 1, 1) := by decide +kernel
theorem d_La_law_623 : decode b_La_law 623 = .ok (.aload_n 0, 1) := by decide +kernel
theorem d_La_law_624 : decode b_La_law 624 = .ok (.iload 4, 2) := by decide +kernel
theorem d_La_law_626 : decode b_La_law 626 = .ok (.iconst 1, 1) := by decide +kernel
theorem d_La_law_627 : decode b_La_law 627 = .ok (.iadd, 1) := by decide +kernel
theorem d_La_law_628 : decode b_La_law 628 = .ok (.iaload, 1) := by decide +kernel
theorem d_La_law_629 : decode b_La_law 629 = .ok (.aload_n 0, 1) := by decide +kernel
theorem d_La_law_630 : decode b_La_law 630 = .ok (.iload 4, 2) := by decide +kernel
theorem d_La_law_632 : decode b_La_law 632 = .ok (.iconst 2, 1) := by decide +kernel
theorem d_La_law_633 : decode b_La_law 633 = .ok (.iadd, 1) := by decide +kernel
theorem d_La_law_634 : decode b_La_law 634 = .ok (.iaload, 1) := by decide +kernel
theorem d_La_law_635 : decode b_La_law 635 = .ok (.invokevirtual 87, 3) := by decide +kernel
theorem d_La_law_638 : decode b_La_law 638 = .ok (.aload_n 2, 1) := by decide +kernel
theorem d_La_law_639 : decode b_La_law 639 = .ok (.aload_n 0, 1) := by decide +kernel
theorem d_La_law_640 : decode b_La_law 640 = .ok (.iload 4, 2) := by decide +kernel
theorem d_La_law_642 : decode b_La_law 642 = .ok (.iconst 1, 1) := by decide +kernel
theorem d_La_law_643 : decode b_La_law 643 = .ok (.iadd, 1) := by decide +kernel
theorem d_La_law_644 : decode b_La_law 644 = .ok (.iaload, 1) := by decide +kernel
theorem d_La_law_645 : decode b_La_law 645 = .ok (.aload_n 0, 1) := by decide +kernel
theorem d_La_law_646 : decode b_La_law 646 = .ok (.iload 4, 2) := by decide +kernel
theorem d_La_law_648 : decode b_La_law 648 = .ok (.iconst 2, 1) := by decide +kernel
theorem d_La_law_649 : decode b_La_law 649 = .ok (.iadd, 1) := by decide +kernel
theorem d_La_law_650 : decode b_La_law 650 = .ok (.iaload, 1) := by decide +kernel
theorem d_La_law_651 : decode b_La_law 651 = .ok (.invokevirtual 90, 3) := by decide +kernel
theorem d_La_law_654 : decode b_La_law 654 = .ok (.if_icmp .eq 79, 3) := by decide +kernel
theorem d_La_law_657 : decode b_La_law 657 = .ok (.iconst 0, 1) := by decide +kernel
theorem d_La_law_658 : decode b_La_law 658 = .ok (.ireturn, 1) := by decide +kernel
theorem d_La_law_659 : decode b_La_law 659 = .ok (.aload_n 1, 1) := by decide +kernel
theorem d_La_law_660 : decode b_La_law 660 = .ok (.aload_n 0, 1) := by decide +kernel
theorem d_La_law_661 : decode b_La_law 661 = .ok (.iload 4, 2) := by decide +kernel
theorem d_La_law_663 : decode b_La_law 663 = .ok (.iconst 1, 1) := by decide +kernel
theorem d_La_law_664 : decode b_La_law 664 = .ok (.iadd, 1) := by decide +kernel
theorem d_La_law_665 : decode b_La_law 665 = .ok (.iaload, 1) := by decide +kernel
theorem d_La_law_666 : decode b_La_law 666 = .ok (.aload_n 0, 1) := by decide +kernel
theorem d_La_law_667 : decode b_La_law 667 = .ok (.iload 4, 2) := by decide +kernel
theorem d_La_law_669 : decode b_La_law 669 = .ok (.iconst 2, 1) := by decide +kernel
theorem d_La_law_670 : decode b_La_law 670 = .ok (.iadd, 1) := by decide +kernel
theorem d_La_law_671 : decode b_La_law 671 = .ok (.iaload, 1) := by decide +kernel
theorem d_La_law_672 : decode b_La_law 672 = .ok (.invokevirtual 91, 3) := by decide +kernel
theorem d_La_law_675 : decode b_La_law 675 = .ok (.aload_n 2, 1) := by decide +kernel
theorem d_La_law_676 : decode b_La_law 676 = .ok (.aload_n 0, 1) := by decide +kernel
theorem d_La_law_677 : decode b_La_law 677 = .ok (.iload 4, 2) := by decide +kernel
theorem d_La_law_679 : decode b_La_law 679 = .ok (.iconst 1, 1) := by decide +kernel
theorem d_La_law_680 : decode b_La_law 680 = .ok (.iadd, 1) := by decide +kernel
theorem d_La_law_681 : decode b_La_law 681 = .ok (.iaload, 1) := by decide +kernel
theorem d_La_law_682 : decode b_La_law 682 = .ok (.aload_n 0, 1) := by decide +kernel
theorem d_La_law_683 : decode b_La_law 683 = .ok (.iload 4, 2) := by decide +kernel
theorem d_La_law_685 : decode b_La_law 685 = .ok (.iconst 2, 1) := by decide +kernel
theorem d_La_law_686 : decode b_La_law 686 = .ok (.iadd, 1) := by decide +kernel
theorem d_La_law_687 : decode b_La_law 687 = .ok (.iaload, 1) := by decide +kernel
theorem d_La_law_688 : decode b_La_law 688 = .ok (.invokevirtual 94, 3) := by decide +kernel
theorem d_La_law_691 : decode b_La_law 691 = .ok (.if_icmp .eq 42, 3) := by decide +kernel
theorem d_La_law_694 : decode b_La_law 694 = .ok (.iconst 0, 1) := by decide +kernel
theorem d_La_law_695 : decode b_La_law 695 = .ok (.ireturn, 1) := by decide +kernel
theorem d_La_law_696 : decode b_La_law 696 = .ok (.aload_n 1, 1) := by decide +kernel
theorem d_La_law_697 : decode b_La_law 697 = .ok (.aload_n 0, 1) := by decide +kernel
theorem d_La_law_698 : decode b_La_law 698 = .ok (.iload 4, 2) := by decide +kernel
theorem d_La_law_700 : decode b_La_law 700 = .ok (.iconst 1, 1) := by decide +kernel
theorem d_La_law_701 : decode b_La_law 701 = .ok (.iadd, 1) := by decide +kernel
theorem d_La_law_702 : decode b_La_law 702 = .ok (.iaload, 1) := by decide +kernel
theorem d_La_law_703 : decode b_La_law 703 = .ok (.aload_n 0, 1) := by decide +kernel
theorem d_La_law_704 : decode b_La_law 704 = .ok (.iload 4, 2) := by decide +kernel
theorem d_La_law_706 : decode b_La_law 706 = .ok (.iconst 2, 1) := by decide +kernel
theorem d_La_law_707 : decode b_La_law 707 = .ok (.iadd, 1) := by decide +kernel
theorem d_La_law_708 : decode b_La_law 708 = .ok (.iaload, 1) := by decide +kernel
theorem d_La_law_709 : decode b_La_law 709 = .ok (.invokevirtual 95, 3) := by decide +kernel
theorem d_La_law_712 : decode b_La_law 712 = .ok (.aload_n 2, 1) := by decide +kernel
theorem d_La_law_713 : decode b_La_law 713 = .ok (.aload_n 0, 1) := by decide +kernel
theorem d_La_law_714 : decode b_La_law 714 = .ok (.iload 4, 2) := by decide +kernel
theorem d_La_law_716 : decode b_La_law 716 = .ok (.iconst 1, 1) := by decide +kernel
theorem d_La_law_717 : decode b_La_law 717 = .ok (.iadd, 1) := by decide +kernel
theorem d_La_law_718 : decode b_La_law 718 = .ok (.iaload, 1) := by decide +kernel
theorem d_La_law_719 : decode b_La_law 719 = .ok (.aload_n 0, 1) := by decide +kernel
theorem d_La_law_720 : decode b_La_law 720 = .ok (.iload 4, 2) := by decide +kernel
theorem d_La_law_722 : decode b_La_law 722 = .ok (.iconst 2, 1) := by decide +kernel
theorem d_La_law_723 : decode b_La_law 723 = .ok (.iadd, 1) := by decide +kernel
theorem d_La_law_724 : decode b_La_law 724 = .ok (.iaload, 1) := by decide +kernel
theorem d_La_law_725 : decode b_La_law 725 = .ok (.invokevirtual 98, 3) := by decide +kernel
theorem d_La_law_728 : decode b_La_law 728 = .ok (.if_icmp .eq 5, 3) := by decide +kernel
theorem d_La_law_731 : decode b_La_law 731 = .ok (.iconst 0, 1) := by decide +kernel
theorem d_La_law_732 : decode b_La_law 732 = .ok (.ireturn, 1) := by decide +kernel
theorem d_La_law_733 : decode b_La_law 733 = .ok (.iinc 4 6, 3) := by decide +kernel
theorem d_La_law_736 : decode b_La_law 736 = .ok (.goto (-683), 3) := by decide +kernel
theorem d_La_law_739 : decode b_La_law 739 = .ok (.iconst 1, 1) := by decide +kernel
theorem d_La_law_740 : decode b_La_law 740 = .ok (.ireturn, 1) := by decide +kernel
end
section
/-! the words that stand in the tables -/
theorem wi_Bo : Cond.initialized "WaveLedger$Book" ∈ mw_G lw_tbl := mw_G_in 41 (by decide +kernel) rfl
theorem wi_Gr : Cond.initialized "WaveLedger$Graph" ∈ mw_G lw_tbl := mw_G_in 44 (by decide +kernel) rfl
theorem wi_Ma : Cond.initialized "WaveLedger$Mail" ∈ mw_G lw_tbl := mw_G_in 39 (by decide +kernel) rfl
theorem wi_No : Cond.initialized "WaveLedger$Node" ∈ mw_G lw_tbl := mw_G_in 40 (by decide +kernel) rfl
theorem wi_Tq : Cond.initialized "WaveLedger$TransferQueue" ∈ mw_G lw_tbl := mw_G_in 42 (by decide +kernel) rfl
theorem wi_Ve : Cond.initialized "WaveLedger$Vertices" ∈ mw_G lw_tbl := mw_G_in 38 (by decide +kernel) rfl
theorem wi_Vo : Cond.initialized "WaveLedger$Votes" ∈ mw_G lw_tbl := mw_G_in 43 (by decide +kernel) rfl
theorem wi_Wl : Cond.initialized "WaveLedger" ∈ mw_G lw_tbl := mw_G_in 37 (by decide +kernel) rfl
theorem wi_Mo : Cond.initialized "WaveLedgerModel" ∈ mw_G lw_tbl := mw_G_in 45 (by decide +kernel) rfl
theorem wi_La : Cond.initialized "WaveLedgerLaw" ∈ mw_G lw_tbl := mw_G_in 36 (by decide +kernel) rfl
theorem wi_In : Cond.initialized "java/lang/Integer" ∈ mw_G lw_tbl := mw_G_in 51 (by decide +kernel) rfl
theorem wi_Lo : Cond.initialized "java/lang/Long" ∈ mw_G lw_tbl := mw_G_in 53 (by decide +kernel) rfl
theorem wu_Bo : ∀ w ∈ u_ws R_Bo T_Bo 4, w ∈ mw_G lw_tbl := by decide +kernel
theorem wu_Gr : ∀ w ∈ u_ws R_Gr T_Gr 5, w ∈ mw_G lw_tbl := by decide +kernel
theorem wu_Ma : ∀ w ∈ u_ws R_Ma T_Ma 3, w ∈ mw_G lw_tbl := by decide +kernel
theorem wu_No : ∀ w ∈ u_ws R_No T_No 15, w ∈ mw_G lw_tbl := by decide +kernel
theorem wu_Tq : ∀ w ∈ u_ws R_Tq T_Tq 2, w ∈ mw_G lw_tbl := by decide +kernel
theorem wu_Ve : ∀ w ∈ u_ws R_Ve T_Ve 5, w ∈ mw_G lw_tbl := by decide +kernel
theorem wu_Vo : ∀ w ∈ u_ws R_Vo T_Vo 1, w ∈ mw_G lw_tbl := by decide +kernel
theorem wu_Wl : ∀ w ∈ u_ws R_Wl T_Wl 7, w ∈ mw_G lw_tbl := by decide +kernel
theorem wu_Mo : ∀ w ∈ u_ws R_Mo T_Mo 29, w ∈ mw_G lw_tbl := by decide +kernel
set_option maxRecDepth 100000 in
theorem wc_Bo_init : Cond.code y_Bo_init b_Bo_init 2 none ∈ mw_G lw_tbl := mw_G_in 126 (by rfl) rfl
theorem wm_Bo_init : Cond.instanceMethod y_Bo_init ∈ mw_G lw_tbl := mw_G_in 125 (by decide +kernel) rfl
set_option maxRecDepth 100000 in
theorem wc_Bo_enter : Cond.code y_Bo_enter b_Bo_enter 4 none ∈ mw_G lw_tbl := mw_G_in 338 (by rfl) rfl
theorem wm_Bo_enter : Cond.instanceMethod y_Bo_enter ∈ mw_G lw_tbl := mw_G_in 336 (by decide +kernel) rfl
theorem wv_Bo_enter : Cond.selects "WaveLedger$Book" y_Bo_enter y_Bo_enter ∈ mw_G lw_tbl := mw_G_in 337 (by decide +kernel) rfl
set_option maxRecDepth 100000 in
theorem wc_Gr_init : Cond.code y_Gr_init b_Gr_init 2 none ∈ mw_G lw_tbl := mw_G_in 173 (by rfl) rfl
theorem wm_Gr_init : Cond.instanceMethod y_Gr_init ∈ mw_G lw_tbl := mw_G_in 172 (by decide +kernel) rfl
set_option maxRecDepth 100000 in
theorem wc_Gr_has : Cond.code y_Gr_has b_Gr_has 2 (some .boolean) ∈ mw_G lw_tbl := mw_G_in 309 (by rfl) rfl
theorem wm_Gr_has : Cond.instanceMethod y_Gr_has ∈ mw_G lw_tbl := mw_G_in 307 (by decide +kernel) rfl
theorem wv_Gr_has : Cond.selects "WaveLedger$Graph" y_Gr_has y_Gr_has ∈ mw_G lw_tbl := mw_G_in 308 (by decide +kernel) rfl
set_option maxRecDepth 100000 in
theorem wc_Gr_accept : Cond.code y_Gr_accept b_Gr_accept 3 none ∈ mw_G lw_tbl := mw_G_in 435 (by rfl) rfl
theorem wm_Gr_accept : Cond.instanceMethod y_Gr_accept ∈ mw_G lw_tbl := mw_G_in 433 (by decide +kernel) rfl
theorem wv_Gr_accept : Cond.selects "WaveLedger$Graph" y_Gr_accept y_Gr_accept ∈ mw_G lw_tbl := mw_G_in 434 (by decide +kernel) rfl
set_option maxRecDepth 100000 in
theorem wc_Gr_addIfAllowed : Cond.code y_Gr_addIfAllowed b_Gr_addIfAllowed 7 none ∈ mw_G lw_tbl := mw_G_in 439 (by rfl) rfl
theorem wm_Gr_addIfAllowed : Cond.instanceMethod y_Gr_addIfAllowed ∈ mw_G lw_tbl := mw_G_in 438 (by decide +kernel) rfl
theorem wv_Gr_addIfAllowed : Cond.selects "WaveLedger$Graph" y_Gr_addIfAllowed y_Gr_addIfAllowed ∈ mw_G lw_tbl := mw_G_in 8 (by decide +kernel) rfl
set_option maxRecDepth 100000 in
theorem wc_Gr_follow : Cond.code y_Gr_follow b_Gr_follow 6 (some .long) ∈ mw_G lw_tbl := mw_G_in 357 (by rfl) rfl
theorem ws_Gr_follow : Cond.static y_Gr_follow ∈ mw_G lw_tbl := mw_G_in 356 (by decide +kernel) rfl
set_option maxRecDepth 100000 in
theorem wc_Gr_nodesIn : Cond.code y_Gr_nodesIn b_Gr_nodesIn 2 (some .int) ∈ mw_G lw_tbl := mw_G_in 287 (by rfl) rfl
theorem wm_Gr_nodesIn : Cond.instanceMethod y_Gr_nodesIn ∈ mw_G lw_tbl := mw_G_in 285 (by decide +kernel) rfl
theorem wv_Gr_nodesIn : Cond.selects "WaveLedger$Graph" y_Gr_nodesIn y_Gr_nodesIn ∈ mw_G lw_tbl := mw_G_in 286 (by decide +kernel) rfl
set_option maxRecDepth 100000 in
theorem wc_Gr_hasQuorumIn : Cond.code y_Gr_hasQuorumIn b_Gr_hasQuorumIn 2 (some .boolean) ∈ mw_G lw_tbl := mw_G_in 283 (by rfl) rfl
theorem wm_Gr_hasQuorumIn : Cond.instanceMethod y_Gr_hasQuorumIn ∈ mw_G lw_tbl := mw_G_in 281 (by decide +kernel) rfl
theorem wv_Gr_hasQuorumIn : Cond.selects "WaveLedger$Graph" y_Gr_hasQuorumIn y_Gr_hasQuorumIn ∈ mw_G lw_tbl := mw_G_in 282 (by decide +kernel) rfl
set_option maxRecDepth 100000 in
theorem wc_Gr_leadsStrongly : Cond.code y_Gr_leadsStrongly b_Gr_leadsStrongly 3 (some .boolean) ∈ mw_G lw_tbl := mw_G_in 320 (by rfl) rfl
theorem wm_Gr_leadsStrongly : Cond.instanceMethod y_Gr_leadsStrongly ∈ mw_G lw_tbl := mw_G_in 318 (by decide +kernel) rfl
theorem wv_Gr_leadsStrongly : Cond.selects "WaveLedger$Graph" y_Gr_leadsStrongly y_Gr_leadsStrongly ∈ mw_G lw_tbl := mw_G_in 319 (by decide +kernel) rfl
set_option maxRecDepth 100000 in
theorem wc_Gr_supportFrom : Cond.code y_Gr_supportFrom b_Gr_supportFrom 5 (some .int) ∈ mw_G lw_tbl := mw_G_in 316 (by rfl) rfl
theorem wm_Gr_supportFrom : Cond.instanceMethod y_Gr_supportFrom ∈ mw_G lw_tbl := mw_G_in 314 (by decide +kernel) rfl
theorem wv_Gr_supportFrom : Cond.selects "WaveLedger$Graph" y_Gr_supportFrom y_Gr_supportFrom ∈ mw_G lw_tbl := mw_G_in 315 (by decide +kernel) rfl
set_option maxRecDepth 100000 in
theorem wc_Gr_weakPlacesFor : Cond.code y_Gr_weakPlacesFor b_Gr_weakPlacesFor 11 (some .long) ∈ mw_G lw_tbl := mw_G_in 354 (by rfl) rfl
theorem wm_Gr_weakPlacesFor : Cond.instanceMethod y_Gr_weakPlacesFor ∈ mw_G lw_tbl := mw_G_in 352 (by decide +kernel) rfl
theorem wv_Gr_weakPlacesFor : Cond.selects "WaveLedger$Graph" y_Gr_weakPlacesFor y_Gr_weakPlacesFor ∈ mw_G lw_tbl := mw_G_in 353 (by decide +kernel) rfl
set_option maxRecDepth 100000 in
theorem wc_Ma_init : Cond.code y_Ma_init b_Ma_init 2 none ∈ mw_G lw_tbl := mw_G_in 101 (by rfl) rfl
theorem wm_Ma_init : Cond.instanceMethod y_Ma_init ∈ mw_G lw_tbl := mw_G_in 100 (by decide +kernel) rfl
set_option maxRecDepth 100000 in
theorem wc_Ma_send : Cond.code y_Ma_send b_Ma_send 5 none ∈ mw_G lw_tbl := mw_G_in 378 (by rfl) rfl
theorem wm_Ma_send : Cond.instanceMethod y_Ma_send ∈ mw_G lw_tbl := mw_G_in 376 (by decide +kernel) rfl
theorem wv_Ma_send : Cond.selects "WaveLedger$Mail" y_Ma_send y_Ma_send ∈ mw_G lw_tbl := mw_G_in 377 (by decide +kernel) rfl
set_option maxRecDepth 100000 in
theorem wc_Ma_broadcast : Cond.code y_Ma_broadcast b_Ma_broadcast 5 none ∈ mw_G lw_tbl := mw_G_in 374 (by rfl) rfl
theorem wm_Ma_broadcast : Cond.instanceMethod y_Ma_broadcast ∈ mw_G lw_tbl := mw_G_in 372 (by decide +kernel) rfl
theorem wv_Ma_broadcast : Cond.selects "WaveLedger$Mail" y_Ma_broadcast y_Ma_broadcast ∈ mw_G lw_tbl := mw_G_in 373 (by decide +kernel) rfl
set_option maxRecDepth 100000 in
theorem wc_Ma_has : Cond.code y_Ma_has b_Ma_has 2 (some .boolean) ∈ mw_G lw_tbl := mw_G_in 386 (by rfl) rfl
theorem wm_Ma_has : Cond.instanceMethod y_Ma_has ∈ mw_G lw_tbl := mw_G_in 384 (by decide +kernel) rfl
theorem wv_Ma_has : Cond.selects "WaveLedger$Mail" y_Ma_has y_Ma_has ∈ mw_G lw_tbl := mw_G_in 385 (by decide +kernel) rfl
set_option maxRecDepth 100000 in
theorem wc_Ma_take : Cond.code y_Ma_take b_Ma_take 3 (some .int) ∈ mw_G lw_tbl := mw_G_in 394 (by rfl) rfl
theorem wm_Ma_take : Cond.instanceMethod y_Ma_take ∈ mw_G lw_tbl := mw_G_in 392 (by decide +kernel) rfl
theorem wv_Ma_take : Cond.selects "WaveLedger$Mail" y_Ma_take y_Ma_take ∈ mw_G lw_tbl := mw_G_in 393 (by decide +kernel) rfl
set_option maxRecDepth 100000 in
theorem wc_Ma_kindOf : Cond.code y_Ma_kindOf b_Ma_kindOf 1 (some .int) ∈ mw_G lw_tbl := mw_G_in 407 (by rfl) rfl
theorem ws_Ma_kindOf : Cond.static y_Ma_kindOf ∈ mw_G lw_tbl := mw_G_in 406 (by decide +kernel) rfl
set_option maxRecDepth 100000 in
theorem wc_Ma_senderOf : Cond.code y_Ma_senderOf b_Ma_senderOf 1 (some .int) ∈ mw_G lw_tbl := mw_G_in 398 (by rfl) rfl
theorem ws_Ma_senderOf : Cond.static y_Ma_senderOf ∈ mw_G lw_tbl := mw_G_in 397 (by decide +kernel) rfl
set_option maxRecDepth 100000 in
theorem wc_Ma_receiverOf : Cond.code y_Ma_receiverOf b_Ma_receiverOf 1 (some .int) ∈ mw_G lw_tbl := mw_G_in 404 (by rfl) rfl
theorem ws_Ma_receiverOf : Cond.static y_Ma_receiverOf ∈ mw_G lw_tbl := mw_G_in 403 (by decide +kernel) rfl
set_option maxRecDepth 100000 in
theorem wc_Ma_subjectOf : Cond.code y_Ma_subjectOf b_Ma_subjectOf 1 (some .int) ∈ mw_G lw_tbl := mw_G_in 401 (by rfl) rfl
theorem ws_Ma_subjectOf : Cond.static y_Ma_subjectOf ∈ mw_G lw_tbl := mw_G_in 400 (by decide +kernel) rfl
set_option maxRecDepth 100000 in
theorem wc_No_init : Cond.code y_No_init b_No_init 5 none ∈ mw_G lw_tbl := mw_G_in 120 (by rfl) rfl
theorem wm_No_init : Cond.instanceMethod y_No_init ∈ mw_G lw_tbl := mw_G_in 119 (by decide +kernel) rfl
set_option maxRecDepth 100000 in
theorem wc_No_receiveSend : Cond.code y_No_receiveSend b_No_receiveSend 4 none ∈ mw_G lw_tbl := mw_G_in 411 (by rfl) rfl
theorem wm_No_receiveSend : Cond.instanceMethod y_No_receiveSend ∈ mw_G lw_tbl := mw_G_in 409 (by decide +kernel) rfl
theorem wv_No_receiveSend : Cond.selects "WaveLedger$Node" y_No_receiveSend y_No_receiveSend ∈ mw_G lw_tbl := mw_G_in 410 (by decide +kernel) rfl
set_option maxRecDepth 100000 in
theorem wc_No_receiveEcho : Cond.code y_No_receiveEcho b_No_receiveEcho 4 none ∈ mw_G lw_tbl := mw_G_in 419 (by rfl) rfl
theorem wm_No_receiveEcho : Cond.instanceMethod y_No_receiveEcho ∈ mw_G lw_tbl := mw_G_in 417 (by decide +kernel) rfl
theorem wv_No_receiveEcho : Cond.selects "WaveLedger$Node" y_No_receiveEcho y_No_receiveEcho ∈ mw_G lw_tbl := mw_G_in 418 (by decide +kernel) rfl
set_option maxRecDepth 100000 in
theorem wc_No_receiveReady : Cond.code y_No_receiveReady b_No_receiveReady 5 none ∈ mw_G lw_tbl := mw_G_in 431 (by rfl) rfl
theorem wm_No_receiveReady : Cond.instanceMethod y_No_receiveReady ∈ mw_G lw_tbl := mw_G_in 429 (by decide +kernel) rfl
theorem wv_No_receiveReady : Cond.selects "WaveLedger$Node" y_No_receiveReady y_No_receiveReady ∈ mw_G lw_tbl := mw_G_in 430 (by decide +kernel) rfl
set_option maxRecDepth 100000 in
theorem wc_No_broadcastReadyOnce : Cond.code y_No_broadcastReadyOnce b_No_broadcastReadyOnce 3 none ∈ mw_G lw_tbl := mw_G_in 427 (by rfl) rfl
theorem wm_No_broadcastReadyOnce : Cond.instanceMethod y_No_broadcastReadyOnce ∈ mw_G lw_tbl := mw_G_in 426 (by decide +kernel) rfl
theorem wv_No_broadcastReadyOnce : Cond.selects "WaveLedger$Node" y_No_broadcastReadyOnce y_No_broadcastReadyOnce ∈ mw_G lw_tbl := mw_G_in 7 (by decide +kernel) rfl
set_option maxRecDepth 100000 in
theorem wc_No_goOn : Cond.code y_No_goOn b_No_goOn 2 none ∈ mw_G lw_tbl := mw_G_in 279 (by rfl) rfl
theorem wm_No_goOn : Cond.instanceMethod y_No_goOn ∈ mw_G lw_tbl := mw_G_in 277 (by decide +kernel) rfl
theorem wv_No_goOn : Cond.selects "WaveLedger$Node" y_No_goOn y_No_goOn ∈ mw_G lw_tbl := mw_G_in 278 (by decide +kernel) rfl
set_option maxRecDepth 100000 in
theorem wc_No_broadcastOwnVertex : Cond.code y_No_broadcastOwnVertex b_No_broadcastOwnVertex 6 none ∈ mw_G lw_tbl := mw_G_in 349 (by rfl) rfl
theorem wm_No_broadcastOwnVertex : Cond.instanceMethod y_No_broadcastOwnVertex ∈ mw_G lw_tbl := mw_G_in 348 (by decide +kernel) rfl
theorem wv_No_broadcastOwnVertex : Cond.selects "WaveLedger$Node" y_No_broadcastOwnVertex y_No_broadcastOwnVertex ∈ mw_G lw_tbl := mw_G_in 5 (by decide +kernel) rfl
set_option maxRecDepth 100000 in
theorem wc_No_mayCommit : Cond.code y_No_mayCommit b_No_mayCommit 3 (some .boolean) ∈ mw_G lw_tbl := mw_G_in 300 (by rfl) rfl
theorem wm_No_mayCommit : Cond.instanceMethod y_No_mayCommit ∈ mw_G lw_tbl := mw_G_in 299 (by decide +kernel) rfl
theorem wv_No_mayCommit : Cond.selects "WaveLedger$Node" y_No_mayCommit y_No_mayCommit ∈ mw_G lw_tbl := mw_G_in 1 (by decide +kernel) rfl
set_option maxRecDepth 100000 in
theorem wc_No_leaderOf : Cond.code y_No_leaderOf b_No_leaderOf 3 (some .int) ∈ mw_G lw_tbl := mw_G_in 304 (by rfl) rfl
theorem wm_No_leaderOf : Cond.instanceMethod y_No_leaderOf ∈ mw_G lw_tbl := mw_G_in 303 (by decide +kernel) rfl
theorem wv_No_leaderOf : Cond.selects "WaveLedger$Node" y_No_leaderOf y_No_leaderOf ∈ mw_G lw_tbl := mw_G_in 2 (by decide +kernel) rfl
set_option maxRecDepth 100000 in
theorem wc_No_commit : Cond.code y_No_commit b_No_commit 5 none ∈ mw_G lw_tbl := mw_G_in 324 (by rfl) rfl
theorem wm_No_commit : Cond.instanceMethod y_No_commit ∈ mw_G lw_tbl := mw_G_in 323 (by decide +kernel) rfl
theorem wv_No_commit : Cond.selects "WaveLedger$Node" y_No_commit y_No_commit ∈ mw_G lw_tbl := mw_G_in 3 (by decide +kernel) rfl
set_option maxRecDepth 100000 in
theorem wc_No_orderFrom : Cond.code y_No_orderFrom b_No_orderFrom 5 none ∈ mw_G lw_tbl := mw_G_in 329 (by rfl) rfl
theorem wm_No_orderFrom : Cond.instanceMethod y_No_orderFrom ∈ mw_G lw_tbl := mw_G_in 328 (by decide +kernel) rfl
theorem wv_No_orderFrom : Cond.selects "WaveLedger$Node" y_No_orderFrom y_No_orderFrom ∈ mw_G lw_tbl := mw_G_in 4 (by decide +kernel) rfl
set_option maxRecDepth 100000 in
theorem wc_Tq_init : Cond.code y_Tq_init b_Tq_init 1 none ∈ mw_G lw_tbl := mw_G_in 149 (by rfl) rfl
theorem wm_Tq_init : Cond.instanceMethod y_Tq_init ∈ mw_G lw_tbl := mw_G_in 148 (by decide +kernel) rfl
set_option maxRecDepth 100000 in
theorem wc_Tq_isFull : Cond.code y_Tq_isFull b_Tq_isFull 1 (some .boolean) ∈ mw_G lw_tbl := mw_G_in 578 (by rfl) rfl
theorem wm_Tq_isFull : Cond.instanceMethod y_Tq_isFull ∈ mw_G lw_tbl := mw_G_in 576 (by decide +kernel) rfl
theorem wv_Tq_isFull : Cond.selects "WaveLedger$TransferQueue" y_Tq_isFull y_Tq_isFull ∈ mw_G lw_tbl := mw_G_in 577 (by decide +kernel) rfl
set_option maxRecDepth 100000 in
theorem wc_Tq_append : Cond.code y_Tq_append b_Tq_append 2 none ∈ mw_G lw_tbl := mw_G_in 598 (by rfl) rfl
theorem wm_Tq_append : Cond.instanceMethod y_Tq_append ∈ mw_G lw_tbl := mw_G_in 596 (by decide +kernel) rfl
theorem wv_Tq_append : Cond.selects "WaveLedger$TransferQueue" y_Tq_append y_Tq_append ∈ mw_G lw_tbl := mw_G_in 597 (by decide +kernel) rfl
set_option maxRecDepth 100000 in
theorem wc_Tq_takeFirstOrNone : Cond.code y_Tq_takeFirstOrNone b_Tq_takeFirstOrNone 2 (some .int) ∈ mw_G lw_tbl := mw_G_in 363 (by rfl) rfl
theorem wm_Tq_takeFirstOrNone : Cond.instanceMethod y_Tq_takeFirstOrNone ∈ mw_G lw_tbl := mw_G_in 361 (by decide +kernel) rfl
theorem wv_Tq_takeFirstOrNone : Cond.selects "WaveLedger$TransferQueue" y_Tq_takeFirstOrNone y_Tq_takeFirstOrNone ∈ mw_G lw_tbl := mw_G_in 362 (by decide +kernel) rfl
set_option maxRecDepth 100000 in
theorem wc_Ve_init : Cond.code y_Ve_init b_Ve_init 1 none ∈ mw_G lw_tbl := mw_G_in 69 (by rfl) rfl
theorem wm_Ve_init : Cond.instanceMethod y_Ve_init ∈ mw_G lw_tbl := mw_G_in 68 (by decide +kernel) rfl
set_option maxRecDepth 100000 in
theorem wc_Ve_make : Cond.code y_Ve_make b_Ve_make 6 (some .int) ∈ mw_G lw_tbl := mw_G_in 370 (by rfl) rfl
theorem wm_Ve_make : Cond.instanceMethod y_Ve_make ∈ mw_G lw_tbl := mw_G_in 368 (by decide +kernel) rfl
theorem wv_Ve_make : Cond.selects "WaveLedger$Vertices" y_Ve_make y_Ve_make ∈ mw_G lw_tbl := mw_G_in 369 (by decide +kernel) rfl
set_option maxRecDepth 100000 in
theorem wc_Ve_has : Cond.code y_Ve_has b_Ve_has 2 (some .boolean) ∈ mw_G lw_tbl := mw_G_in 467 (by rfl) rfl
theorem wm_Ve_has : Cond.instanceMethod y_Ve_has ∈ mw_G lw_tbl := mw_G_in 465 (by decide +kernel) rfl
theorem wv_Ve_has : Cond.selects "WaveLedger$Vertices" y_Ve_has y_Ve_has ∈ mw_G lw_tbl := mw_G_in 466 (by decide +kernel) rfl
set_option maxRecDepth 100000 in
theorem wc_Ve_sourceOf : Cond.code y_Ve_sourceOf b_Ve_sourceOf 2 (some .int) ∈ mw_G lw_tbl := mw_G_in 415 (by rfl) rfl
theorem wm_Ve_sourceOf : Cond.instanceMethod y_Ve_sourceOf ∈ mw_G lw_tbl := mw_G_in 413 (by decide +kernel) rfl
theorem wv_Ve_sourceOf : Cond.selects "WaveLedger$Vertices" y_Ve_sourceOf y_Ve_sourceOf ∈ mw_G lw_tbl := mw_G_in 414 (by decide +kernel) rfl
set_option maxRecDepth 100000 in
theorem wc_Ve_isRight : Cond.code y_Ve_isRight b_Ve_isRight 5 (some .boolean) ∈ mw_G lw_tbl := mw_G_in 443 (by rfl) rfl
theorem wm_Ve_isRight : Cond.instanceMethod y_Ve_isRight ∈ mw_G lw_tbl := mw_G_in 441 (by decide +kernel) rfl
theorem wv_Ve_isRight : Cond.selects "WaveLedger$Vertices" y_Ve_isRight y_Ve_isRight ∈ mw_G lw_tbl := mw_G_in 442 (by decide +kernel) rfl
set_option maxRecDepth 100000 in
theorem wc_Ve_strongPlacesOf : Cond.code y_Ve_strongPlacesOf b_Ve_strongPlacesOf 3 (some .long) ∈ mw_G lw_tbl := mw_G_in 454 (by rfl) rfl
theorem wm_Ve_strongPlacesOf : Cond.instanceMethod y_Ve_strongPlacesOf ∈ mw_G lw_tbl := mw_G_in 452 (by decide +kernel) rfl
theorem wv_Ve_strongPlacesOf : Cond.selects "WaveLedger$Vertices" y_Ve_strongPlacesOf y_Ve_strongPlacesOf ∈ mw_G lw_tbl := mw_G_in 453 (by decide +kernel) rfl
set_option maxRecDepth 100000 in
theorem wc_Vo_init : Cond.code y_Vo_init b_Vo_init 1 none ∈ mw_G lw_tbl := mw_G_in 163 (by rfl) rfl
theorem wm_Vo_init : Cond.instanceMethod y_Vo_init ∈ mw_G lw_tbl := mw_G_in 162 (by decide +kernel) rfl
set_option maxRecDepth 100000 in
theorem wc_Vo_note : Cond.code y_Vo_note b_Vo_note 7 (some .int) ∈ mw_G lw_tbl := mw_G_in 423 (by rfl) rfl
theorem wm_Vo_note : Cond.instanceMethod y_Vo_note ∈ mw_G lw_tbl := mw_G_in 421 (by decide +kernel) rfl
theorem wv_Vo_note : Cond.selects "WaveLedger$Votes" y_Vo_note y_Vo_note ∈ mw_G lw_tbl := mw_G_in 422 (by decide +kernel) rfl
set_option maxRecDepth 100000 in
theorem wc_Wl_init : Cond.code y_Wl_init b_Wl_init 9 none ∈ mw_G lw_tbl := mw_G_in 58 (by rfl) rfl
theorem wm_Wl_init : Cond.instanceMethod y_Wl_init ∈ mw_G lw_tbl := mw_G_in 57 (by decide +kernel) rfl
set_option maxRecDepth 100000 in
theorem wc_Wl_transfer : Cond.code y_Wl_transfer b_Wl_transfer 6 (some .int) ∈ mw_G lw_tbl := mw_G_in 503 (by rfl) rfl
theorem wm_Wl_transfer : Cond.instanceMethod y_Wl_transfer ∈ mw_G lw_tbl := mw_G_in 501 (by decide +kernel) rfl
theorem wv_Wl_transfer : Cond.selects "WaveLedger" y_Wl_transfer y_Wl_transfer ∈ mw_G lw_tbl := mw_G_in 502 (by decide +kernel) rfl
set_option maxRecDepth 100000 in
theorem wc_Wl_begin : Cond.code y_Wl_begin b_Wl_begin 2 (some .boolean) ∈ mw_G lw_tbl := mw_G_in 271 (by rfl) rfl
theorem wm_Wl_begin : Cond.instanceMethod y_Wl_begin ∈ mw_G lw_tbl := mw_G_in 269 (by decide +kernel) rfl
theorem wv_Wl_begin : Cond.selects "WaveLedger" y_Wl_begin y_Wl_begin ∈ mw_G lw_tbl := mw_G_in 270 (by decide +kernel) rfl
set_option maxRecDepth 100000 in
theorem wc_Wl_run : Cond.code y_Wl_run b_Wl_run 3 (some .int) ∈ mw_G lw_tbl := mw_G_in 605 (by rfl) rfl
theorem wm_Wl_run : Cond.instanceMethod y_Wl_run ∈ mw_G lw_tbl := mw_G_in 603 (by decide +kernel) rfl
theorem wv_Wl_run : Cond.selects "WaveLedger" y_Wl_run y_Wl_run ∈ mw_G lw_tbl := mw_G_in 604 (by decide +kernel) rfl
set_option maxRecDepth 100000 in
theorem wc_Wl_deliver : Cond.code y_Wl_deliver b_Wl_deliver 2 (some .boolean) ∈ mw_G lw_tbl := mw_G_in 382 (by rfl) rfl
theorem wm_Wl_deliver : Cond.instanceMethod y_Wl_deliver ∈ mw_G lw_tbl := mw_G_in 380 (by decide +kernel) rfl
theorem wv_Wl_deliver : Cond.selects "WaveLedger" y_Wl_deliver y_Wl_deliver ∈ mw_G lw_tbl := mw_G_in 381 (by decide +kernel) rfl
set_option maxRecDepth 100000 in
theorem wc_Wl_forge : Cond.code y_Wl_forge b_Wl_forge 6 (some .int) ∈ mw_G lw_tbl := mw_G_in 614 (by rfl) rfl
theorem wm_Wl_forge : Cond.instanceMethod y_Wl_forge ∈ mw_G lw_tbl := mw_G_in 612 (by decide +kernel) rfl
theorem wv_Wl_forge : Cond.selects "WaveLedger" y_Wl_forge y_Wl_forge ∈ mw_G lw_tbl := mw_G_in 613 (by decide +kernel) rfl
set_option maxRecDepth 100000 in
theorem wc_Wl_whisper : Cond.code y_Wl_whisper b_Wl_whisper 4 (some .int) ∈ mw_G lw_tbl := mw_G_in 632 (by rfl) rfl
theorem wm_Wl_whisper : Cond.instanceMethod y_Wl_whisper ∈ mw_G lw_tbl := mw_G_in 630 (by decide +kernel) rfl
theorem wv_Wl_whisper : Cond.selects "WaveLedger" y_Wl_whisper y_Wl_whisper ∈ mw_G lw_tbl := mw_G_in 631 (by decide +kernel) rfl
set_option maxRecDepth 100000 in
theorem wc_Wl_message : Cond.code y_Wl_message b_Wl_message 4 (some .int) ∈ mw_G lw_tbl := mw_G_in 459 (by rfl) rfl
theorem wm_Wl_message : Cond.instanceMethod y_Wl_message ∈ mw_G lw_tbl := mw_G_in 457 (by decide +kernel) rfl
theorem wv_Wl_message : Cond.selects "WaveLedger" y_Wl_message y_Wl_message ∈ mw_G lw_tbl := mw_G_in 458 (by decide +kernel) rfl
set_option maxRecDepth 100000 in
theorem wc_Wl_vertex : Cond.code y_Wl_vertex b_Wl_vertex 3 (some .int) ∈ mw_G lw_tbl := mw_G_in 463 (by rfl) rfl
theorem wm_Wl_vertex : Cond.instanceMethod y_Wl_vertex ∈ mw_G lw_tbl := mw_G_in 461 (by decide +kernel) rfl
theorem wv_Wl_vertex : Cond.selects "WaveLedger" y_Wl_vertex y_Wl_vertex ∈ mw_G lw_tbl := mw_G_in 462 (by decide +kernel) rfl
set_option maxRecDepth 100000 in
theorem wc_Wl_weak : Cond.code y_Wl_weak b_Wl_weak 2 (some .long) ∈ mw_G lw_tbl := mw_G_in 471 (by rfl) rfl
theorem wm_Wl_weak : Cond.instanceMethod y_Wl_weak ∈ mw_G lw_tbl := mw_G_in 469 (by decide +kernel) rfl
theorem wv_Wl_weak : Cond.selects "WaveLedger" y_Wl_weak y_Wl_weak ∈ mw_G lw_tbl := mw_G_in 470 (by decide +kernel) rfl
set_option maxRecDepth 100000 in
theorem wc_Wl_node : Cond.code y_Wl_node b_Wl_node 4 (some .int) ∈ mw_G lw_tbl := mw_G_in 476 (by rfl) rfl
theorem wm_Wl_node : Cond.instanceMethod y_Wl_node ∈ mw_G lw_tbl := mw_G_in 474 (by decide +kernel) rfl
theorem wv_Wl_node : Cond.selects "WaveLedger" y_Wl_node y_Wl_node ∈ mw_G lw_tbl := mw_G_in 475 (by decide +kernel) rfl
set_option maxRecDepth 100000 in
theorem wc_Wl_graph : Cond.code y_Wl_graph b_Wl_graph 4 (some .int) ∈ mw_G lw_tbl := mw_G_in 486 (by rfl) rfl
theorem wm_Wl_graph : Cond.instanceMethod y_Wl_graph ∈ mw_G lw_tbl := mw_G_in 484 (by decide +kernel) rfl
theorem wv_Wl_graph : Cond.selects "WaveLedger" y_Wl_graph y_Wl_graph ∈ mw_G lw_tbl := mw_G_in 485 (by decide +kernel) rfl
set_option maxRecDepth 100000 in
theorem wc_Wl_ordered : Cond.code y_Wl_ordered b_Wl_ordered 3 (some .int) ∈ mw_G lw_tbl := mw_G_in 491 (by rfl) rfl
theorem wm_Wl_ordered : Cond.instanceMethod y_Wl_ordered ∈ mw_G lw_tbl := mw_G_in 489 (by decide +kernel) rfl
theorem wv_Wl_ordered : Cond.selects "WaveLedger" y_Wl_ordered y_Wl_ordered ∈ mw_G lw_tbl := mw_G_in 490 (by decide +kernel) rfl
set_option maxRecDepth 100000 in
theorem wc_Wl_arrive : Cond.code y_Wl_arrive b_Wl_arrive 6 none ∈ mw_G lw_tbl := mw_G_in 390 (by rfl) rfl
theorem wm_Wl_arrive : Cond.instanceMethod y_Wl_arrive ∈ mw_G lw_tbl := mw_G_in 389 (by decide +kernel) rfl
theorem wv_Wl_arrive : Cond.selects "WaveLedger" y_Wl_arrive y_Wl_arrive ∈ mw_G lw_tbl := mw_G_in 6 (by decide +kernel) rfl
set_option maxRecDepth 100000 in
theorem wc_Wl_isActive : Cond.code y_Wl_isActive b_Wl_isActive 2 (some .boolean) ∈ mw_G lw_tbl := mw_G_in 275 (by rfl) rfl
theorem wm_Wl_isActive : Cond.instanceMethod y_Wl_isActive ∈ mw_G lw_tbl := mw_G_in 274 (by decide +kernel) rfl
theorem wv_Wl_isActive : Cond.selects "WaveLedger" y_Wl_isActive y_Wl_isActive ∈ mw_G lw_tbl := mw_G_in 0 (by decide +kernel) rfl
set_option maxRecDepth 100000 in
theorem wc_Wl_isNode : Cond.code y_Wl_isNode b_Wl_isNode 1 (some .boolean) ∈ mw_G lw_tbl := mw_G_in 64 (by rfl) rfl
theorem ws_Wl_isNode : Cond.static y_Wl_isNode ∈ mw_G lw_tbl := mw_G_in 63 (by decide +kernel) rfl
set_option maxRecDepth 100000 in
theorem wc_Wl_isAccount : Cond.code y_Wl_isAccount b_Wl_isAccount 1 (some .boolean) ∈ mw_G lw_tbl := mw_G_in 506 (by rfl) rfl
theorem ws_Wl_isAccount : Cond.static y_Wl_isAccount ∈ mw_G lw_tbl := mw_G_in 505 (by decide +kernel) rfl
set_option maxRecDepth 100000 in
theorem wc_Wl_isTransferOrNone : Cond.code y_Wl_isTransferOrNone b_Wl_isTransferOrNone 2 (some .boolean) ∈ mw_G lw_tbl := mw_G_in 619 (by rfl) rfl
theorem ws_Wl_isTransferOrNone : Cond.static y_Wl_isTransferOrNone ∈ mw_G lw_tbl := mw_G_in 618 (by decide +kernel) rfl
set_option maxRecDepth 100000 in
theorem wc_Wl_payerOf : Cond.code y_Wl_payerOf b_Wl_payerOf 1 (some .int) ∈ mw_G lw_tbl := mw_G_in 342 (by rfl) rfl
theorem ws_Wl_payerOf : Cond.static y_Wl_payerOf ∈ mw_G lw_tbl := mw_G_in 341 (by decide +kernel) rfl
set_option maxRecDepth 100000 in
theorem wc_Wl_payeeOf : Cond.code y_Wl_payeeOf b_Wl_payeeOf 1 (some .int) ∈ mw_G lw_tbl := mw_G_in 345 (by rfl) rfl
theorem ws_Wl_payeeOf : Cond.static y_Wl_payeeOf ∈ mw_G lw_tbl := mw_G_in 344 (by decide +kernel) rfl
set_option maxRecDepth 100000 in
theorem wc_Wl_numberOf : Cond.code y_Wl_numberOf b_Wl_numberOf 2 (some .int) ∈ mw_G lw_tbl := mw_G_in 290 (by rfl) rfl
theorem ws_Wl_numberOf : Cond.static y_Wl_numberOf ∈ mw_G lw_tbl := mw_G_in 289 (by decide +kernel) rfl
set_option maxRecDepth 100000 in
theorem wc_Wl_roundOf : Cond.code y_Wl_roundOf b_Wl_roundOf 1 (some .int) ∈ mw_G lw_tbl := mw_G_in 446 (by rfl) rfl
theorem ws_Wl_roundOf : Cond.static y_Wl_roundOf ∈ mw_G lw_tbl := mw_G_in 445 (by decide +kernel) rfl
set_option maxRecDepth 100000 in
theorem wc_Wl_bitOf : Cond.code y_Wl_bitOf b_Wl_bitOf 1 (some .long) ∈ mw_G lw_tbl := mw_G_in 332 (by rfl) rfl
theorem ws_Wl_bitOf : Cond.static y_Wl_bitOf ∈ mw_G lw_tbl := mw_G_in 331 (by decide +kernel) rfl
set_option maxRecDepth 100000 in
theorem wc_Wl_contains : Cond.code y_Wl_contains b_Wl_contains 3 (some .boolean) ∈ mw_G lw_tbl := mw_G_in 312 (by rfl) rfl
theorem ws_Wl_contains : Cond.static y_Wl_contains ∈ mw_G lw_tbl := mw_G_in 311 (by decide +kernel) rfl
set_option maxRecDepth 100000 in
theorem wc_Mo_init : Cond.code y_Mo_init b_Mo_init 5 none ∈ mw_G lw_tbl := mw_G_in 640 (by rfl) rfl
theorem wm_Mo_init : Cond.instanceMethod y_Mo_init ∈ mw_G lw_tbl := mw_G_in 639 (by decide +kernel) rfl
set_option maxRecDepth 100000 in
theorem wc_Mo_thrown : Cond.code y_Mo_thrown b_Mo_thrown 1 (some .int) ∈ mw_G lw_tbl := mw_G_in 734 (by rfl) rfl
theorem wm_Mo_thrown : Cond.instanceMethod y_Mo_thrown ∈ mw_G lw_tbl := mw_G_in 732 (by decide +kernel) rfl
theorem wv_Mo_thrown : Cond.selects "WaveLedgerModel" y_Mo_thrown y_Mo_thrown ∈ mw_G lw_tbl := mw_G_in 733 (by decide +kernel) rfl
set_option maxRecDepth 100000 in
theorem wc_Mo_refuse : Cond.code y_Mo_refuse b_Mo_refuse 2 (some .int) ∈ mw_G lw_tbl := mw_G_in 752 (by rfl) rfl
theorem wm_Mo_refuse : Cond.instanceMethod y_Mo_refuse ∈ mw_G lw_tbl := mw_G_in 751 (by decide +kernel) rfl
theorem wv_Mo_refuse : Cond.selects "WaveLedgerModel" y_Mo_refuse y_Mo_refuse ∈ mw_G lw_tbl := mw_G_in 11 (by decide +kernel) rfl
set_option maxRecDepth 100000 in
theorem wc_Mo_isNode : Cond.code y_Mo_isNode b_Mo_isNode 1 (some .boolean) ∈ mw_G lw_tbl := mw_G_in 741 (by rfl) rfl
theorem ws_Mo_isNode : Cond.static y_Mo_isNode ∈ mw_G lw_tbl := mw_G_in 740 (by decide +kernel) rfl
set_option maxRecDepth 100000 in
theorem wc_Mo_isFaulty : Cond.code y_Mo_isFaulty b_Mo_isFaulty 2 (some .boolean) ∈ mw_G lw_tbl := mw_G_in 745 (by rfl) rfl
theorem wm_Mo_isFaulty : Cond.instanceMethod y_Mo_isFaulty ∈ mw_G lw_tbl := mw_G_in 744 (by decide +kernel) rfl
theorem wv_Mo_isFaulty : Cond.selects "WaveLedgerModel" y_Mo_isFaulty y_Mo_isFaulty ∈ mw_G lw_tbl := mw_G_in 10 (by decide +kernel) rfl
set_option maxRecDepth 100000 in
theorem wc_Mo_draw : Cond.code y_Mo_draw b_Mo_draw 2 (some .int) ∈ mw_G lw_tbl := mw_G_in 823 (by rfl) rfl
theorem wm_Mo_draw : Cond.instanceMethod y_Mo_draw ∈ mw_G lw_tbl := mw_G_in 822 (by decide +kernel) rfl
theorem wv_Mo_draw : Cond.selects "WaveLedgerModel" y_Mo_draw y_Mo_draw ∈ mw_G lw_tbl := mw_G_in 26 (by decide +kernel) rfl
set_option maxRecDepth 100000 in
theorem wc_Mo_sendOne : Cond.code y_Mo_sendOne b_Mo_sendOne 5 none ∈ mw_G lw_tbl := mw_G_in 815 (by rfl) rfl
theorem wm_Mo_sendOne : Cond.instanceMethod y_Mo_sendOne ∈ mw_G lw_tbl := mw_G_in 814 (by decide +kernel) rfl
theorem wv_Mo_sendOne : Cond.selects "WaveLedgerModel" y_Mo_sendOne y_Mo_sendOne ∈ mw_G lw_tbl := mw_G_in 25 (by decide +kernel) rfl
set_option maxRecDepth 100000 in
theorem wc_Mo_broadcast : Cond.code y_Mo_broadcast b_Mo_broadcast 5 none ∈ mw_G lw_tbl := mw_G_in 811 (by rfl) rfl
theorem wm_Mo_broadcast : Cond.instanceMethod y_Mo_broadcast ∈ mw_G lw_tbl := mw_G_in 810 (by decide +kernel) rfl
theorem wv_Mo_broadcast : Cond.selects "WaveLedgerModel" y_Mo_broadcast y_Mo_broadcast ∈ mw_G lw_tbl := mw_G_in 24 (by decide +kernel) rfl
set_option maxRecDepth 100000 in
theorem wc_Mo_comes : Cond.code y_Mo_comes b_Mo_comes 8 none ∈ mw_G lw_tbl := mw_G_in 828 (by rfl) rfl
theorem wm_Mo_comes : Cond.instanceMethod y_Mo_comes ∈ mw_G lw_tbl := mw_G_in 827 (by decide +kernel) rfl
theorem wv_Mo_comes : Cond.selects "WaveLedgerModel" y_Mo_comes y_Mo_comes ∈ mw_G lw_tbl := mw_G_in 27 (by decide +kernel) rfl
set_option maxRecDepth 100000 in
theorem wc_Mo_sendComes : Cond.code y_Mo_sendComes b_Mo_sendComes 5 none ∈ mw_G lw_tbl := mw_G_in 832 (by rfl) rfl
theorem wm_Mo_sendComes : Cond.instanceMethod y_Mo_sendComes ∈ mw_G lw_tbl := mw_G_in 831 (by decide +kernel) rfl
theorem wv_Mo_sendComes : Cond.selects "WaveLedgerModel" y_Mo_sendComes y_Mo_sendComes ∈ mw_G lw_tbl := mw_G_in 28 (by decide +kernel) rfl
set_option maxRecDepth 100000 in
theorem wc_Mo_noted : Cond.code y_Mo_noted b_Mo_noted 5 (some .int) ∈ mw_G lw_tbl := mw_G_in 839 (by rfl) rfl
theorem ws_Mo_noted : Cond.static y_Mo_noted ∈ mw_G lw_tbl := mw_G_in 838 (by decide +kernel) rfl
set_option maxRecDepth 100000 in
theorem wc_Mo_ready : Cond.code y_Mo_ready b_Mo_ready 4 none ∈ mw_G lw_tbl := mw_G_in 843 (by rfl) rfl
theorem wm_Mo_ready : Cond.instanceMethod y_Mo_ready ∈ mw_G lw_tbl := mw_G_in 842 (by decide +kernel) rfl
theorem wv_Mo_ready : Cond.selects "WaveLedgerModel" y_Mo_ready y_Mo_ready ∈ mw_G lw_tbl := mw_G_in 30 (by decide +kernel) rfl
set_option maxRecDepth 100000 in
theorem wc_Mo_echoComes : Cond.code y_Mo_echoComes b_Mo_echoComes 5 none ∈ mw_G lw_tbl := mw_G_in 836 (by rfl) rfl
theorem wm_Mo_echoComes : Cond.instanceMethod y_Mo_echoComes ∈ mw_G lw_tbl := mw_G_in 835 (by decide +kernel) rfl
theorem wv_Mo_echoComes : Cond.selects "WaveLedgerModel" y_Mo_echoComes y_Mo_echoComes ∈ mw_G lw_tbl := mw_G_in 29 (by decide +kernel) rfl
set_option maxRecDepth 100000 in
theorem wc_Mo_readyComes : Cond.code y_Mo_readyComes b_Mo_readyComes 6 none ∈ mw_G lw_tbl := mw_G_in 847 (by rfl) rfl
theorem wm_Mo_readyComes : Cond.instanceMethod y_Mo_readyComes ∈ mw_G lw_tbl := mw_G_in 846 (by decide +kernel) rfl
theorem wv_Mo_readyComes : Cond.selects "WaveLedgerModel" y_Mo_readyComes y_Mo_readyComes ∈ mw_G lw_tbl := mw_G_in 31 (by decide +kernel) rfl
set_option maxRecDepth 100000 in
theorem wc_Mo_bits : Cond.code y_Mo_bits b_Mo_bits 1 (some .int) ∈ mw_G lw_tbl := mw_G_in 771 (by rfl) rfl
theorem ws_Mo_bits : Cond.static y_Mo_bits ∈ mw_G lw_tbl := mw_G_in 770 (by decide +kernel) rfl
set_option maxRecDepth 100000 in
theorem wc_Mo_isRight : Cond.code y_Mo_isRight b_Mo_isRight 5 (some .boolean) ∈ mw_G lw_tbl := mw_G_in 859 (by rfl) rfl
theorem wm_Mo_isRight : Cond.instanceMethod y_Mo_isRight ∈ mw_G lw_tbl := mw_G_in 858 (by decide +kernel) rfl
theorem wv_Mo_isRight : Cond.selects "WaveLedgerModel" y_Mo_isRight y_Mo_isRight ∈ mw_G lw_tbl := mw_G_in 34 (by decide +kernel) rfl
set_option maxRecDepth 100000 in
theorem wc_Mo_points : Cond.code y_Mo_points b_Mo_points 6 (some .long) ∈ mw_G lw_tbl := mw_G_in 787 (by rfl) rfl
theorem wm_Mo_points : Cond.instanceMethod y_Mo_points ∈ mw_G lw_tbl := mw_G_in 786 (by decide +kernel) rfl
theorem wv_Mo_points : Cond.selects "WaveLedgerModel" y_Mo_points y_Mo_points ∈ mw_G lw_tbl := mw_G_in 18 (by decide +kernel) rfl
set_option maxRecDepth 100000 in
theorem wc_Mo_graphOf : Cond.code y_Mo_graphOf b_Mo_graphOf 5 (some .long) ∈ mw_G lw_tbl := mw_G_in 855 (by rfl) rfl
theorem wm_Mo_graphOf : Cond.instanceMethod y_Mo_graphOf ∈ mw_G lw_tbl := mw_G_in 854 (by decide +kernel) rfl
theorem wv_Mo_graphOf : Cond.selects "WaveLedgerModel" y_Mo_graphOf y_Mo_graphOf ∈ mw_G lw_tbl := mw_G_in 33 (by decide +kernel) rfl
set_option maxRecDepth 100000 in
theorem wc_Mo_addAll : Cond.code y_Mo_addAll b_Mo_addAll 7 none ∈ mw_G lw_tbl := mw_G_in 851 (by rfl) rfl
theorem wm_Mo_addAll : Cond.instanceMethod y_Mo_addAll ∈ mw_G lw_tbl := mw_G_in 850 (by decide +kernel) rfl
theorem wv_Mo_addAll : Cond.selects "WaveLedgerModel" y_Mo_addAll y_Mo_addAll ∈ mw_G lw_tbl := mw_G_in 32 (by decide +kernel) rfl
set_option maxRecDepth 100000 in
theorem wc_Mo_below : Cond.code y_Mo_below b_Mo_below 9 (some .long) ∈ mw_G lw_tbl := mw_G_in 783 (by rfl) rfl
theorem wm_Mo_below : Cond.instanceMethod y_Mo_below ∈ mw_G lw_tbl := mw_G_in 782 (by decide +kernel) rfl
theorem wv_Mo_below : Cond.selects "WaveLedgerModel" y_Mo_below y_Mo_below ∈ mw_G lw_tbl := mw_G_in 17 (by decide +kernel) rfl
set_option maxRecDepth 100000 in
theorem wc_Mo_inRound : Cond.code y_Mo_inRound b_Mo_inRound 5 (some .int) ∈ mw_G lw_tbl := mw_G_in 768 (by rfl) rfl
theorem wm_Mo_inRound : Cond.instanceMethod y_Mo_inRound ∈ mw_G lw_tbl := mw_G_in 767 (by decide +kernel) rfl
theorem wv_Mo_inRound : Cond.selects "WaveLedgerModel" y_Mo_inRound y_Mo_inRound ∈ mw_G lw_tbl := mw_G_in 14 (by decide +kernel) rfl
set_option maxRecDepth 100000 in
theorem wc_Mo_leader : Cond.code y_Mo_leader b_Mo_leader 2 (some .int) ∈ mw_G lw_tbl := mw_G_in 779 (by rfl) rfl
theorem wm_Mo_leader : Cond.instanceMethod y_Mo_leader ∈ mw_G lw_tbl := mw_G_in 778 (by decide +kernel) rfl
theorem wv_Mo_leader : Cond.selects "WaveLedgerModel" y_Mo_leader y_Mo_leader ∈ mw_G lw_tbl := mw_G_in 16 (by decide +kernel) rfl
set_option maxRecDepth 100000 in
theorem wc_Mo_done : Cond.code y_Mo_done b_Mo_done 9 none ∈ mw_G lw_tbl := mw_G_in 775 (by rfl) rfl
theorem wm_Mo_done : Cond.instanceMethod y_Mo_done ∈ mw_G lw_tbl := mw_G_in 774 (by decide +kernel) rfl
theorem wv_Mo_done : Cond.selects "WaveLedgerModel" y_Mo_done y_Mo_done ∈ mw_G lw_tbl := mw_G_in 15 (by decide +kernel) rfl
set_option maxRecDepth 100000 in
theorem wc_Mo_orderBelow : Cond.code y_Mo_orderBelow b_Mo_orderBelow 7 none ∈ mw_G lw_tbl := mw_G_in 791 (by rfl) rfl
theorem wm_Mo_orderBelow : Cond.instanceMethod y_Mo_orderBelow ∈ mw_G lw_tbl := mw_G_in 790 (by decide +kernel) rfl
theorem wv_Mo_orderBelow : Cond.selects "WaveLedgerModel" y_Mo_orderBelow y_Mo_orderBelow ∈ mw_G lw_tbl := mw_G_in 19 (by decide +kernel) rfl
set_option maxRecDepth 100000 in
theorem wc_Mo_make : Cond.code y_Mo_make b_Mo_make 6 none ∈ mw_G lw_tbl := mw_G_in 795 (by rfl) rfl
theorem wm_Mo_make : Cond.instanceMethod y_Mo_make ∈ mw_G lw_tbl := mw_G_in 794 (by decide +kernel) rfl
theorem wv_Mo_make : Cond.selects "WaveLedgerModel" y_Mo_make y_Mo_make ∈ mw_G lw_tbl := mw_G_in 20 (by decide +kernel) rfl
set_option maxRecDepth 100000 in
theorem wc_Mo_newVertex : Cond.code y_Mo_newVertex b_Mo_newVertex 6 (some .int) ∈ mw_G lw_tbl := mw_G_in 807 (by rfl) rfl
theorem wm_Mo_newVertex : Cond.instanceMethod y_Mo_newVertex ∈ mw_G lw_tbl := mw_G_in 806 (by decide +kernel) rfl
theorem wv_Mo_newVertex : Cond.selects "WaveLedgerModel" y_Mo_newVertex y_Mo_newVertex ∈ mw_G lw_tbl := mw_G_in 23 (by decide +kernel) rfl
set_option maxRecDepth 100000 in
theorem wc_Mo_firstTransfer : Cond.code y_Mo_firstTransfer b_Mo_firstTransfer 4 (some .int) ∈ mw_G lw_tbl := mw_G_in 803 (by rfl) rfl
theorem wm_Mo_firstTransfer : Cond.instanceMethod y_Mo_firstTransfer ∈ mw_G lw_tbl := mw_G_in 802 (by decide +kernel) rfl
theorem wv_Mo_firstTransfer : Cond.selects "WaveLedgerModel" y_Mo_firstTransfer y_Mo_firstTransfer ∈ mw_G lw_tbl := mw_G_in 22 (by decide +kernel) rfl
set_option maxRecDepth 100000 in
theorem wc_Mo_makeVertex : Cond.code y_Mo_makeVertex b_Mo_makeVertex 11 none ∈ mw_G lw_tbl := mw_G_in 799 (by rfl) rfl
theorem wm_Mo_makeVertex : Cond.instanceMethod y_Mo_makeVertex ∈ mw_G lw_tbl := mw_G_in 798 (by decide +kernel) rfl
theorem wv_Mo_makeVertex : Cond.selects "WaveLedgerModel" y_Mo_makeVertex y_Mo_makeVertex ∈ mw_G lw_tbl := mw_G_in 21 (by decide +kernel) rfl
set_option maxRecDepth 100000 in
theorem wc_Mo_isFull : Cond.code y_Mo_isFull b_Mo_isFull 2 (some .boolean) ∈ mw_G lw_tbl := mw_G_in 764 (by rfl) rfl
theorem wm_Mo_isFull : Cond.instanceMethod y_Mo_isFull ∈ mw_G lw_tbl := mw_G_in 763 (by decide +kernel) rfl
theorem wv_Mo_isFull : Cond.selects "WaveLedgerModel" y_Mo_isFull y_Mo_isFull ∈ mw_G lw_tbl := mw_G_in 13 (by decide +kernel) rfl
set_option maxRecDepth 100000 in
theorem wc_Mo_goesOn : Cond.code y_Mo_goesOn b_Mo_goesOn 3 none ∈ mw_G lw_tbl := mw_G_in 760 (by rfl) rfl
theorem wm_Mo_goesOn : Cond.instanceMethod y_Mo_goesOn ∈ mw_G lw_tbl := mw_G_in 759 (by decide +kernel) rfl
theorem wv_Mo_goesOn : Cond.selects "WaveLedgerModel" y_Mo_goesOn y_Mo_goesOn ∈ mw_G lw_tbl := mw_G_in 12 (by decide +kernel) rfl
set_option maxRecDepth 100000 in
theorem wc_Mo_isTransfer : Cond.code y_Mo_isTransfer b_Mo_isTransfer 3 (some .boolean) ∈ mw_G lw_tbl := mw_G_in 748 (by rfl) rfl
theorem ws_Mo_isTransfer : Cond.static y_Mo_isTransfer ∈ mw_G lw_tbl := mw_G_in 747 (by decide +kernel) rfl
set_option maxRecDepth 100000 in
theorem wc_Mo_transfer : Cond.code y_Mo_transfer b_Mo_transfer 5 (some .int) ∈ mw_G lw_tbl := mw_G_in 738 (by rfl) rfl
theorem wm_Mo_transfer : Cond.instanceMethod y_Mo_transfer ∈ mw_G lw_tbl := mw_G_in 736 (by decide +kernel) rfl
theorem wv_Mo_transfer : Cond.selects "WaveLedgerModel" y_Mo_transfer y_Mo_transfer ∈ mw_G lw_tbl := mw_G_in 737 (by decide +kernel) rfl
set_option maxRecDepth 100000 in
theorem wc_Mo_begin : Cond.code y_Mo_begin b_Mo_begin 2 (some .boolean) ∈ mw_G lw_tbl := mw_G_in 756 (by rfl) rfl
theorem wm_Mo_begin : Cond.instanceMethod y_Mo_begin ∈ mw_G lw_tbl := mw_G_in 754 (by decide +kernel) rfl
theorem wv_Mo_begin : Cond.selects "WaveLedgerModel" y_Mo_begin y_Mo_begin ∈ mw_G lw_tbl := mw_G_in 755 (by decide +kernel) rfl
set_option maxRecDepth 100000 in
theorem wc_Mo_run : Cond.code y_Mo_run b_Mo_run 4 (some .int) ∈ mw_G lw_tbl := mw_G_in 819 (by rfl) rfl
theorem wm_Mo_run : Cond.instanceMethod y_Mo_run ∈ mw_G lw_tbl := mw_G_in 817 (by decide +kernel) rfl
theorem wv_Mo_run : Cond.selects "WaveLedgerModel" y_Mo_run y_Mo_run ∈ mw_G lw_tbl := mw_G_in 818 (by decide +kernel) rfl
set_option maxRecDepth 100000 in
theorem wc_Mo_deliver : Cond.code y_Mo_deliver b_Mo_deliver 2 (some .boolean) ∈ mw_G lw_tbl := mw_G_in 864 (by rfl) rfl
theorem wm_Mo_deliver : Cond.instanceMethod y_Mo_deliver ∈ mw_G lw_tbl := mw_G_in 862 (by decide +kernel) rfl
theorem wv_Mo_deliver : Cond.selects "WaveLedgerModel" y_Mo_deliver y_Mo_deliver ∈ mw_G lw_tbl := mw_G_in 863 (by decide +kernel) rfl
set_option maxRecDepth 100000 in
theorem wc_Mo_forge : Cond.code y_Mo_forge b_Mo_forge 7 (some .int) ∈ mw_G lw_tbl := mw_G_in 868 (by rfl) rfl
theorem wm_Mo_forge : Cond.instanceMethod y_Mo_forge ∈ mw_G lw_tbl := mw_G_in 866 (by decide +kernel) rfl
theorem wv_Mo_forge : Cond.selects "WaveLedgerModel" y_Mo_forge y_Mo_forge ∈ mw_G lw_tbl := mw_G_in 867 (by decide +kernel) rfl
set_option maxRecDepth 100000 in
theorem wc_Mo_whisper : Cond.code y_Mo_whisper b_Mo_whisper 4 (some .int) ∈ mw_G lw_tbl := mw_G_in 872 (by rfl) rfl
theorem wm_Mo_whisper : Cond.instanceMethod y_Mo_whisper ∈ mw_G lw_tbl := mw_G_in 870 (by decide +kernel) rfl
theorem wv_Mo_whisper : Cond.selects "WaveLedgerModel" y_Mo_whisper y_Mo_whisper ∈ mw_G lw_tbl := mw_G_in 871 (by decide +kernel) rfl
set_option maxRecDepth 100000 in
theorem wc_Mo_message : Cond.code y_Mo_message b_Mo_message 4 (some .int) ∈ mw_G lw_tbl := mw_G_in 876 (by rfl) rfl
theorem wm_Mo_message : Cond.instanceMethod y_Mo_message ∈ mw_G lw_tbl := mw_G_in 874 (by decide +kernel) rfl
theorem wv_Mo_message : Cond.selects "WaveLedgerModel" y_Mo_message y_Mo_message ∈ mw_G lw_tbl := mw_G_in 875 (by decide +kernel) rfl
set_option maxRecDepth 100000 in
theorem wc_Mo_vertex : Cond.code y_Mo_vertex b_Mo_vertex 3 (some .int) ∈ mw_G lw_tbl := mw_G_in 880 (by rfl) rfl
theorem wm_Mo_vertex : Cond.instanceMethod y_Mo_vertex ∈ mw_G lw_tbl := mw_G_in 878 (by decide +kernel) rfl
theorem wv_Mo_vertex : Cond.selects "WaveLedgerModel" y_Mo_vertex y_Mo_vertex ∈ mw_G lw_tbl := mw_G_in 879 (by decide +kernel) rfl
set_option maxRecDepth 100000 in
theorem wc_Mo_weak : Cond.code y_Mo_weak b_Mo_weak 2 (some .long) ∈ mw_G lw_tbl := mw_G_in 884 (by rfl) rfl
theorem wm_Mo_weak : Cond.instanceMethod y_Mo_weak ∈ mw_G lw_tbl := mw_G_in 882 (by decide +kernel) rfl
theorem wv_Mo_weak : Cond.selects "WaveLedgerModel" y_Mo_weak y_Mo_weak ∈ mw_G lw_tbl := mw_G_in 883 (by decide +kernel) rfl
set_option maxRecDepth 100000 in
theorem wc_Mo_graphSize : Cond.code y_Mo_graphSize b_Mo_graphSize 4 (some .int) ∈ mw_G lw_tbl := mw_G_in 892 (by rfl) rfl
theorem wm_Mo_graphSize : Cond.instanceMethod y_Mo_graphSize ∈ mw_G lw_tbl := mw_G_in 891 (by decide +kernel) rfl
theorem wv_Mo_graphSize : Cond.selects "WaveLedgerModel" y_Mo_graphSize y_Mo_graphSize ∈ mw_G lw_tbl := mw_G_in 35 (by decide +kernel) rfl
set_option maxRecDepth 100000 in
theorem wc_Mo_node : Cond.code y_Mo_node b_Mo_node 3 (some .int) ∈ mw_G lw_tbl := mw_G_in 888 (by rfl) rfl
theorem wm_Mo_node : Cond.instanceMethod y_Mo_node ∈ mw_G lw_tbl := mw_G_in 886 (by decide +kernel) rfl
theorem wv_Mo_node : Cond.selects "WaveLedgerModel" y_Mo_node y_Mo_node ∈ mw_G lw_tbl := mw_G_in 887 (by decide +kernel) rfl
set_option maxRecDepth 100000 in
theorem wc_Mo_graph : Cond.code y_Mo_graph b_Mo_graph 4 (some .int) ∈ mw_G lw_tbl := mw_G_in 896 (by rfl) rfl
theorem wm_Mo_graph : Cond.instanceMethod y_Mo_graph ∈ mw_G lw_tbl := mw_G_in 894 (by decide +kernel) rfl
theorem wv_Mo_graph : Cond.selects "WaveLedgerModel" y_Mo_graph y_Mo_graph ∈ mw_G lw_tbl := mw_G_in 895 (by decide +kernel) rfl
set_option maxRecDepth 100000 in
theorem wc_Mo_ordered : Cond.code y_Mo_ordered b_Mo_ordered 3 (some .int) ∈ mw_G lw_tbl := mw_G_in 900 (by rfl) rfl
theorem wm_Mo_ordered : Cond.instanceMethod y_Mo_ordered ∈ mw_G lw_tbl := mw_G_in 898 (by decide +kernel) rfl
theorem wv_Mo_ordered : Cond.selects "WaveLedgerModel" y_Mo_ordered y_Mo_ordered ∈ mw_G lw_tbl := mw_G_in 899 (by decide +kernel) rfl
set_option maxRecDepth 100000 in
theorem wc_La_cell : Cond.code y_La_cell b_La_cell 2 (some .int) ∈ mw_G lw_tbl := mw_G_in 494 (by rfl) rfl
theorem ws_La_cell : Cond.static y_La_cell ∈ mw_G lw_tbl := mw_G_in 493 (by decide +kernel) rfl
theorem ws_La_transfer : Cond.static y_La_transfer ∈ mw_G lw_tbl := mw_G_in 496 (by decide +kernel) rfl
theorem ws_La_run : Cond.static y_La_run ∈ mw_G lw_tbl := mw_G_in 600 (by decide +kernel) rfl
theorem ws_La_forge : Cond.static y_La_forge ∈ mw_G lw_tbl := mw_G_in 609 (by decide +kernel) rfl
theorem ws_La_whisper : Cond.static y_La_whisper ∈ mw_G lw_tbl := mw_G_in 627 (by decide +kernel) rfl
set_option maxRecDepth 100000 in
theorem wc_In_bitCount : Cond.code y_In_bitCount b_In_bitCount 1 (some .int) ∈ mw_G lw_tbl := mw_G_in 293 (by rfl) rfl
theorem ws_In_bitCount : Cond.static y_In_bitCount ∈ mw_G lw_tbl := mw_G_in 292 (by decide +kernel) rfl
set_option maxRecDepth 100000 in
theorem wc_Lo_bitCount : Cond.code y_Lo_bitCount b_Lo_bitCount 2 (some .int) ∈ mw_G lw_tbl := mw_G_in 479 (by rfl) rfl
theorem ws_Lo_bitCount : Cond.static y_Lo_bitCount ∈ mw_G lw_tbl := mw_G_in 478 (by decide +kernel) rfl
theorem f_Bo_9 : mw_F "WaveLedger$Book" lw_tbl vCl 9 0 0 := ⟨R_Bo, T_Bo, 4, rfl, by decide, wu_Bo, rfl, Or.inl (mw_G_in 128 (by decide +kernel) rfl)⟩
theorem f_Bo_15 : mw_F "WaveLedger$Book" lw_tbl vCl 15 0 1 := ⟨R_Bo, T_Bo, 4, rfl, by decide, wu_Bo, rfl, Or.inl (mw_G_in 130 (by decide +kernel) rfl)⟩
theorem f_Bo_18 : mw_F "WaveLedger$Book" lw_tbl vCl 18 0 3 := ⟨R_Bo, T_Bo, 4, rfl, by decide, wu_Bo, rfl, Or.inl (mw_G_in 134 (by decide +kernel) rfl)⟩
theorem f_Bo_22 : mw_F "WaveLedger$Book" lw_tbl vCl 22 0 2 := ⟨R_Bo, T_Bo, 4, rfl, by decide, wu_Bo, rfl, Or.inl (mw_G_in 132 (by decide +kernel) rfl)⟩
theorem kb_Bo_26 : mw_KB lw_tbl "WaveLedger$Book" 26 y_Wl_bitOf b_Wl_bitOf 1 (some .long) 1 := ⟨wc_Wl_bitOf, wi_Wl, by decide +kernel, Or.inr ⟨"WaveLedger", mw_N_in 339 (by decide +kernel) rfl⟩⟩
theorem kb_Bo_30 : mw_KB lw_tbl "WaveLedger$Book" 30 y_Wl_payerOf b_Wl_payerOf 1 (some .int) 1 := ⟨wc_Wl_payerOf, wi_Wl, by decide +kernel, Or.inr ⟨"WaveLedger", mw_N_in 340 (by decide +kernel) rfl⟩⟩
theorem kb_Bo_34 : mw_KB lw_tbl "WaveLedger$Book" 34 y_Wl_payeeOf b_Wl_payeeOf 1 (some .int) 1 := ⟨wc_Wl_payeeOf, wi_Wl, by decide +kernel, Or.inr ⟨"WaveLedger", mw_N_in 343 (by decide +kernel) rfl⟩⟩
theorem f_Gr_9 : mw_F "WaveLedger$Graph" lw_tbl vCl 9 1 1 := ⟨R_Gr, T_Gr, 5, rfl, by decide, wu_Gr, rfl, Or.inl (mw_G_in 176 (by decide +kernel) rfl)⟩
theorem f_Gr_15 : mw_F "WaveLedger$Graph" lw_tbl vCl 15 1 2 := ⟨R_Gr, T_Gr, 5, rfl, by decide, wu_Gr, rfl, Or.inl (mw_G_in 179 (by decide +kernel) rfl)⟩
theorem f_Gr_19 : mw_F "WaveLedger$Graph" lw_tbl vCl 19 1 3 := ⟨R_Gr, T_Gr, 5, rfl, by decide, wu_Gr, rfl, Or.inl (mw_G_in 181 (by decide +kernel) rfl)⟩
theorem f_Gr_22 : mw_F "WaveLedger$Graph" lw_tbl vCl 22 1 0 := ⟨R_Gr, T_Gr, 5, rfl, by decide, wu_Gr, rfl, Or.inl (mw_G_in 175 (by decide +kernel) rfl)⟩
theorem f_Gr_26 : mw_F "WaveLedger$Graph" lw_tbl vCl 26 1 4 := ⟨R_Gr, T_Gr, 5, rfl, by decide, wu_Gr, rfl, Or.inl (mw_G_in 182 (by decide +kernel) rfl)⟩
theorem kb_Gr_30 : mw_KB lw_tbl "WaveLedger$Graph" 30 y_Wl_contains b_Wl_contains 3 (some .boolean) 2 := ⟨wc_Wl_contains, wi_Wl, by decide +kernel, Or.inr ⟨"WaveLedger", mw_N_in 310 (by decide +kernel) rfl⟩⟩
theorem f_Gr_34 : mw_F "WaveLedger$Graph" lw_tbl vCl 34 5 0 := ⟨R_Ve, T_Ve, 5, rfl, by decide, wu_Ve, rfl, Or.inr ⟨"WaveLedger", mw_N_in 73 (by decide +kernel) rfl⟩⟩
theorem kb_Gr_39 : mw_KB lw_tbl "WaveLedger$Graph" 39 y_Gr_has b_Gr_has 2 (some .boolean) 1 := ⟨wc_Gr_has, wi_Gr, by decide +kernel, Or.inl (mw_G_in 358 (by decide +kernel) rfl)⟩
theorem kb_Gr_43 : mw_KB lw_tbl "WaveLedger$Graph" 43 y_Gr_addIfAllowed b_Gr_addIfAllowed 7 none 1 := ⟨wc_Gr_addIfAllowed, wi_Gr, by decide +kernel, Or.inl (mw_G_in 436 (by decide +kernel) rfl)⟩
theorem kb_Gr_47 : mw_KB lw_tbl "WaveLedger$Graph" 47 y_Ve_isRight b_Ve_isRight 5 (some .boolean) 1 := ⟨wc_Ve_isRight, wi_Ve, by decide +kernel, Or.inl (mw_G_in 440 (by decide +kernel) rfl)⟩
theorem kb_Gr_50 : mw_KB lw_tbl "WaveLedger$Graph" 50 y_Ve_strongPlacesOf b_Ve_strongPlacesOf 3 (some .long) 1 := ⟨wc_Ve_strongPlacesOf, wi_Ve, by decide +kernel, Or.inl (mw_G_in 451 (by decide +kernel) rfl)⟩
theorem f_Gr_54 : mw_F "WaveLedger$Graph" lw_tbl vCl 54 5 2 := ⟨R_Ve, T_Ve, 5, rfl, by decide, wu_Ve, rfl, Or.inr ⟨"WaveLedger", mw_N_in 78 (by decide +kernel) rfl⟩⟩
theorem kc_Gr_57 : Cond.constantLong "WaveLedger$Graph" 57 (-1 : Int64) ∈ mw_G lw_tbl := mw_G_in 455 (by decide +kernel) rfl
theorem kb_Gr_59 : mw_KB lw_tbl "WaveLedger$Graph" 59 y_Gr_follow b_Gr_follow 6 (some .long) 2 := ⟨wc_Gr_follow, wi_Gr, by decide +kernel, Or.inl (mw_G_in 355 (by decide +kernel) rfl)⟩
theorem kb_Gr_63 : mw_KB lw_tbl "WaveLedger$Graph" 63 y_Wl_bitOf b_Wl_bitOf 1 (some .long) 1 := ⟨wc_Wl_bitOf, wi_Wl, by decide +kernel, Or.inr ⟨"WaveLedger", mw_N_in 359 (by decide +kernel) rfl⟩⟩
theorem kb_Gr_66 : mw_KB lw_tbl "WaveLedger$Graph" 66 y_Wl_numberOf b_Wl_numberOf 2 (some .int) 2 := ⟨wc_Wl_numberOf, wi_Wl, by decide +kernel, Or.inr ⟨"WaveLedger", mw_N_in 288 (by decide +kernel) rfl⟩⟩
theorem kb_Gr_70 : mw_KB lw_tbl "WaveLedger$Graph" 70 y_Gr_nodesIn b_Gr_nodesIn 2 (some .int) 1 := ⟨wc_Gr_nodesIn, wi_Gr, by decide +kernel, Or.inl (mw_G_in 284 (by decide +kernel) rfl)⟩
theorem kb_Gr_74 : mw_KB lw_tbl "WaveLedger$Graph" 74 y_In_bitCount b_In_bitCount 1 (some .int) 1 := ⟨wc_In_bitCount, wi_In, by decide +kernel, Or.inl (mw_G_in 291 (by decide +kernel) rfl)⟩
theorem kb_Gr_79 : mw_KB lw_tbl "WaveLedger$Graph" 79 y_Gr_leadsStrongly b_Gr_leadsStrongly 3 (some .boolean) 2 := ⟨wc_Gr_leadsStrongly, wi_Gr, by decide +kernel, Or.inl (mw_G_in 317 (by decide +kernel) rfl)⟩
theorem f_Ma_9 : mw_F "WaveLedger$Mail" lw_tbl vCl 9 2 1 := ⟨R_Ma, T_Ma, 3, rfl, by decide, wu_Ma, rfl, Or.inl (mw_G_in 104 (by decide +kernel) rfl)⟩
theorem f_Ma_15 : mw_F "WaveLedger$Mail" lw_tbl vCl 15 2 0 := ⟨R_Ma, T_Ma, 3, rfl, by decide, wu_Ma, rfl, Or.inl (mw_G_in 103 (by decide +kernel) rfl)⟩
theorem f_Ma_19 : mw_F "WaveLedger$Mail" lw_tbl vCl 19 2 2 := ⟨R_Ma, T_Ma, 3, rfl, by decide, wu_Ma, rfl, Or.inl (mw_G_in 106 (by decide +kernel) rfl)⟩
theorem kb_Ma_22 : mw_KB lw_tbl "WaveLedger$Mail" 22 y_Ma_send b_Ma_send 5 none 4 := ⟨wc_Ma_send, wi_Ma, by decide +kernel, Or.inl (mw_G_in 375 (by decide +kernel) rfl)⟩
theorem kl_Ma_26 : Cond.methodLink "WaveLedger$Mail" 26 arraycopyName ∈ mw_G lw_tbl := mw_G_in 395 (by decide +kernel) rfl
theorem kb_No_11 : mw_KB lw_tbl "WaveLedger$Node" 11 y_Bo_init b_Bo_init 2 none 0 := ⟨wc_Bo_init, wi_Bo, by decide +kernel, Or.inl (mw_G_in 124 (by decide +kernel) rfl)⟩
theorem f_No_12 : mw_F "WaveLedger$Node" lw_tbl vCl 12 3 5 := ⟨R_No, T_No, 15, rfl, by decide, wu_No, rfl, Or.inl (mw_G_in 201 (by decide +kernel) rfl)⟩
theorem kb_No_20 : mw_KB lw_tbl "WaveLedger$Node" 20 y_Tq_init b_Tq_init 1 none 0 := ⟨wc_Tq_init, wi_Tq, by decide +kernel, Or.inr ⟨"WaveLedger", mw_N_in 147 (by decide +kernel) rfl⟩⟩
theorem f_No_21 : mw_F "WaveLedger$Node" lw_tbl vCl 21 3 6 := ⟨R_No, T_No, 15, rfl, by decide, wu_No, rfl, Or.inl (mw_G_in 203 (by decide +kernel) rfl)⟩
theorem kb_No_27 : mw_KB lw_tbl "WaveLedger$Node" 27 y_Vo_init b_Vo_init 1 none 0 := ⟨wc_Vo_init, wi_Vo, by decide +kernel, Or.inr ⟨"WaveLedger", mw_N_in 161 (by decide +kernel) rfl⟩⟩
theorem f_No_28 : mw_F "WaveLedger$Node" lw_tbl vCl 28 3 7 := ⟨R_No, T_No, 15, rfl, by decide, wu_No, rfl, Or.inl (mw_G_in 205 (by decide +kernel) rfl)⟩
theorem f_No_32 : mw_F "WaveLedger$Node" lw_tbl vCl 32 3 8 := ⟨R_No, T_No, 15, rfl, by decide, wu_No, rfl, Or.inl (mw_G_in 206 (by decide +kernel) rfl)⟩
theorem f_No_35 : mw_F "WaveLedger$Node" lw_tbl vCl 35 3 9 := ⟨R_No, T_No, 15, rfl, by decide, wu_No, rfl, Or.inl (mw_G_in 207 (by decide +kernel) rfl)⟩
theorem f_No_39 : mw_F "WaveLedger$Node" lw_tbl vCl 39 3 0 := ⟨R_No, T_No, 15, rfl, by decide, wu_No, rfl, Or.inl (mw_G_in 195 (by decide +kernel) rfl)⟩
theorem f_No_43 : mw_F "WaveLedger$Node" lw_tbl vCl 43 3 1 := ⟨R_No, T_No, 15, rfl, by decide, wu_No, rfl, Or.inl (mw_G_in 196 (by decide +kernel) rfl)⟩
theorem f_No_46 : mw_F "WaveLedger$Node" lw_tbl vCl 46 3 2 := ⟨R_No, T_No, 15, rfl, by decide, wu_No, rfl, Or.inl (mw_G_in 197 (by decide +kernel) rfl)⟩
theorem f_No_50 : mw_F "WaveLedger$Node" lw_tbl vCl 50 3 3 := ⟨R_No, T_No, 15, rfl, by decide, wu_No, rfl, Or.inl (mw_G_in 198 (by decide +kernel) rfl)⟩
theorem kb_No_56 : mw_KB lw_tbl "WaveLedger$Node" 56 y_Gr_init b_Gr_init 2 none 1 := ⟨wc_Gr_init, wi_Gr, by decide +kernel, Or.inl (mw_G_in 171 (by decide +kernel) rfl)⟩
theorem f_No_59 : mw_F "WaveLedger$Node" lw_tbl vCl 59 3 4 := ⟨R_No, T_No, 15, rfl, by decide, wu_No, rfl, Or.inl (mw_G_in 199 (by decide +kernel) rfl)⟩
theorem f_No_63 : mw_F "WaveLedger$Node" lw_tbl vCl 63 5 0 := ⟨R_Ve, T_Ve, 5, rfl, by decide, wu_Ve, rfl, Or.inr ⟨"WaveLedger", mw_N_in 72 (by decide +kernel) rfl⟩⟩
theorem kb_No_68 : mw_KB lw_tbl "WaveLedger$Node" 68 y_Ve_sourceOf b_Ve_sourceOf 2 (some .int) 1 := ⟨wc_Ve_sourceOf, wi_Ve, by decide +kernel, Or.inl (mw_G_in 412 (by decide +kernel) rfl)⟩
theorem f_No_72 : mw_F "WaveLedger$Node" lw_tbl vCl 72 3 10 := ⟨R_No, T_No, 15, rfl, by decide, wu_No, rfl, Or.inl (mw_G_in 208 (by decide +kernel) rfl)⟩
theorem kb_No_76 : mw_KB lw_tbl "WaveLedger$Node" 76 y_Wl_contains b_Wl_contains 3 (some .boolean) 2 := ⟨wc_Wl_contains, wi_Wl, by decide +kernel, Or.inr ⟨"WaveLedger", mw_N_in 334 (by decide +kernel) rfl⟩⟩
theorem kb_No_80 : mw_KB lw_tbl "WaveLedger$Node" 80 y_Wl_bitOf b_Wl_bitOf 1 (some .long) 1 := ⟨wc_Wl_bitOf, wi_Wl, by decide +kernel, Or.inr ⟨"WaveLedger", mw_N_in 330 (by decide +kernel) rfl⟩⟩
theorem kb_No_84 : mw_KB lw_tbl "WaveLedger$Node" 84 y_Ma_broadcast b_Ma_broadcast 5 none 3 := ⟨wc_Ma_broadcast, wi_Ma, by decide +kernel, Or.inl (mw_G_in 371 (by decide +kernel) rfl)⟩
theorem kb_No_90 : mw_KB lw_tbl "WaveLedger$Node" 90 y_Vo_note b_Vo_note 7 (some .int) 3 := ⟨wc_Vo_note, wi_Vo, by decide +kernel, Or.inl (mw_G_in 420 (by decide +kernel) rfl)⟩
theorem kb_No_94 : mw_KB lw_tbl "WaveLedger$Node" 94 y_No_broadcastReadyOnce b_No_broadcastReadyOnce 3 none 2 := ⟨wc_No_broadcastReadyOnce, wi_No, by decide +kernel, Or.inl (mw_G_in 424 (by decide +kernel) rfl)⟩
theorem f_No_98 : mw_F "WaveLedger$Node" lw_tbl vCl 98 1 1 := ⟨R_Gr, T_Gr, 5, rfl, by decide, wu_Gr, rfl, Or.inr ⟨"WaveLedger", mw_N_in 177 (by decide +kernel) rfl⟩⟩
theorem kb_No_101 : mw_KB lw_tbl "WaveLedger$Node" 101 y_Gr_accept b_Gr_accept 3 none 1 := ⟨wc_Gr_accept, wi_Gr, by decide +kernel, Or.inl (mw_G_in 432 (by decide +kernel) rfl)⟩
theorem f_No_105 : mw_F "WaveLedger$Node" lw_tbl vCl 105 3 11 := ⟨R_No, T_No, 15, rfl, by decide, wu_No, rfl, Or.inl (mw_G_in 209 (by decide +kernel) rfl)⟩
theorem f_No_108 : mw_F "WaveLedger$Node" lw_tbl vCl 108 3 12 := ⟨R_No, T_No, 15, rfl, by decide, wu_No, rfl, Or.inl (mw_G_in 210 (by decide +kernel) rfl)⟩
theorem kb_No_111 : mw_KB lw_tbl "WaveLedger$Node" 111 y_Gr_hasQuorumIn b_Gr_hasQuorumIn 2 (some .boolean) 1 := ⟨wc_Gr_hasQuorumIn, wi_Gr, by decide +kernel, Or.inl (mw_G_in 280 (by decide +kernel) rfl)⟩
theorem kb_No_115 : mw_KB lw_tbl "WaveLedger$Node" 115 y_No_mayCommit b_No_mayCommit 3 (some .boolean) 1 := ⟨wc_No_mayCommit, wi_No, by decide +kernel, Or.inl (mw_G_in 297 (by decide +kernel) rfl)⟩
theorem kb_No_118 : mw_KB lw_tbl "WaveLedger$Node" 118 y_No_commit b_No_commit 5 none 1 := ⟨wc_No_commit, wi_No, by decide +kernel, Or.inl (mw_G_in 321 (by decide +kernel) rfl)⟩
theorem kb_No_121 : mw_KB lw_tbl "WaveLedger$Node" 121 y_No_broadcastOwnVertex b_No_broadcastOwnVertex 6 none 0 := ⟨wc_No_broadcastOwnVertex, wi_No, by decide +kernel, Or.inl (mw_G_in 346 (by decide +kernel) rfl)⟩
theorem f_No_124 : mw_F "WaveLedger$Node" lw_tbl vCl 124 3 14 := ⟨R_No, T_No, 15, rfl, by decide, wu_No, rfl, Or.inl (mw_G_in 214 (by decide +kernel) rfl)⟩
theorem kb_No_128 : mw_KB lw_tbl "WaveLedger$Node" 128 y_Gr_nodesIn b_Gr_nodesIn 2 (some .int) 1 := ⟨wc_Gr_nodesIn, wi_Gr, by decide +kernel, Or.inl (mw_G_in 350 (by decide +kernel) rfl)⟩
theorem kb_No_131 : mw_KB lw_tbl "WaveLedger$Node" 131 y_Gr_weakPlacesFor b_Gr_weakPlacesFor 11 (some .long) 1 := ⟨wc_Gr_weakPlacesFor, wi_Gr, by decide +kernel, Or.inl (mw_G_in 351 (by decide +kernel) rfl)⟩
theorem kb_No_134 : mw_KB lw_tbl "WaveLedger$Node" 134 y_Wl_numberOf b_Wl_numberOf 2 (some .int) 2 := ⟨wc_Wl_numberOf, wi_Wl, by decide +kernel, Or.inr ⟨"WaveLedger", mw_N_in 305 (by decide +kernel) rfl⟩⟩
theorem kb_No_138 : mw_KB lw_tbl "WaveLedger$Node" 138 y_Tq_takeFirstOrNone b_Tq_takeFirstOrNone 2 (some .int) 0 := ⟨wc_Tq_takeFirstOrNone, wi_Tq, by decide +kernel, Or.inl (mw_G_in 360 (by decide +kernel) rfl)⟩
theorem kb_No_142 : mw_KB lw_tbl "WaveLedger$Node" 142 y_Ve_make b_Ve_make 6 (some .int) 4 := ⟨wc_Ve_make, wi_Ve, by decide +kernel, Or.inl (mw_G_in 367 (by decide +kernel) rfl)⟩
theorem kb_No_146 : mw_KB lw_tbl "WaveLedger$Node" 146 y_No_leaderOf b_No_leaderOf 3 (some .int) 1 := ⟨wc_No_leaderOf, wi_No, by decide +kernel, Or.inl (mw_G_in 301 (by decide +kernel) rfl)⟩
theorem kb_No_149 : mw_KB lw_tbl "WaveLedger$Node" 149 y_Gr_has b_Gr_has 2 (some .boolean) 1 := ⟨wc_Gr_has, wi_Gr, by decide +kernel, Or.inl (mw_G_in 306 (by decide +kernel) rfl)⟩
theorem kb_No_152 : mw_KB lw_tbl "WaveLedger$Node" 152 y_Gr_supportFrom b_Gr_supportFrom 5 (some .int) 2 := ⟨wc_Gr_supportFrom, wi_Gr, by decide +kernel, Or.inl (mw_G_in 313 (by decide +kernel) rfl)⟩
theorem f_No_155 : mw_F "WaveLedger$Node" lw_tbl vCl 155 3 13 := ⟨R_No, T_No, 15, rfl, by decide, wu_No, rfl, Or.inl (mw_G_in 212 (by decide +kernel) rfl)⟩
theorem kb_No_158 : mw_KB lw_tbl "WaveLedger$Node" 158 y_Gr_leadsStrongly b_Gr_leadsStrongly 3 (some .boolean) 2 := ⟨wc_Gr_leadsStrongly, wi_Gr, by decide +kernel, Or.inl (mw_G_in 325 (by decide +kernel) rfl)⟩
theorem kb_No_162 : mw_KB lw_tbl "WaveLedger$Node" 162 y_No_orderFrom b_No_orderFrom 5 none 1 := ⟨wc_No_orderFrom, wi_No, by decide +kernel, Or.inl (mw_G_in 326 (by decide +kernel) rfl)⟩
theorem f_No_165 : mw_F "WaveLedger$Node" lw_tbl vCl 165 1 2 := ⟨R_Gr, T_Gr, 5, rfl, by decide, wu_Gr, rfl, Or.inr ⟨"WaveLedger", mw_N_in 180 (by decide +kernel) rfl⟩⟩
theorem f_No_169 : mw_F "WaveLedger$Node" lw_tbl vCl 169 0 2 := ⟨R_Bo, T_Bo, 4, rfl, by decide, wu_Bo, rfl, Or.inr ⟨"WaveLedger", mw_N_in 133 (by decide +kernel) rfl⟩⟩
theorem kc_No_172 : Cond.constantLong "WaveLedger$Node" 172 (-1 : Int64) ∈ mw_G lw_tbl := mw_G_in 333 (by decide +kernel) rfl
theorem f_No_174 : mw_F "WaveLedger$Node" lw_tbl vCl 174 5 3 := ⟨R_Ve, T_Ve, 5, rfl, by decide, wu_Ve, rfl, Or.inr ⟨"WaveLedger", mw_N_in 82 (by decide +kernel) rfl⟩⟩
theorem kb_No_177 : mw_KB lw_tbl "WaveLedger$Node" 177 y_Bo_enter b_Bo_enter 4 none 2 := ⟨wc_Bo_enter, wi_Bo, by decide +kernel, Or.inl (mw_G_in 335 (by decide +kernel) rfl)⟩
theorem f_Tq_9 : mw_F "WaveLedger$TransferQueue" lw_tbl vCl 9 4 0 := ⟨R_Tq, T_Tq, 2, rfl, by decide, wu_Tq, rfl, Or.inl (mw_G_in 151 (by decide +kernel) rfl)⟩
theorem f_Tq_15 : mw_F "WaveLedger$TransferQueue" lw_tbl vCl 15 4 1 := ⟨R_Tq, T_Tq, 2, rfl, by decide, wu_Tq, rfl, Or.inl (mw_G_in 152 (by decide +kernel) rfl)⟩
theorem kl_Tq_19 : Cond.methodLink "WaveLedger$TransferQueue" 19 arraycopyName ∈ mw_G lw_tbl := mw_G_in 364 (by decide +kernel) rfl
theorem f_Ve_9 : mw_F "WaveLedger$Vertices" lw_tbl vCl 9 5 0 := ⟨R_Ve, T_Ve, 5, rfl, by decide, wu_Ve, rfl, Or.inl (mw_G_in 71 (by decide +kernel) rfl)⟩
theorem f_Ve_15 : mw_F "WaveLedger$Vertices" lw_tbl vCl 15 5 1 := ⟨R_Ve, T_Ve, 5, rfl, by decide, wu_Ve, rfl, Or.inl (mw_G_in 75 (by decide +kernel) rfl)⟩
theorem f_Ve_18 : mw_F "WaveLedger$Vertices" lw_tbl vCl 18 5 2 := ⟨R_Ve, T_Ve, 5, rfl, by decide, wu_Ve, rfl, Or.inl (mw_G_in 77 (by decide +kernel) rfl)⟩
theorem f_Ve_22 : mw_F "WaveLedger$Vertices" lw_tbl vCl 22 5 3 := ⟨R_Ve, T_Ve, 5, rfl, by decide, wu_Ve, rfl, Or.inl (mw_G_in 80 (by decide +kernel) rfl)⟩
theorem f_Ve_25 : mw_F "WaveLedger$Vertices" lw_tbl vCl 25 5 4 := ⟨R_Ve, T_Ve, 5, rfl, by decide, wu_Ve, rfl, Or.inl (mw_G_in 83 (by decide +kernel) rfl)⟩
theorem kb_Ve_29 : mw_KB lw_tbl "WaveLedger$Vertices" 29 y_Wl_roundOf b_Wl_roundOf 1 (some .int) 1 := ⟨wc_Wl_roundOf, wi_Wl, by decide +kernel, Or.inr ⟨"WaveLedger", mw_N_in 444 (by decide +kernel) rfl⟩⟩
theorem kb_Ve_33 : mw_KB lw_tbl "WaveLedger$Vertices" 33 y_Wl_numberOf b_Wl_numberOf 2 (some .int) 2 := ⟨wc_Wl_numberOf, wi_Wl, by decide +kernel, Or.inr ⟨"WaveLedger", mw_N_in 447 (by decide +kernel) rfl⟩⟩
theorem kb_Ve_37 : mw_KB lw_tbl "WaveLedger$Vertices" 37 y_Wl_bitOf b_Wl_bitOf 1 (some .long) 1 := ⟨wc_Wl_bitOf, wi_Wl, by decide +kernel, Or.inr ⟨"WaveLedger", mw_N_in 448 (by decide +kernel) rfl⟩⟩
theorem kb_Ve_41 : mw_KB lw_tbl "WaveLedger$Vertices" 41 y_In_bitCount b_In_bitCount 1 (some .int) 1 := ⟨wc_In_bitCount, wi_In, by decide +kernel, Or.inl (mw_G_in 449 (by decide +kernel) rfl)⟩
theorem kc_Ve_46 : Cond.constantLong "WaveLedger$Vertices" 46 (-1 : Int64) ∈ mw_G lw_tbl := mw_G_in 450 (by decide +kernel) rfl
theorem f_Vo_9 : mw_F "WaveLedger$Votes" lw_tbl vCl 9 6 0 := ⟨R_Vo, T_Vo, 1, rfl, by decide, wu_Vo, rfl, Or.inl (mw_G_in 165 (by decide +kernel) rfl)⟩
theorem kb_Wl_9 : mw_KB lw_tbl "WaveLedger" 9 y_Wl_isNode b_Wl_isNode 1 (some .boolean) 1 := ⟨wc_Wl_isNode, wi_Wl, by decide +kernel, Or.inl (mw_G_in 62 (by decide +kernel) rfl)⟩
theorem kb_Wl_15 : mw_KB lw_tbl "WaveLedger" 15 y_Ve_init b_Ve_init 1 none 0 := ⟨wc_Ve_init, wi_Ve, by decide +kernel, Or.inr ⟨"WaveLedger", mw_N_in 67 (by decide +kernel) rfl⟩⟩
theorem kb_Wl_18 : mw_KB lw_tbl "WaveLedger" 18 y_Ma_init b_Ma_init 2 none 1 := ⟨wc_Ma_init, wi_Ma, by decide +kernel, Or.inl (mw_G_in 99 (by decide +kernel) rfl)⟩
theorem kb_Wl_23 : mw_KB lw_tbl "WaveLedger" 23 y_No_init b_No_init 5 none 4 := ⟨wc_No_init, wi_No, by decide +kernel, Or.inl (mw_G_in 118 (by decide +kernel) rfl)⟩
theorem f_Wl_26 : mw_F "WaveLedger" lw_tbl vCl 26 7 0 := ⟨R_Wl, T_Wl, 7, rfl, by decide, wu_Wl, rfl, Or.inl (mw_G_in 246 (by decide +kernel) rfl)⟩
theorem f_Wl_30 : mw_F "WaveLedger" lw_tbl vCl 30 7 1 := ⟨R_Wl, T_Wl, 7, rfl, by decide, wu_Wl, rfl, Or.inl (mw_G_in 247 (by decide +kernel) rfl)⟩
theorem f_Wl_34 : mw_F "WaveLedger" lw_tbl vCl 34 7 2 := ⟨R_Wl, T_Wl, 7, rfl, by decide, wu_Wl, rfl, Or.inl (mw_G_in 248 (by decide +kernel) rfl)⟩
theorem f_Wl_38 : mw_F "WaveLedger" lw_tbl vCl 38 7 3 := ⟨R_Wl, T_Wl, 7, rfl, by decide, wu_Wl, rfl, Or.inl (mw_G_in 249 (by decide +kernel) rfl)⟩
theorem f_Wl_42 : mw_F "WaveLedger" lw_tbl vCl 42 7 4 := ⟨R_Wl, T_Wl, 7, rfl, by decide, wu_Wl, rfl, Or.inl (mw_G_in 250 (by decide +kernel) rfl)⟩
theorem kb_Wl_45 : mw_KB lw_tbl "WaveLedger" 45 y_Wl_isActive b_Wl_isActive 2 (some .boolean) 1 := ⟨wc_Wl_isActive, wi_Wl, by decide +kernel, Or.inl (mw_G_in 272 (by decide +kernel) rfl)⟩
theorem kb_Wl_48 : mw_KB lw_tbl "WaveLedger" 48 y_Wl_isAccount b_Wl_isAccount 1 (some .boolean) 1 := ⟨wc_Wl_isAccount, wi_Wl, by decide +kernel, Or.inl (mw_G_in 504 (by decide +kernel) rfl)⟩
theorem f_Wl_60 : mw_F "WaveLedger" lw_tbl vCl 60 3 6 := ⟨R_No, T_No, 15, rfl, by decide, wu_No, rfl, Or.inr ⟨"WaveLedger", mw_N_in 204 (by decide +kernel) rfl⟩⟩
theorem kb_Wl_64 : mw_KB lw_tbl "WaveLedger" 64 y_Tq_isFull b_Tq_isFull 1 (some .boolean) 0 := ⟨wc_Tq_isFull, wi_Tq, by decide +kernel, Or.inl (mw_G_in 575 (by decide +kernel) rfl)⟩
theorem kb_Wl_75 : mw_KB lw_tbl "WaveLedger" 75 y_Tq_append b_Tq_append 2 none 1 := ⟨wc_Tq_append, wi_Tq, by decide +kernel, Or.inl (mw_G_in 595 (by decide +kernel) rfl)⟩
theorem f_Wl_78 : mw_F "WaveLedger" lw_tbl vCl 78 4 1 := ⟨R_Tq, T_Tq, 2, rfl, by decide, wu_Tq, rfl, Or.inr ⟨"WaveLedger", mw_N_in 153 (by decide +kernel) rfl⟩⟩
theorem f_Wl_81 : mw_F "WaveLedger" lw_tbl vCl 81 7 6 := ⟨R_Wl, T_Wl, 7, rfl, by decide, wu_Wl, rfl, Or.inl (mw_G_in 252 (by decide +kernel) rfl)⟩
theorem kb_Wl_85 : mw_KB lw_tbl "WaveLedger" 85 y_No_goOn b_No_goOn 2 none 0 := ⟨wc_No_goOn, wi_No, by decide +kernel, Or.inl (mw_G_in 276 (by decide +kernel) rfl)⟩
theorem f_Wl_90 : mw_F "WaveLedger" lw_tbl vCl 90 2 2 := ⟨R_Ma, T_Ma, 3, rfl, by decide, wu_Ma, rfl, Or.inr ⟨"WaveLedger", mw_N_in 107 (by decide +kernel) rfl⟩⟩
theorem kc_Wl_91 : Cond.constant "WaveLedger" 91 (1103515245 : Int32) ∈ mw_G lw_tbl := mw_G_in 607 (by decide +kernel) rfl
theorem kb_Wl_92 : mw_KB lw_tbl "WaveLedger" 92 y_Wl_arrive b_Wl_arrive 6 none 1 := ⟨wc_Wl_arrive, wi_Wl, by decide +kernel, Or.inl (mw_G_in 387 (by decide +kernel) rfl)⟩
theorem kb_Wl_95 : mw_KB lw_tbl "WaveLedger" 95 y_Ma_has b_Ma_has 2 (some .boolean) 1 := ⟨wc_Ma_has, wi_Ma, by decide +kernel, Or.inl (mw_G_in 383 (by decide +kernel) rfl)⟩
theorem kc_Wl_100 : Cond.constantLong "WaveLedger" 100 (-281474976710656 : Int64) ∈ mw_G lw_tbl := mw_G_in 616 (by decide +kernel) rfl
theorem kb_Wl_102 : mw_KB lw_tbl "WaveLedger" 102 y_Wl_isTransferOrNone b_Wl_isTransferOrNone 2 (some .boolean) 1 := ⟨wc_Wl_isTransferOrNone, wi_Wl, by decide +kernel, Or.inl (mw_G_in 617 (by decide +kernel) rfl)⟩
theorem f_Wl_107 : mw_F "WaveLedger" lw_tbl vCl 107 7 5 := ⟨R_Wl, T_Wl, 7, rfl, by decide, wu_Wl, rfl, Or.inl (mw_G_in 251 (by decide +kernel) rfl)⟩
theorem kb_Wl_112 : mw_KB lw_tbl "WaveLedger" 112 y_Wl_numberOf b_Wl_numberOf 2 (some .int) 2 := ⟨wc_Wl_numberOf, wi_Wl, by decide +kernel, Or.inl (mw_G_in 624 (by decide +kernel) rfl)⟩
theorem kb_Wl_116 : mw_KB lw_tbl "WaveLedger" 116 y_Ve_make b_Ve_make 6 (some .int) 4 := ⟨wc_Ve_make, wi_Ve, by decide +kernel, Or.inl (mw_G_in 625 (by decide +kernel) rfl)⟩
theorem kb_Wl_120 : mw_KB lw_tbl "WaveLedger" 120 y_Ve_has b_Ve_has 2 (some .boolean) 1 := ⟨wc_Ve_has, wi_Ve, by decide +kernel, Or.inl (mw_G_in 464 (by decide +kernel) rfl)⟩
theorem kb_Wl_125 : mw_KB lw_tbl "WaveLedger" 125 y_Ma_send b_Ma_send 5 none 4 := ⟨wc_Ma_send, wi_Ma, by decide +kernel, Or.inl (mw_G_in 635 (by decide +kernel) rfl)⟩
theorem f_Wl_129 : mw_F "WaveLedger" lw_tbl vCl 129 2 1 := ⟨R_Ma, T_Ma, 3, rfl, by decide, wu_Ma, rfl, Or.inr ⟨"WaveLedger", mw_N_in 105 (by decide +kernel) rfl⟩⟩
theorem kb_Wl_133 : mw_KB lw_tbl "WaveLedger" 133 y_Ma_kindOf b_Ma_kindOf 1 (some .int) 1 := ⟨wc_Ma_kindOf, wi_Ma, by decide +kernel, Or.inl (mw_G_in 405 (by decide +kernel) rfl)⟩
theorem kb_Wl_137 : mw_KB lw_tbl "WaveLedger" 137 y_Ma_senderOf b_Ma_senderOf 1 (some .int) 1 := ⟨wc_Ma_senderOf, wi_Ma, by decide +kernel, Or.inl (mw_G_in 396 (by decide +kernel) rfl)⟩
theorem kb_Wl_140 : mw_KB lw_tbl "WaveLedger" 140 y_Ma_receiverOf b_Ma_receiverOf 1 (some .int) 1 := ⟨wc_Ma_receiverOf, wi_Ma, by decide +kernel, Or.inl (mw_G_in 402 (by decide +kernel) rfl)⟩
theorem kb_Wl_143 : mw_KB lw_tbl "WaveLedger" 143 y_Ma_subjectOf b_Ma_subjectOf 1 (some .int) 1 := ⟨wc_Ma_subjectOf, wi_Ma, by decide +kernel, Or.inl (mw_G_in 399 (by decide +kernel) rfl)⟩
theorem f_Wl_146 : mw_F "WaveLedger" lw_tbl vCl 146 5 0 := ⟨R_Ve, T_Ve, 5, rfl, by decide, wu_Ve, rfl, Or.inr ⟨"WaveLedger", mw_N_in 74 (by decide +kernel) rfl⟩⟩
theorem f_Wl_149 : mw_F "WaveLedger" lw_tbl vCl 149 5 1 := ⟨R_Ve, T_Ve, 5, rfl, by decide, wu_Ve, rfl, Or.inr ⟨"WaveLedger", mw_N_in 76 (by decide +kernel) rfl⟩⟩
theorem f_Wl_152 : mw_F "WaveLedger" lw_tbl vCl 152 5 3 := ⟨R_Ve, T_Ve, 5, rfl, by decide, wu_Ve, rfl, Or.inr ⟨"WaveLedger", mw_N_in 81 (by decide +kernel) rfl⟩⟩
theorem f_Wl_155 : mw_F "WaveLedger" lw_tbl vCl 155 5 2 := ⟨R_Ve, T_Ve, 5, rfl, by decide, wu_Ve, rfl, Or.inr ⟨"WaveLedger", mw_N_in 79 (by decide +kernel) rfl⟩⟩
theorem kc_Wl_159 : Cond.constantLong "WaveLedger" 159 (-1 : Int64) ∈ mw_G lw_tbl := mw_G_in 472 (by decide +kernel) rfl
theorem f_Wl_161 : mw_F "WaveLedger" lw_tbl vCl 161 3 12 := ⟨R_No, T_No, 15, rfl, by decide, wu_No, rfl, Or.inr ⟨"WaveLedger", mw_N_in 211 (by decide +kernel) rfl⟩⟩
theorem f_Wl_164 : mw_F "WaveLedger" lw_tbl vCl 164 3 13 := ⟨R_No, T_No, 15, rfl, by decide, wu_No, rfl, Or.inr ⟨"WaveLedger", mw_N_in 213 (by decide +kernel) rfl⟩⟩
theorem f_Wl_167 : mw_F "WaveLedger" lw_tbl vCl 167 3 5 := ⟨R_No, T_No, 15, rfl, by decide, wu_No, rfl, Or.inr ⟨"WaveLedger", mw_N_in 202 (by decide +kernel) rfl⟩⟩
theorem f_Wl_171 : mw_F "WaveLedger" lw_tbl vCl 171 0 3 := ⟨R_Bo, T_Bo, 4, rfl, by decide, wu_Bo, rfl, Or.inr ⟨"WaveLedger", mw_N_in 135 (by decide +kernel) rfl⟩⟩
theorem f_Wl_174 : mw_F "WaveLedger" lw_tbl vCl 174 3 4 := ⟨R_No, T_No, 15, rfl, by decide, wu_No, rfl, Or.inr ⟨"WaveLedger", mw_N_in 200 (by decide +kernel) rfl⟩⟩
theorem f_Wl_178 : mw_F "WaveLedger" lw_tbl vCl 178 1 4 := ⟨R_Gr, T_Gr, 5, rfl, by decide, wu_Gr, rfl, Or.inr ⟨"WaveLedger", mw_N_in 183 (by decide +kernel) rfl⟩⟩
theorem kb_Wl_184 : mw_KB lw_tbl "WaveLedger" 184 y_Lo_bitCount b_Lo_bitCount 2 (some .int) 1 := ⟨wc_Lo_bitCount, wi_Lo, by decide +kernel, Or.inl (mw_G_in 477 (by decide +kernel) rfl)⟩
theorem f_Wl_190 : mw_F "WaveLedger" lw_tbl vCl 190 0 1 := ⟨R_Bo, T_Bo, 4, rfl, by decide, wu_Bo, rfl, Or.inr ⟨"WaveLedger", mw_N_in 131 (by decide +kernel) rfl⟩⟩
theorem kb_Wl_193 : mw_KB lw_tbl "WaveLedger" 193 y_Gr_has b_Gr_has 2 (some .boolean) 1 := ⟨wc_Gr_has, wi_Gr, by decide +kernel, Or.inl (mw_G_in 487 (by decide +kernel) rfl)⟩
theorem f_Wl_194 : mw_F "WaveLedger" lw_tbl vCl 194 1 1 := ⟨R_Gr, T_Gr, 5, rfl, by decide, wu_Gr, rfl, Or.inr ⟨"WaveLedger", mw_N_in 178 (by decide +kernel) rfl⟩⟩
theorem f_Wl_197 : mw_F "WaveLedger" lw_tbl vCl 197 0 0 := ⟨R_Bo, T_Bo, 4, rfl, by decide, wu_Bo, rfl, Or.inr ⟨"WaveLedger", mw_N_in 129 (by decide +kernel) rfl⟩⟩
theorem kb_Wl_198 : mw_KB lw_tbl "WaveLedger" 198 y_Ma_take b_Ma_take 3 (some .int) 1 := ⟨wc_Ma_take, wi_Ma, by decide +kernel, Or.inl (mw_G_in 391 (by decide +kernel) rfl)⟩
theorem kb_Wl_201 : mw_KB lw_tbl "WaveLedger" 201 y_No_receiveSend b_No_receiveSend 4 none 2 := ⟨wc_No_receiveSend, wi_No, by decide +kernel, Or.inl (mw_G_in 408 (by decide +kernel) rfl)⟩
theorem kb_Wl_205 : mw_KB lw_tbl "WaveLedger" 205 y_No_receiveEcho b_No_receiveEcho 4 none 2 := ⟨wc_No_receiveEcho, wi_No, by decide +kernel, Or.inl (mw_G_in 416 (by decide +kernel) rfl)⟩
theorem kb_Wl_208 : mw_KB lw_tbl "WaveLedger" 208 y_No_receiveReady b_No_receiveReady 5 none 2 := ⟨wc_No_receiveReady, wi_No, by decide +kernel, Or.inl (mw_G_in 428 (by decide +kernel) rfl)⟩
theorem kb_Wl_211 : mw_KB lw_tbl "WaveLedger" 211 y_Wl_payerOf b_Wl_payerOf 1 (some .int) 1 := ⟨wc_Wl_payerOf, wi_Wl, by decide +kernel, Or.inl (mw_G_in 620 (by decide +kernel) rfl)⟩
theorem kb_Wl_214 : mw_KB lw_tbl "WaveLedger" 214 y_Wl_payeeOf b_Wl_payeeOf 1 (some .int) 1 := ⟨wc_Wl_payeeOf, wi_Wl, by decide +kernel, Or.inl (mw_G_in 621 (by decide +kernel) rfl)⟩
theorem f_Mo_7 : mw_F "WaveLedgerModel" lw_tbl vCl 7 8 6 := ⟨R_Mo, T_Mo, 29, rfl, by decide, wu_Mo, rfl, Or.inl (mw_G_in 648 (by decide +kernel) rfl)⟩
theorem f_Mo_13 : mw_F "WaveLedgerModel" lw_tbl vCl 13 8 7 := ⟨R_Mo, T_Mo, 29, rfl, by decide, wu_Mo, rfl, Or.inl (mw_G_in 649 (by decide +kernel) rfl)⟩
theorem f_Mo_16 : mw_F "WaveLedgerModel" lw_tbl vCl 16 8 8 := ⟨R_Mo, T_Mo, 29, rfl, by decide, wu_Mo, rfl, Or.inl (mw_G_in 650 (by decide +kernel) rfl)⟩
theorem f_Mo_20 : mw_F "WaveLedgerModel" lw_tbl vCl 20 8 9 := ⟨R_Mo, T_Mo, 29, rfl, by decide, wu_Mo, rfl, Or.inl (mw_G_in 651 (by decide +kernel) rfl)⟩
theorem f_Mo_23 : mw_F "WaveLedgerModel" lw_tbl vCl 23 8 11 := ⟨R_Mo, T_Mo, 29, rfl, by decide, wu_Mo, rfl, Or.inl (mw_G_in 653 (by decide +kernel) rfl)⟩
theorem f_Mo_26 : mw_F "WaveLedgerModel" lw_tbl vCl 26 8 13 := ⟨R_Mo, T_Mo, 29, rfl, by decide, wu_Mo, rfl, Or.inl (mw_G_in 655 (by decide +kernel) rfl)⟩
theorem f_Mo_30 : mw_F "WaveLedgerModel" lw_tbl vCl 30 8 14 := ⟨R_Mo, T_Mo, 29, rfl, by decide, wu_Mo, rfl, Or.inl (mw_G_in 656 (by decide +kernel) rfl)⟩
theorem f_Mo_33 : mw_F "WaveLedgerModel" lw_tbl vCl 33 8 15 := ⟨R_Mo, T_Mo, 29, rfl, by decide, wu_Mo, rfl, Or.inl (mw_G_in 657 (by decide +kernel) rfl)⟩
theorem f_Mo_36 : mw_F "WaveLedgerModel" lw_tbl vCl 36 8 16 := ⟨R_Mo, T_Mo, 29, rfl, by decide, wu_Mo, rfl, Or.inl (mw_G_in 658 (by decide +kernel) rfl)⟩
theorem f_Mo_39 : mw_F "WaveLedgerModel" lw_tbl vCl 39 8 17 := ⟨R_Mo, T_Mo, 29, rfl, by decide, wu_Mo, rfl, Or.inl (mw_G_in 659 (by decide +kernel) rfl)⟩
theorem f_Mo_42 : mw_F "WaveLedgerModel" lw_tbl vCl 42 8 18 := ⟨R_Mo, T_Mo, 29, rfl, by decide, wu_Mo, rfl, Or.inl (mw_G_in 660 (by decide +kernel) rfl)⟩
theorem f_Mo_45 : mw_F "WaveLedgerModel" lw_tbl vCl 45 8 19 := ⟨R_Mo, T_Mo, 29, rfl, by decide, wu_Mo, rfl, Or.inl (mw_G_in 661 (by decide +kernel) rfl)⟩
theorem f_Mo_48 : mw_F "WaveLedgerModel" lw_tbl vCl 48 8 20 := ⟨R_Mo, T_Mo, 29, rfl, by decide, wu_Mo, rfl, Or.inl (mw_G_in 662 (by decide +kernel) rfl)⟩
theorem f_Mo_51 : mw_F "WaveLedgerModel" lw_tbl vCl 51 8 21 := ⟨R_Mo, T_Mo, 29, rfl, by decide, wu_Mo, rfl, Or.inl (mw_G_in 663 (by decide +kernel) rfl)⟩
theorem f_Mo_54 : mw_F "WaveLedgerModel" lw_tbl vCl 54 8 22 := ⟨R_Mo, T_Mo, 29, rfl, by decide, wu_Mo, rfl, Or.inl (mw_G_in 664 (by decide +kernel) rfl)⟩
theorem f_Mo_57 : mw_F "WaveLedgerModel" lw_tbl vCl 57 8 23 := ⟨R_Mo, T_Mo, 29, rfl, by decide, wu_Mo, rfl, Or.inl (mw_G_in 665 (by decide +kernel) rfl)⟩
theorem f_Mo_60 : mw_F "WaveLedgerModel" lw_tbl vCl 60 8 24 := ⟨R_Mo, T_Mo, 29, rfl, by decide, wu_Mo, rfl, Or.inl (mw_G_in 666 (by decide +kernel) rfl)⟩
theorem f_Mo_63 : mw_F "WaveLedgerModel" lw_tbl vCl 63 8 25 := ⟨R_Mo, T_Mo, 29, rfl, by decide, wu_Mo, rfl, Or.inl (mw_G_in 667 (by decide +kernel) rfl)⟩
theorem f_Mo_66 : mw_F "WaveLedgerModel" lw_tbl vCl 66 8 26 := ⟨R_Mo, T_Mo, 29, rfl, by decide, wu_Mo, rfl, Or.inl (mw_G_in 668 (by decide +kernel) rfl)⟩
theorem f_Mo_69 : mw_F "WaveLedgerModel" lw_tbl vCl 69 8 27 := ⟨R_Mo, T_Mo, 29, rfl, by decide, wu_Mo, rfl, Or.inl (mw_G_in 669 (by decide +kernel) rfl)⟩
theorem f_Mo_72 : mw_F "WaveLedgerModel" lw_tbl vCl 72 8 28 := ⟨R_Mo, T_Mo, 29, rfl, by decide, wu_Mo, rfl, Or.inl (mw_G_in 670 (by decide +kernel) rfl)⟩
theorem f_Mo_75 : mw_F "WaveLedgerModel" lw_tbl vCl 75 8 1 := ⟨R_Mo, T_Mo, 29, rfl, by decide, wu_Mo, rfl, Or.inl (mw_G_in 643 (by decide +kernel) rfl)⟩
theorem f_Mo_79 : mw_F "WaveLedgerModel" lw_tbl vCl 79 8 2 := ⟨R_Mo, T_Mo, 29, rfl, by decide, wu_Mo, rfl, Or.inl (mw_G_in 644 (by decide +kernel) rfl)⟩
theorem f_Mo_82 : mw_F "WaveLedgerModel" lw_tbl vCl 82 8 3 := ⟨R_Mo, T_Mo, 29, rfl, by decide, wu_Mo, rfl, Or.inl (mw_G_in 645 (by decide +kernel) rfl)⟩
theorem f_Mo_85 : mw_F "WaveLedgerModel" lw_tbl vCl 85 8 0 := ⟨R_Mo, T_Mo, 29, rfl, by decide, wu_Mo, rfl, Or.inl (mw_G_in 642 (by decide +kernel) rfl)⟩
theorem kb_Mo_88 : mw_KB lw_tbl "WaveLedgerModel" 88 y_Mo_isNode b_Mo_isNode 1 (some .boolean) 1 := ⟨wc_Mo_isNode, wi_Mo, by decide +kernel, Or.inl (mw_G_in 739 (by decide +kernel) rfl)⟩
theorem kc_Mo_92 : Cond.constant "WaveLedgerModel" 92 (1103515245 : Int32) ∈ mw_G lw_tbl := mw_G_in 824 (by decide +kernel) rfl
theorem kb_Mo_93 : mw_KB lw_tbl "WaveLedgerModel" 93 y_Mo_isFaulty b_Mo_isFaulty 2 (some .boolean) 1 := ⟨wc_Mo_isFaulty, wi_Mo, by decide +kernel, Or.inl (mw_G_in 742 (by decide +kernel) rfl)⟩
theorem f_Mo_96 : mw_F "WaveLedgerModel" lw_tbl vCl 96 8 12 := ⟨R_Mo, T_Mo, 29, rfl, by decide, wu_Mo, rfl, Or.inl (mw_G_in 654 (by decide +kernel) rfl)⟩
theorem kb_Mo_99 : mw_KB lw_tbl "WaveLedgerModel" 99 y_Mo_sendOne b_Mo_sendOne 5 none 4 := ⟨wc_Mo_sendOne, wi_Mo, by decide +kernel, Or.inl (mw_G_in 812 (by decide +kernel) rfl)⟩
theorem kb_Mo_103 : mw_KB lw_tbl "WaveLedgerModel" 103 y_Mo_sendComes b_Mo_sendComes 5 none 4 := ⟨wc_Mo_sendComes, wi_Mo, by decide +kernel, Or.inl (mw_G_in 829 (by decide +kernel) rfl)⟩
theorem kb_Mo_106 : mw_KB lw_tbl "WaveLedgerModel" 106 y_Mo_echoComes b_Mo_echoComes 5 none 4 := ⟨wc_Mo_echoComes, wi_Mo, by decide +kernel, Or.inl (mw_G_in 833 (by decide +kernel) rfl)⟩
theorem kb_Mo_109 : mw_KB lw_tbl "WaveLedgerModel" 109 y_Mo_readyComes b_Mo_readyComes 6 none 4 := ⟨wc_Mo_readyComes, wi_Mo, by decide +kernel, Or.inl (mw_G_in 844 (by decide +kernel) rfl)⟩
theorem f_Mo_112 : mw_F "WaveLedgerModel" lw_tbl vCl 112 8 4 := ⟨R_Mo, T_Mo, 29, rfl, by decide, wu_Mo, rfl, Or.inl (mw_G_in 646 (by decide +kernel) rfl)⟩
theorem kb_Mo_116 : mw_KB lw_tbl "WaveLedgerModel" 116 y_Mo_goesOn b_Mo_goesOn 3 none 1 := ⟨wc_Mo_goesOn, wi_Mo, by decide +kernel, Or.inl (mw_G_in 757 (by decide +kernel) rfl)⟩
theorem kb_Mo_120 : mw_KB lw_tbl "WaveLedgerModel" 120 y_Mo_broadcast b_Mo_broadcast 5 none 3 := ⟨wc_Mo_broadcast, wi_Mo, by decide +kernel, Or.inl (mw_G_in 808 (by decide +kernel) rfl)⟩
theorem kb_Mo_124 : mw_KB lw_tbl "WaveLedgerModel" 124 y_Mo_noted b_Mo_noted 5 (some .int) 3 := ⟨wc_Mo_noted, wi_Mo, by decide +kernel, Or.inl (mw_G_in 837 (by decide +kernel) rfl)⟩
theorem kb_Mo_128 : mw_KB lw_tbl "WaveLedgerModel" 128 y_Mo_ready b_Mo_ready 4 none 3 := ⟨wc_Mo_ready, wi_Mo, by decide +kernel, Or.inl (mw_G_in 840 (by decide +kernel) rfl)⟩
theorem kb_Mo_131 : mw_KB lw_tbl "WaveLedgerModel" 131 y_Mo_addAll b_Mo_addAll 7 none 1 := ⟨wc_Mo_addAll, wi_Mo, by decide +kernel, Or.inl (mw_G_in 848 (by decide +kernel) rfl)⟩
theorem kb_Mo_134 : mw_KB lw_tbl "WaveLedgerModel" 134 y_Mo_bits b_Mo_bits 1 (some .int) 1 := ⟨wc_Mo_bits, wi_Mo, by decide +kernel, Or.inl (mw_G_in 769 (by decide +kernel) rfl)⟩
theorem kc_Mo_138 : Cond.constantLong "WaveLedgerModel" 138 (-1 : Int64) ∈ mw_G lw_tbl := mw_G_in 860 (by decide +kernel) rfl
theorem kb_Mo_140 : mw_KB lw_tbl "WaveLedgerModel" 140 y_Mo_graphOf b_Mo_graphOf 5 (some .long) 1 := ⟨wc_Mo_graphOf, wi_Mo, by decide +kernel, Or.inl (mw_G_in 852 (by decide +kernel) rfl)⟩
theorem kb_Mo_144 : mw_KB lw_tbl "WaveLedgerModel" 144 y_Mo_isRight b_Mo_isRight 5 (some .boolean) 1 := ⟨wc_Mo_isRight, wi_Mo, by decide +kernel, Or.inl (mw_G_in 856 (by decide +kernel) rfl)⟩
theorem kb_Mo_147 : mw_KB lw_tbl "WaveLedgerModel" 147 y_Mo_points b_Mo_points 6 (some .long) 2 := ⟨wc_Mo_points, wi_Mo, by decide +kernel, Or.inl (mw_G_in 784 (by decide +kernel) rfl)⟩
theorem kb_Mo_151 : mw_KB lw_tbl "WaveLedgerModel" 151 y_Mo_leader b_Mo_leader 2 (some .int) 1 := ⟨wc_Mo_leader, wi_Mo, by decide +kernel, Or.inl (mw_G_in 776 (by decide +kernel) rfl)⟩
theorem kb_Mo_154 : mw_KB lw_tbl "WaveLedgerModel" 154 y_Mo_below b_Mo_below 9 (some .long) 3 := ⟨wc_Mo_below, wi_Mo, by decide +kernel, Or.inl (mw_G_in 780 (by decide +kernel) rfl)⟩
theorem kb_Mo_158 : mw_KB lw_tbl "WaveLedgerModel" 158 y_Mo_orderBelow b_Mo_orderBelow 7 none 2 := ⟨wc_Mo_orderBelow, wi_Mo, by decide +kernel, Or.inl (mw_G_in 788 (by decide +kernel) rfl)⟩
theorem kb_Mo_162 : mw_KB lw_tbl "WaveLedgerModel" 162 y_Mo_make b_Mo_make 6 none 2 := ⟨wc_Mo_make, wi_Mo, by decide +kernel, Or.inl (mw_G_in 792 (by decide +kernel) rfl)⟩
theorem f_Mo_165 : mw_F "WaveLedgerModel" lw_tbl vCl 165 8 5 := ⟨R_Mo, T_Mo, 29, rfl, by decide, wu_Mo, rfl, Or.inl (mw_G_in 647 (by decide +kernel) rfl)⟩
theorem kb_Mo_168 : mw_KB lw_tbl "WaveLedgerModel" 168 y_Mo_inRound b_Mo_inRound 5 (some .int) 2 := ⟨wc_Mo_inRound, wi_Mo, by decide +kernel, Or.inl (mw_G_in 765 (by decide +kernel) rfl)⟩
theorem kb_Mo_172 : mw_KB lw_tbl "WaveLedgerModel" 172 y_Mo_firstTransfer b_Mo_firstTransfer 4 (some .int) 1 := ⟨wc_Mo_firstTransfer, wi_Mo, by decide +kernel, Or.inl (mw_G_in 800 (by decide +kernel) rfl)⟩
theorem kb_Mo_175 : mw_KB lw_tbl "WaveLedgerModel" 175 y_Mo_newVertex b_Mo_newVertex 6 (some .int) 4 := ⟨wc_Mo_newVertex, wi_Mo, by decide +kernel, Or.inl (mw_G_in 804 (by decide +kernel) rfl)⟩
theorem kb_Mo_179 : mw_KB lw_tbl "WaveLedgerModel" 179 y_Mo_isFull b_Mo_isFull 2 (some .boolean) 1 := ⟨wc_Mo_isFull, wi_Mo, by decide +kernel, Or.inl (mw_G_in 761 (by decide +kernel) rfl)⟩
theorem kb_Mo_182 : mw_KB lw_tbl "WaveLedgerModel" 182 y_Mo_done b_Mo_done 9 none 2 := ⟨wc_Mo_done, wi_Mo, by decide +kernel, Or.inl (mw_G_in 772 (by decide +kernel) rfl)⟩
theorem kb_Mo_185 : mw_KB lw_tbl "WaveLedgerModel" 185 y_Mo_makeVertex b_Mo_makeVertex 11 none 2 := ⟨wc_Mo_makeVertex, wi_Mo, by decide +kernel, Or.inl (mw_G_in 796 (by decide +kernel) rfl)⟩
theorem kb_Mo_188 : mw_KB lw_tbl "WaveLedgerModel" 188 y_Mo_isTransfer b_Mo_isTransfer 3 (some .boolean) 3 := ⟨wc_Mo_isTransfer, wi_Mo, by decide +kernel, Or.inl (mw_G_in 746 (by decide +kernel) rfl)⟩
theorem kb_Mo_192 : mw_KB lw_tbl "WaveLedgerModel" 192 y_Mo_refuse b_Mo_refuse 2 (some .int) 1 := ⟨wc_Mo_refuse, wi_Mo, by decide +kernel, Or.inl (mw_G_in 749 (by decide +kernel) rfl)⟩
theorem kb_Mo_195 : mw_KB lw_tbl "WaveLedgerModel" 195 y_Mo_draw b_Mo_draw 2 (some .int) 1 := ⟨wc_Mo_draw, wi_Mo, by decide +kernel, Or.inl (mw_G_in 820 (by decide +kernel) rfl)⟩
theorem kb_Mo_198 : mw_KB lw_tbl "WaveLedgerModel" 198 y_Mo_comes b_Mo_comes 8 none 1 := ⟨wc_Mo_comes, wi_Mo, by decide +kernel, Or.inl (mw_G_in 825 (by decide +kernel) rfl)⟩
theorem f_Mo_201 : mw_F "WaveLedgerModel" lw_tbl vCl 201 8 10 := ⟨R_Mo, T_Mo, 29, rfl, by decide, wu_Mo, rfl, Or.inl (mw_G_in 652 (by decide +kernel) rfl)⟩
theorem kb_Mo_204 : mw_KB lw_tbl "WaveLedgerModel" 204 y_Mo_graphSize b_Mo_graphSize 4 (some .int) 1 := ⟨wc_Mo_graphSize, wi_Mo, by decide +kernel, Or.inl (mw_G_in 889 (by decide +kernel) rfl)⟩
theorem kb_La_7 : mw_KB lw_tbl "WaveLedgerLaw" 7 y_Wl_transfer b_Wl_transfer 6 (some .int) 4 := ⟨wc_Wl_transfer, wi_Wl, by decide +kernel, Or.inl (mw_G_in 500 (by decide +kernel) rfl)⟩
theorem kb_La_17 : mw_KB lw_tbl "WaveLedgerLaw" 17 y_Wl_run b_Wl_run 3 (some .int) 1 := ⟨wc_Wl_run, wi_Wl, by decide +kernel, Or.inl (mw_G_in 602 (by decide +kernel) rfl)⟩
theorem kb_La_21 : mw_KB lw_tbl "WaveLedgerLaw" 21 y_Wl_forge b_Wl_forge 6 (some .int) 4 := ⟨wc_Wl_forge, wi_Wl, by decide +kernel, Or.inl (mw_G_in 611 (by decide +kernel) rfl)⟩
theorem kb_La_25 : mw_KB lw_tbl "WaveLedgerLaw" 25 y_Wl_whisper b_Wl_whisper 4 (some .int) 3 := ⟨wc_Wl_whisper, wi_Wl, by decide +kernel, Or.inl (mw_G_in 629 (by decide +kernel) rfl)⟩
theorem kb_La_29 : mw_KB lw_tbl "WaveLedgerLaw" 29 y_La_cell b_La_cell 2 (some .int) 2 := ⟨wc_La_cell, wi_La, by decide +kernel, Or.inl (mw_G_in 492 (by decide +kernel) rfl)⟩
theorem kb_La_35 : mw_KB lw_tbl "WaveLedgerLaw" 35 y_Wl_init b_Wl_init 9 none 3 := ⟨wc_Wl_init, wi_Wl, by decide +kernel, Or.inl (mw_G_in 56 (by decide +kernel) rfl)⟩
theorem kb_La_40 : mw_KB lw_tbl "WaveLedgerLaw" 40 y_Mo_init b_Mo_init 5 none 3 := ⟨wc_Mo_init, wi_Mo, by decide +kernel, Or.inl (mw_G_in 638 (by decide +kernel) rfl)⟩
theorem kb_La_44 : mw_KB lw_tbl "WaveLedgerLaw" 44 y_Mo_transfer b_Mo_transfer 5 (some .int) 4 := ⟨wc_Mo_transfer, wi_Mo, by decide +kernel, Or.inl (mw_G_in 735 (by decide +kernel) rfl)⟩
theorem kb_La_45 : mw_KB lw_tbl "WaveLedgerLaw" 45 y_Mo_thrown b_Mo_thrown 1 (some .int) 0 := ⟨wc_Mo_thrown, wi_Mo, by decide +kernel, Or.inl (mw_G_in 731 (by decide +kernel) rfl)⟩
theorem kb_La_49 : mw_KB lw_tbl "WaveLedgerLaw" 49 y_Wl_begin b_Wl_begin 2 (some .boolean) 0 := ⟨wc_Wl_begin, wi_Wl, by decide +kernel, Or.inl (mw_G_in 268 (by decide +kernel) rfl)⟩
theorem kb_La_53 : mw_KB lw_tbl "WaveLedgerLaw" 53 y_Mo_begin b_Mo_begin 2 (some .boolean) 0 := ⟨wc_Mo_begin, wi_Mo, by decide +kernel, Or.inl (mw_G_in 753 (by decide +kernel) rfl)⟩
theorem kb_La_57 : mw_KB lw_tbl "WaveLedgerLaw" 57 y_Mo_run b_Mo_run 4 (some .int) 1 := ⟨wc_Mo_run, wi_Mo, by decide +kernel, Or.inl (mw_G_in 816 (by decide +kernel) rfl)⟩
theorem kb_La_58 : mw_KB lw_tbl "WaveLedgerLaw" 58 y_Wl_deliver b_Wl_deliver 2 (some .boolean) 1 := ⟨wc_Wl_deliver, wi_Wl, by decide +kernel, Or.inl (mw_G_in 379 (by decide +kernel) rfl)⟩
theorem kb_La_62 : mw_KB lw_tbl "WaveLedgerLaw" 62 y_Mo_deliver b_Mo_deliver 2 (some .boolean) 1 := ⟨wc_Mo_deliver, wi_Mo, by decide +kernel, Or.inl (mw_G_in 861 (by decide +kernel) rfl)⟩
theorem kc_La_63 : Cond.constantLong "WaveLedgerLaw" 63 (4294967295 : Int64) ∈ mw_G lw_tbl := mw_G_in 901 (by decide +kernel) rfl
theorem kb_La_68 : mw_KB lw_tbl "WaveLedgerLaw" 68 y_Mo_forge b_Mo_forge 7 (some .int) 4 := ⟨wc_Mo_forge, wi_Mo, by decide +kernel, Or.inl (mw_G_in 865 (by decide +kernel) rfl)⟩
theorem kb_La_72 : mw_KB lw_tbl "WaveLedgerLaw" 72 y_Mo_whisper b_Mo_whisper 4 (some .int) 3 := ⟨wc_Mo_whisper, wi_Mo, by decide +kernel, Or.inl (mw_G_in 869 (by decide +kernel) rfl)⟩
theorem kb_La_73 : mw_KB lw_tbl "WaveLedgerLaw" 73 y_Wl_message b_Wl_message 4 (some .int) 2 := ⟨wc_Wl_message, wi_Wl, by decide +kernel, Or.inl (mw_G_in 456 (by decide +kernel) rfl)⟩
theorem kb_La_77 : mw_KB lw_tbl "WaveLedgerLaw" 77 y_Mo_message b_Mo_message 4 (some .int) 2 := ⟨wc_Mo_message, wi_Mo, by decide +kernel, Or.inl (mw_G_in 873 (by decide +kernel) rfl)⟩
theorem kb_La_78 : mw_KB lw_tbl "WaveLedgerLaw" 78 y_Wl_vertex b_Wl_vertex 3 (some .int) 2 := ⟨wc_Wl_vertex, wi_Wl, by decide +kernel, Or.inl (mw_G_in 460 (by decide +kernel) rfl)⟩
theorem kb_La_81 : mw_KB lw_tbl "WaveLedgerLaw" 81 y_Mo_vertex b_Mo_vertex 3 (some .int) 2 := ⟨wc_Mo_vertex, wi_Mo, by decide +kernel, Or.inl (mw_G_in 877 (by decide +kernel) rfl)⟩
theorem kb_La_82 : mw_KB lw_tbl "WaveLedgerLaw" 82 y_Wl_weak b_Wl_weak 2 (some .long) 1 := ⟨wc_Wl_weak, wi_Wl, by decide +kernel, Or.inl (mw_G_in 468 (by decide +kernel) rfl)⟩
theorem kb_La_86 : mw_KB lw_tbl "WaveLedgerLaw" 86 y_Mo_weak b_Mo_weak 2 (some .long) 1 := ⟨wc_Mo_weak, wi_Mo, by decide +kernel, Or.inl (mw_G_in 881 (by decide +kernel) rfl)⟩
theorem kb_La_87 : mw_KB lw_tbl "WaveLedgerLaw" 87 y_Wl_node b_Wl_node 4 (some .int) 2 := ⟨wc_Wl_node, wi_Wl, by decide +kernel, Or.inl (mw_G_in 473 (by decide +kernel) rfl)⟩
theorem kb_La_90 : mw_KB lw_tbl "WaveLedgerLaw" 90 y_Mo_node b_Mo_node 3 (some .int) 2 := ⟨wc_Mo_node, wi_Mo, by decide +kernel, Or.inl (mw_G_in 885 (by decide +kernel) rfl)⟩
theorem kb_La_91 : mw_KB lw_tbl "WaveLedgerLaw" 91 y_Wl_graph b_Wl_graph 4 (some .int) 2 := ⟨wc_Wl_graph, wi_Wl, by decide +kernel, Or.inl (mw_G_in 483 (by decide +kernel) rfl)⟩
theorem kb_La_94 : mw_KB lw_tbl "WaveLedgerLaw" 94 y_Mo_graph b_Mo_graph 4 (some .int) 2 := ⟨wc_Mo_graph, wi_Mo, by decide +kernel, Or.inl (mw_G_in 893 (by decide +kernel) rfl)⟩
theorem kb_La_95 : mw_KB lw_tbl "WaveLedgerLaw" 95 y_Wl_ordered b_Wl_ordered 3 (some .int) 2 := ⟨wc_Wl_ordered, wi_Wl, by decide +kernel, Or.inl (mw_G_in 488 (by decide +kernel) rfl)⟩
theorem kb_La_98 : mw_KB lw_tbl "WaveLedgerLaw" 98 y_Mo_ordered b_Mo_ordered 3 (some .int) 2 := ⟨wc_Mo_ordered, wi_Mo, by decide +kernel, Or.inl (mw_G_in 897 (by decide +kernel) rfl)⟩
theorem kc_In_265 : Cond.constant "java/lang/Integer" 265 (1431655765 : Int32) ∈ mw_G lw_tbl := mw_G_in 294 (by decide +kernel) rfl
theorem kc_In_266 : Cond.constant "java/lang/Integer" 266 (858993459 : Int32) ∈ mw_G lw_tbl := mw_G_in 295 (by decide +kernel) rfl
theorem kc_In_267 : Cond.constant "java/lang/Integer" 267 (252645135 : Int32) ∈ mw_G lw_tbl := mw_G_in 296 (by decide +kernel) rfl
theorem kc_Lo_314 : Cond.constantLong "java/lang/Long" 314 (6148914691236517205 : Int64) ∈ mw_G lw_tbl := mw_G_in 480 (by decide +kernel) rfl
theorem kc_Lo_316 : Cond.constantLong "java/lang/Long" 316 (3689348814741910323 : Int64) ∈ mw_G lw_tbl := mw_G_in 481 (by decide +kernel) rfl
theorem kc_Lo_318 : Cond.constantLong "java/lang/Long" 318 (1085102592571150095 : Int64) ∈ mw_G lw_tbl := mw_G_in 482 (by decide +kernel) rfl
theorem ka_native : Cond.native arraycopyName ∈ mw_G lw_tbl := mw_G_in 366 (by decide +kernel) rfl
theorem ka_static : Cond.static arraycopyName ∈ mw_G lw_tbl := mw_G_in 365 (by decide +kernel) rfl
theorem ka_init : Cond.initialized "java/lang/System" ∈ mw_G lw_tbl := mw_G_in 52 (by decide +kernel) rfl
theorem p_Bo_2 : mw_P vCl 0 2 .long := ⟨R_Bo, T_Bo, 4, t_Bo, rfl, t_Bo_ok, n_Bo, rfl, by decide +kernel⟩
theorem p_Bo_3 : mw_P vCl 0 3 .int := ⟨R_Bo, T_Bo, 4, t_Bo, rfl, t_Bo_ok, n_Bo, rfl, by decide +kernel⟩
theorem p_Gr_4 : mw_P vCl 1 4 .long := ⟨R_Gr, T_Gr, 5, t_Gr, rfl, t_Gr_ok, n_Gr, rfl, by decide +kernel⟩
theorem p_Ma_2 : mw_P vCl 2 2 .int := ⟨R_Ma, T_Ma, 3, t_Ma, rfl, t_Ma_ok, n_Ma, rfl, by decide +kernel⟩
theorem p_No_10 : mw_P vCl 3 10 .long := ⟨R_No, T_No, 15, t_No, rfl, t_No_ok, n_No, rfl, by decide +kernel⟩
theorem p_No_11 : mw_P vCl 3 11 .long := ⟨R_No, T_No, 15, t_No, rfl, t_No_ok, n_No, rfl, by decide +kernel⟩
theorem p_No_12 : mw_P vCl 3 12 .int := ⟨R_No, T_No, 15, t_No, rfl, t_No_ok, n_No, rfl, by decide +kernel⟩
theorem p_No_13 : mw_P vCl 3 13 .int := ⟨R_No, T_No, 15, t_No, rfl, t_No_ok, n_No, rfl, by decide +kernel⟩
theorem p_No_14 : mw_P vCl 3 14 .boolean := ⟨R_No, T_No, 15, t_No, rfl, t_No_ok, n_No, rfl, by decide +kernel⟩
theorem p_Tq_1 : mw_P vCl 4 1 .int := ⟨R_Tq, T_Tq, 2, t_Tq, rfl, t_Tq_ok, n_Tq, rfl, by decide +kernel⟩
theorem p_Ve_4 : mw_P vCl 5 4 .int := ⟨R_Ve, T_Ve, 5, t_Ve, rfl, t_Ve_ok, n_Ve, rfl, by decide +kernel⟩
theorem p_Wl_4 : mw_P vCl 7 4 .int := ⟨R_Wl, T_Wl, 7, t_Wl, rfl, t_Wl_ok, n_Wl, rfl, by decide +kernel⟩
theorem p_Wl_5 : mw_P vCl 7 5 .int := ⟨R_Wl, T_Wl, 7, t_Wl, rfl, t_Wl_ok, n_Wl, rfl, by decide +kernel⟩
theorem p_Wl_6 : mw_P vCl 7 6 .boolean := ⟨R_Wl, T_Wl, 7, t_Wl, rfl, t_Wl_ok, n_Wl, rfl, by decide +kernel⟩
theorem p_Mo_0 : mw_P vCl 8 0 .int := ⟨R_Mo, T_Mo, 29, t_Mo, rfl, t_Mo_ok, n_Mo, rfl, by decide +kernel⟩
theorem p_Mo_1 : mw_P vCl 8 1 .int := ⟨R_Mo, T_Mo, 29, t_Mo, rfl, t_Mo_ok, n_Mo, rfl, by decide +kernel⟩
theorem p_Mo_4 : mw_P vCl 8 4 .boolean := ⟨R_Mo, T_Mo, 29, t_Mo, rfl, t_Mo_ok, n_Mo, rfl, by decide +kernel⟩
theorem p_Mo_5 : mw_P vCl 8 5 .int := ⟨R_Mo, T_Mo, 29, t_Mo, rfl, t_Mo_ok, n_Mo, rfl, by decide +kernel⟩
theorem p_Mo_10 : mw_P vCl 8 10 .int := ⟨R_Mo, T_Mo, 29, t_Mo, rfl, t_Mo_ok, n_Mo, rfl, by decide +kernel⟩
theorem p_Mo_12 : mw_P vCl 8 12 .int := ⟨R_Mo, T_Mo, 29, t_Mo, rfl, t_Mo_ok, n_Mo, rfl, by decide +kernel⟩
end
section
/-! rows for ints that are numbers -/
section MWN
variable {p : Program} {l : Launch} {e : Env} {R : Room} {s : State} {m : MethodId} {args : Array Value} {below : List Frame} {meth : Method} {c : Code} {Q : State → Prop} {cells slots : Nat}
variable {cc : ByteArray} {nL : Nat} {own : String} {b0 : Cond} {tb : List Cond} {D : va_G} {cl : List vw_C} {cA : Nat → ClassId} {A : Nat → Prop} {ad : Nat → Nat} {sh : Nat → mw_H} {n : Nat} {w : Bool}
variable {pc : Nat} {lv : List (Nat × mw_V)} {st : List mw_V} {S : mw_S}
theorem mw_eqi {x y : Int32} (h : x = y) (k : mw p l e R s m args below meth c Q cells slots D cl cA A ad sh n nL (pc) (lv) (.inl y :: st) (S)) : mw p l e R s m args below meth c Q cells slots D cl cA A ad sh n nL (pc) (lv) (.inl x :: st) (S) := h ▸ k
theorem mw_eql {x y : Int64} (h : x = y) (k : mw p l e R s m args below meth c Q cells slots D cl cA A ad sh n nL (pc) (lv) (.inr (.inl y) :: st) (S)) : mw p l e R s m args below meth c Q cells slots D cl cA A ad sh n nL (pc) (lv) (.inr (.inl x) :: st) (S) := h ▸ k
theorem mw_eqi2 {u : mw_V} {x y : Int32} (h : x = y) (k : mw p l e R s m args below meth c Q cells slots D cl cA A ad sh n nL (pc) (lv) (u :: .inl y :: st) (S)) : mw p l e R s m args below meth c Q cells slots D cl cA A ad sh n nL (pc) (lv) (u :: .inl x :: st) (S) := h ▸ k
theorem mw_eq (lv' : List (Nat × mw_V)) (st' : List mw_V) (S' : mw_S) (h1 : mw_sub lv lv') (h2 : st = st') (h3 : S = S') (k : mw p l e R s m args below meth c Q cells slots D cl cA A ad sh n nL (pc) (lv') (st') (S')) : mw p l e R s m args below meth c Q cells slots D cl cA A ad sh n nL (pc) (lv) (st) (S) := by subst h2; subst h3; exact mw_to lv' h1 k
theorem mw_ldcw (C : mw_C p m c s args cc nL own b0 tb D cl cA A ad n w) {index : Nat} {v : Int32} (hw : Cond.constant own index v ∈ mw_G tb) (hd : decode cc pc = .ok (.ldc_w index, 3)) (k : mw p l e R s m args below meth c Q cells slots D cl cA A ad sh n nL (pc + 3) (lv) (.inl v :: st) (S)) : mw p l e R s m args below meth c Q cells slots D cl cA A ad sh n nL (pc) (lv) (st) (S) := fun H locs ls hP hS hl => lv_ldcw C.1.1 C.1.2.1 C.1.2.2.2.1 (C.1.2.2.2.2 _ (List.mem_cons_of_mem _ hw)) hd (k H locs ls hP hS hl)
theorem mw_iincN (C : mw_C p m c s args cc nL own b0 tb D cl cA A ad n w) {j a : Nat} (hd : decode cc pc = .ok (.iinc j 1, 3)) (hx : mw_lk lv j = some (.inl (nI a))) (hn : j < nL) (k : mw p l e R s m args below meth c Q cells slots D cl cA A ad sh n nL (pc + 3) (mw_s1 lv j (.inl (nI (a + 1)))) (st) (S)) : mw p l e R s m args below meth c Q cells slots D cl cA A ad sh n nL (pc) (lv) (st) (S) := mw_iinc C hd hx (by rw [nI_succ]; rfl) hn k
theorem mw_idecN (C : mw_C p m c s args cc nL own b0 tb D cl cA A ad n w) {j a : Nat} (hd : decode cc pc = .ok (.iinc j (-1), 3)) (hx : mw_lk lv j = some (.inl (nI (a + 1)))) (hn : j < nL) (k : mw p l e R s m args below meth c Q cells slots D cl cA A ad sh n nL (pc + 3) (mw_s1 lv j (.inl (nI a))) (st) (S)) : mw p l e R s m args below meth c Q cells slots D cl cA A ad sh n nL (pc) (lv) (st) (S) := mw_iinc C hd hx (by rw [← pk_m1 a]; rfl) hn k
theorem mw_iaddN (C : mw_C p m c s args cc nL own b0 tb D cl cA A ad n w) {x y : Nat} (hd : decode cc pc = .ok (.iadd, 1)) (k : mw p l e R s m args below meth c Q cells slots D cl cA A ad sh n nL (pc + 1) (lv) (.inl (nI (x + y)) :: st) (S)) : mw p l e R s m args below meth c Q cells slots D cl cA A ad sh n nL (pc) (lv) (.inl (nI y) :: .inl (nI x) :: st) (S) := mw_iadd C hd (mw_eqi (nI_add x y) k)
theorem mw_imulN (C : mw_C p m c s args cc nL own b0 tb D cl cA A ad n w) {x y : Nat} (hd : decode cc pc = .ok (.imul, 1)) (k : mw p l e R s m args below meth c Q cells slots D cl cA A ad sh n nL (pc + 1) (lv) (.inl (nI (x * y)) :: st) (S)) : mw p l e R s m args below meth c Q cells slots D cl cA A ad sh n nL (pc) (lv) (.inl (nI y) :: .inl (nI x) :: st) (S) := mw_imul C hd (mw_eqi (pk_mul x y) k)
theorem mw_isubN (C : mw_C p m c s args cc nL own b0 tb D cl cA A ad n w) {x y : Nat} (hd : decode cc pc = .ok (.isub, 1)) (h : y ≤ x) (k : mw p l e R s m args below meth c Q cells slots D cl cA A ad sh n nL (pc + 1) (lv) (.inl (nI (x - y)) :: st) (S)) : mw p l e R s m args below meth c Q cells slots D cl cA A ad sh n nL (pc) (lv) (.inl (nI y) :: .inl (nI x) :: st) (S) := mw_isub C hd (mw_eqi (pk_sub h) k)
theorem mw_idivN (C : mw_C p m c s args cc nL own b0 tb D cl cA A ad n w) {x y : Nat} (hd : decode cc pc = .ok (.idiv, 1)) (hx : x < 2 ^ 31) (h0 : 0 < y) (hy : y < 2 ^ 31) (k : mw p l e R s m args below meth c Q cells slots D cl cA A ad sh n nL (pc + 1) (lv) (.inl (nI (x / y)) :: st) (S)) : mw p l e R s m args below meth c Q cells slots D cl cA A ad sh n nL (pc) (lv) (.inl (nI y) :: .inl (nI x) :: st) (S) := mw_idiv C hd (nI_ne0 h0 hy) (mw_eqi (pk_div hx h0 hy) k)
theorem mw_iremN (C : mw_C p m c s args cc nL own b0 tb D cl cA A ad n w) {x y : Nat} (hd : decode cc pc = .ok (.irem, 1)) (hx : x < 2 ^ 31) (h0 : 0 < y) (hy : y < 2 ^ 31) (k : mw p l e R s m args below meth c Q cells slots D cl cA A ad sh n nL (pc + 1) (lv) (.inl (nI (x % y)) :: st) (S)) : mw p l e R s m args below meth c Q cells slots D cl cA A ad sh n nL (pc) (lv) (.inl (nI y) :: .inl (nI x) :: st) (S) := mw_irem C hd (nI_ne0 h0 hy) (mw_eqi (pk_rem hx h0 hy) k)
theorem mw_ialdN (C : mw_C p m c s args cc nL own b0 tb D cl cA A ad n w) {kk N i : Nat} (hd : decode cc pc = .ok (.iaload, 1)) (hk : kk < n) (hs : sh kk = .inl (0, N, .inl 0)) (hi : i < N) (hN : N < 2 ^ 31) (k : mw p l e R s m args below meth c Q cells slots D cl cA A ad sh n nL (pc + 1) (lv) (.inl (S.1 kk i) :: st) (S)) : mw p l e R s m args below meth c Q cells slots D cl cA A ad sh n nL (pc) (lv) (.inl (nI i) :: .inr (.inr kk) :: st) (S) := mw_iald C hd hk hs (vp_in_nI hi hN) (by rw [nI_clamp (Nat.lt_trans hi hN)]; exact k)
theorem mw_zaldN (C : mw_C p m c s args cc nL own b0 tb D cl cA A ad n w) {kk N i : Nat} (hd : decode cc pc = .ok (.baload, 1)) (hk : kk < n) (hs : sh kk = .inl (2, N, .inl 0)) (hi : i < N) (hN : N < 2 ^ 31) (k : mw p l e R s m args below meth c Q cells slots D cl cA A ad sh n nL (pc + 1) (lv) (.inl (S.1 kk i) :: st) (S)) : mw p l e R s m args below meth c Q cells slots D cl cA A ad sh n nL (pc) (lv) (.inl (nI i) :: .inr (.inr kk) :: st) (S) := mw_zald C hd hk hs (vp_in_nI hi hN) (by rw [nI_clamp (Nat.lt_trans hi hN)]; exact k)
theorem mw_laldN (C : mw_C p m c s args cc nL own b0 tb D cl cA A ad n w) {kk N i : Nat} (hd : decode cc pc = .ok (.laload, 1)) (hk : kk < n) (hs : sh kk = .inl (1, N, .inl 1)) (hi : i < N) (hN : N < 2 ^ 31) (k : mw p l e R s m args below meth c Q cells slots D cl cA A ad sh n nL (pc + 1) (lv) (.inr (.inl (S.2 kk i)) :: st) (S)) : mw p l e R s m args below meth c Q cells slots D cl cA A ad sh n nL (pc) (lv) (.inl (nI i) :: .inr (.inr kk) :: st) (S) := mw_lald C hd hk hs (vp_in_nI hi hN) (by rw [nI_clamp (Nat.lt_trans hi hN)]; exact k)
theorem mw_aaldN (C : mw_C p m c s args cc nL own b0 tb D cl cA A ad n w) {kk N i r : Nat} {ps : List Nat} (hd : decode cc pc = .ok (.aaload, 1)) (hk : kk < n) (hs : sh kk = .inl (3, N, .inr ps)) (hi : i < N) (hN : N < 2 ^ 31) (hr : ps.getD i 0 = r) (k : mw p l e R s m args below meth c Q cells slots D cl cA A ad sh n nL (pc + 1) (lv) (.inr (.inr r) :: st) (S)) : mw p l e R s m args below meth c Q cells slots D cl cA A ad sh n nL (pc) (lv) (.inl (nI i) :: .inr (.inr kk) :: st) (S) := mw_aald C hd hk hs (vp_in_nI hi hN) (by rw [nI_clamp (Nat.lt_trans hi hN)]; exact hr) k
theorem mw_iastN (C : mw_C p m c s args cc nL own b0 tb D cl cA A ad n w) (hw0 : w = true) {kk N i : Nat} {x : Int32} (hd : decode cc pc = .ok (.iastore, 1)) (hk : kk < n) (hs : sh kk = .inl (0, N, .inl 0)) (hi : i < N) (hN : N < 2 ^ 31) (k : mw p l e R s m args below meth c Q cells slots D cl cA A ad sh n nL (pc + 1) (lv) (st) (mw_uI S kk i x)) : mw p l e R s m args below meth c Q cells slots D cl cA A ad sh n nL (pc) (lv) (.inl x :: .inl (nI i) :: .inr (.inr kk) :: st) (S) := mw_iast C hw0 hd hk hs (vp_in_nI hi hN) (by rw [nI_clamp (Nat.lt_trans hi hN)]; exact k)
theorem mw_zastN (C : mw_C p m c s args cc nL own b0 tb D cl cA A ad n w) (hw0 : w = true) {kk N i : Nat} {x : Int32} (hd : decode cc pc = .ok (.bastore, 1)) (hk : kk < n) (hs : sh kk = .inl (2, N, .inl 0)) (hi : i < N) (hN : N < 2 ^ 31) (hb : vp_nar .boolean x = x) (k : mw p l e R s m args below meth c Q cells slots D cl cA A ad sh n nL (pc + 1) (lv) (st) (mw_uI S kk i x)) : mw p l e R s m args below meth c Q cells slots D cl cA A ad sh n nL (pc) (lv) (.inl x :: .inl (nI i) :: .inr (.inr kk) :: st) (S) := mw_zast C hw0 hd hk hs (vp_in_nI hi hN) hb (by rw [nI_clamp (Nat.lt_trans hi hN)]; exact k)
theorem mw_lastN (C : mw_C p m c s args cc nL own b0 tb D cl cA A ad n w) (hw0 : w = true) {kk N i : Nat} {x : Int64} (hd : decode cc pc = .ok (.lastore, 1)) (hk : kk < n) (hs : sh kk = .inl (1, N, .inl 1)) (hi : i < N) (hN : N < 2 ^ 31) (k : mw p l e R s m args below meth c Q cells slots D cl cA A ad sh n nL (pc + 1) (lv) (st) (mw_uL S kk i x)) : mw p l e R s m args below meth c Q cells slots D cl cA A ad sh n nL (pc) (lv) (.inr (.inl x) :: .inl (nI i) :: .inr (.inr kk) :: st) (S) := mw_last C hw0 hd hk hs (vp_in_nI hi hN) (by rw [nI_clamp (Nat.lt_trans hi hN)]; exact k)
theorem mw_icmp_eqN (C : mw_C p m c s args cc nL own b0 tb D cl cA A ad n w) {x y : Nat} {off : Int} (tgt : Nat) (hd : decode cc pc = .ok (.if_icmp .eq off, 3)) (ht : (pc : Int) + off = (tgt : Int)) (hx : x < 2 ^ 31) (hy : y < 2 ^ 31) (kt : x = y → mw p l e R s m args below meth c Q cells slots D cl cA A ad sh n nL (tgt) (lv) (st) (S)) (kf : ¬ x = y → mw p l e R s m args below meth c Q cells slots D cl cA A ad sh n nL (pc + 3) (lv) (st) (S)) : mw p l e R s m args below meth c Q cells slots D cl cA A ad sh n nL (pc) (lv) (.inl (nI y) :: .inl (nI x) :: st) (S) := mw_icmp_eq C tgt hd ht (fun h => kt ((nI_eq hx hy).mp h)) (fun h => kf (fun e => h ((nI_eq hx hy).mpr e)))
theorem mw_icmp_neN (C : mw_C p m c s args cc nL own b0 tb D cl cA A ad n w) {x y : Nat} {off : Int} (tgt : Nat) (hd : decode cc pc = .ok (.if_icmp .ne off, 3)) (ht : (pc : Int) + off = (tgt : Int)) (hx : x < 2 ^ 31) (hy : y < 2 ^ 31) (kt : ¬ x = y → mw p l e R s m args below meth c Q cells slots D cl cA A ad sh n nL (tgt) (lv) (st) (S)) (kf : x = y → mw p l e R s m args below meth c Q cells slots D cl cA A ad sh n nL (pc + 3) (lv) (st) (S)) : mw p l e R s m args below meth c Q cells slots D cl cA A ad sh n nL (pc) (lv) (.inl (nI y) :: .inl (nI x) :: st) (S) := mw_icmp_ne C tgt hd ht (fun h => kt (fun e => h ((nI_eq hx hy).mpr e))) (fun h => kf ((nI_eq hx hy).mp h))
theorem mw_icmp_ltN (C : mw_C p m c s args cc nL own b0 tb D cl cA A ad n w) {x y : Nat} {off : Int} (tgt : Nat) (hd : decode cc pc = .ok (.if_icmp .lt off, 3)) (ht : (pc : Int) + off = (tgt : Int)) (hx : x < 2 ^ 31) (hy : y < 2 ^ 31) (kt : x < y → mw p l e R s m args below meth c Q cells slots D cl cA A ad sh n nL (tgt) (lv) (st) (S)) (kf : y ≤ x → mw p l e R s m args below meth c Q cells slots D cl cA A ad sh n nL (pc + 3) (lv) (st) (S)) : mw p l e R s m args below meth c Q cells slots D cl cA A ad sh n nL (pc) (lv) (.inl (nI y) :: .inl (nI x) :: st) (S) := mw_icmp_lt C tgt hd ht (fun h => kt ((nI_ltI hx hy).mp h)) (fun h => kf (Nat.not_lt.mp (fun e => h ((nI_ltI hx hy).mpr e))))
theorem mw_icmp_geN (C : mw_C p m c s args cc nL own b0 tb D cl cA A ad n w) {x y : Nat} {off : Int} (tgt : Nat) (hd : decode cc pc = .ok (.if_icmp .ge off, 3)) (ht : (pc : Int) + off = (tgt : Int)) (hx : x < 2 ^ 31) (hy : y < 2 ^ 31) (kt : y ≤ x → mw p l e R s m args below meth c Q cells slots D cl cA A ad sh n nL (tgt) (lv) (st) (S)) (kf : x < y → mw p l e R s m args below meth c Q cells slots D cl cA A ad sh n nL (pc + 3) (lv) (st) (S)) : mw p l e R s m args below meth c Q cells slots D cl cA A ad sh n nL (pc) (lv) (.inl (nI y) :: .inl (nI x) :: st) (S) := mw_icmp_ge C tgt hd ht (fun h => kt ((nI_leI hy hx).mp h)) (fun h => kf (Nat.not_le.mp (fun e => h ((nI_leI hy hx).mpr e))))
theorem mw_icmp_gtN (C : mw_C p m c s args cc nL own b0 tb D cl cA A ad n w) {x y : Nat} {off : Int} (tgt : Nat) (hd : decode cc pc = .ok (.if_icmp .gt off, 3)) (ht : (pc : Int) + off = (tgt : Int)) (hx : x < 2 ^ 31) (hy : y < 2 ^ 31) (kt : y < x → mw p l e R s m args below meth c Q cells slots D cl cA A ad sh n nL (tgt) (lv) (st) (S)) (kf : x ≤ y → mw p l e R s m args below meth c Q cells slots D cl cA A ad sh n nL (pc + 3) (lv) (st) (S)) : mw p l e R s m args below meth c Q cells slots D cl cA A ad sh n nL (pc) (lv) (.inl (nI y) :: .inl (nI x) :: st) (S) := mw_icmp_gt C tgt hd ht (fun h => kt ((nI_ltI hy hx).mp h)) (fun h => kf (Nat.not_lt.mp (fun e => h ((nI_ltI hy hx).mpr e))))
theorem mw_icmp_leN (C : mw_C p m c s args cc nL own b0 tb D cl cA A ad n w) {x y : Nat} {off : Int} (tgt : Nat) (hd : decode cc pc = .ok (.if_icmp .le off, 3)) (ht : (pc : Int) + off = (tgt : Int)) (hx : x < 2 ^ 31) (hy : y < 2 ^ 31) (kt : x ≤ y → mw p l e R s m args below meth c Q cells slots D cl cA A ad sh n nL (tgt) (lv) (st) (S)) (kf : y < x → mw p l e R s m args below meth c Q cells slots D cl cA A ad sh n nL (pc + 3) (lv) (st) (S)) : mw p l e R s m args below meth c Q cells slots D cl cA A ad sh n nL (pc) (lv) (.inl (nI y) :: .inl (nI x) :: st) (S) := mw_icmp_le C tgt hd ht (fun h => kt ((nI_leI hx hy).mp h)) (fun h => kf (Nat.not_le.mp (fun e => h ((nI_leI hx hy).mpr e))))
theorem mw_if_eqN (C : mw_C p m c s args cc nL own b0 tb D cl cA A ad n w) {x : Nat} {off : Int} (tgt : Nat) (hd : decode cc pc = .ok (.ifCond .eq off, 3)) (ht : (pc : Int) + off = (tgt : Int)) (hx : x < 2 ^ 31) (kt : x = 0 → mw p l e R s m args below meth c Q cells slots D cl cA A ad sh n nL (tgt) (lv) (st) (S)) (kf : 0 < x → mw p l e R s m args below meth c Q cells slots D cl cA A ad sh n nL (pc + 3) (lv) (st) (S)) : mw p l e R s m args below meth c Q cells slots D cl cA A ad sh n nL (pc) (lv) (.inl (nI x) :: st) (S) := mw_if_eq C tgt hd ht (fun h => kt (Nat.not_lt.mp (fun e => nI_ne0 e hx h) |> Nat.le_zero.mp)) (fun h => kf (Nat.pos_of_ne_zero (fun e => h (by rw [e]; exact nI_0))))
theorem mw_if_neN (C : mw_C p m c s args cc nL own b0 tb D cl cA A ad n w) {x : Nat} {off : Int} (tgt : Nat) (hd : decode cc pc = .ok (.ifCond .ne off, 3)) (ht : (pc : Int) + off = (tgt : Int)) (hx : x < 2 ^ 31) (kt : 0 < x → mw p l e R s m args below meth c Q cells slots D cl cA A ad sh n nL (tgt) (lv) (st) (S)) (kf : x = 0 → mw p l e R s m args below meth c Q cells slots D cl cA A ad sh n nL (pc + 3) (lv) (st) (S)) : mw p l e R s m args below meth c Q cells slots D cl cA A ad sh n nL (pc) (lv) (.inl (nI x) :: st) (S) := mw_if_ne C tgt hd ht (fun h => kt (Nat.pos_of_ne_zero (fun e => h (by rw [e]; exact nI_0)))) (fun h => kf (Nat.not_lt.mp (fun e => nI_ne0 e hx h) |> Nat.le_zero.mp))
theorem mw_if_leN (C : mw_C p m c s args cc nL own b0 tb D cl cA A ad n w) {x : Nat} {off : Int} (tgt : Nat) (hd : decode cc pc = .ok (.ifCond .le off, 3)) (ht : (pc : Int) + off = (tgt : Int)) (hx : x < 2 ^ 31) (kt : x = 0 → mw p l e R s m args below meth c Q cells slots D cl cA A ad sh n nL (tgt) (lv) (st) (S)) (kf : 0 < x → mw p l e R s m args below meth c Q cells slots D cl cA A ad sh n nL (pc + 3) (lv) (st) (S)) : mw p l e R s m args below meth c Q cells slots D cl cA A ad sh n nL (pc) (lv) (.inl (nI x) :: st) (S) := mw_if_le C tgt hd ht (fun h => kt (Nat.le_zero.mp (Nat.not_lt.mp (fun e => nI_nle e hx h)))) (fun h => kf (Nat.pos_of_ne_zero (fun e => h (by rw [e]; decide))))
theorem mw_if_gtN (C : mw_C p m c s args cc nL own b0 tb D cl cA A ad n w) {x : Nat} {off : Int} (tgt : Nat) (hd : decode cc pc = .ok (.ifCond .gt off, 3)) (ht : (pc : Int) + off = (tgt : Int)) (hx : x < 2 ^ 31) (kt : 0 < x → mw p l e R s m args below meth c Q cells slots D cl cA A ad sh n nL (tgt) (lv) (st) (S)) (kf : x = 0 → mw p l e R s m args below meth c Q cells slots D cl cA A ad sh n nL (pc + 3) (lv) (st) (S)) : mw p l e R s m args below meth c Q cells slots D cl cA A ad sh n nL (pc) (lv) (.inl (nI x) :: st) (S) := mw_if_gt C tgt hd ht (fun h => kt (Nat.pos_of_ne_zero (fun e => by rw [e] at h; exact absurd h (by decide)))) (fun h => kf (Nat.le_zero.mp (Nat.not_lt.mp (fun e => h (by have h9 := nI_lt e hx; rw [nI_0] at h9; exact h9)))))
theorem mw_if_ltN (C : mw_C p m c s args cc nL own b0 tb D cl cA A ad n w) {x : Nat} {off : Int} (tgt : Nat) (hd : decode cc pc = .ok (.ifCond .lt off, 3)) (ht : (pc : Int) + off = (tgt : Int)) (hx : x < 2 ^ 31) (kf : mw p l e R s m args below meth c Q cells slots D cl cA A ad sh n nL (pc + 3) (lv) (st) (S)) : mw p l e R s m args below meth c Q cells slots D cl cA A ad sh n nL (pc) (lv) (.inl (nI x) :: st) (S) := mw_if_lt C tgt hd ht (fun h => absurd h (nI_pos hx)) (fun _ => kf)
theorem mw_if_geN (C : mw_C p m c s args cc nL own b0 tb D cl cA A ad n w) {x : Nat} {off : Int} (tgt : Nat) (hd : decode cc pc = .ok (.ifCond .ge off, 3)) (ht : (pc : Int) + off = (tgt : Int)) (hx : x < 2 ^ 31) (kt : mw p l e R s m args below meth c Q cells slots D cl cA A ad sh n nL (tgt) (lv) (st) (S)) : mw p l e R s m args below meth c Q cells slots D cl cA A ad sh n nL (pc) (lv) (.inl (nI x) :: st) (S) := mw_if_ge C tgt hd ht (fun _ => kt) (fun h => absurd (nI_pos' hx) h)
end MWN
end
section
/-! rows on bits, shifts and unsigned numbers, to paste: each family out of a closed proof of our own, whole with what it rests on; each by itself clean at Lean in its own claim (generation 39, form 5). Take a family whole -/
/-! ===== Int32 by its bits: bt x i ===== -/
def bt (x : Int32) (i : Nat) : Bool := x.toBitVec.getLsbD i
theorem b_ext {x y : Int32} (h : ∀ i, i < 32 → bt x i = bt y i) : x = y := Int32.toBitVec_inj.mp (BitVec.eq_of_getLsbD_eq (fun i hi => h i hi))
theorem b_or (x y : Int32) (i : Nat) : bt (x ||| y) i = (bt x i || bt y i) := by unfold bt; rw [Int32.toBitVec_or, BitVec.getLsbD_or]
theorem b_and (x y : Int32) (i : Nat) : bt (x &&& y) i = (bt x i && bt y i) := by unfold bt; rw [Int32.toBitVec_and, BitVec.getLsbD_and]
theorem b_xor (x y : Int32) (i : Nat) : bt (x ^^^ y) i = (bt x i ^^ bt y i) := by unfold bt; rw [Int32.toBitVec_xor, BitVec.getLsbD_xor]
theorem b_big {x : Int32} {i : Nat} (h : 32 ≤ i) : bt x i = false := BitVec.getLsbD_of_ge _ _ h
theorem b_255 (i : Nat) : bt 255 i = decide (i < 8) := by
  rcases Nat.lt_or_ge i 32 with h | h
  · exact (by decide +kernel : ∀ i, i < 32 → bt 255 i = decide (i < 8)) i h
  · rw [b_big h, decide_eq_false (by omega)]
theorem b_65535 (i : Nat) : bt 65535 i = decide (i < 16) := by
  rcases Nat.lt_or_ge i 32 with h | h
  · exact (by decide +kernel : ∀ i, i < 32 → bt 65535 i = decide (i < 16)) i h
  · rw [b_big h, decide_eq_false (by omega)]
theorem b_m1 : ∀ i, i < 32 → bt (-1) i = true := by decide +kernel
theorem b_0 (i : Nat) : bt 0 i = false := BitVec.getLsbD_zero
theorem s_l : ∀ n, n < 32 → ((nI n &&& 31).toBitVec.smod 32).toNat = n := by decide +kernel
theorem s_u : ∀ n, n < 32 → (((nI n).toUInt32 &&& Int32.toUInt32 31).toBitVec % 32).toNat = n := by decide +kernel
theorem b_shl (n : Nat) (hn : n < 32) (x : Int32) {i : Nat} (hi : i < 32) : bt (x <<< (nI n &&& 31)) i = (decide (n ≤ i) && bt x (i - n)) := by
  unfold bt
  rw [Int32.toBitVec_shiftLeft]
  show (x.toBitVec <<< ((nI n &&& 31).toBitVec.smod 32).toNat).getLsbD i = _
  rw [s_l n hn, BitVec.getLsbD_shiftLeft]
  rcases Nat.lt_or_ge i n with h | h
  · simp [h, Nat.not_le.mpr h]
  · simp [hi, h, Nat.not_lt.mpr h]
theorem b_ushr (n : Nat) (hn : n < 32) (x : Int32) (i : Nat) : bt ((x.toUInt32 >>> ((nI n).toUInt32 &&& Int32.toUInt32 31)).toInt32) i = bt x (n + i) := by
  show (x.toUInt32 >>> ((nI n).toUInt32 &&& Int32.toUInt32 31)).toBitVec.getLsbD i = x.toUInt32.toBitVec.getLsbD (n + i)
  rw [UInt32.toBitVec_shiftRight]
  show (x.toUInt32.toBitVec >>> (((nI n).toUInt32 &&& Int32.toUInt32 31).toBitVec % 32).toNat).getLsbD i = _
  rw [s_u n hn, BitVec.getLsbD_ushiftRight]
theorem b_sshr (n : Nat) (hn : n < 32) (x : Int32) {i : Nat} (hi : i < 32) : bt (x >>> (nI n &&& 31)) i = if n + i < 32 then bt x (n + i) else bt x 31 := by
  unfold bt
  rw [Int32.toBitVec_shiftRight]
  show (x.toBitVec.sshiftRight ((nI n &&& 31).toBitVec.smod 32).toNat).getLsbD i = _
  rw [s_l n hn, BitVec.getLsbD_sshiftRight, BitVec.msb_eq_getLsbD_last]
  simp [hi]
theorem b_shl8 (x : Int32) {i : Nat} (hi : i < 32) : bt (x <<< ((8 : Int32) &&& 31)) i = (decide (8 ≤ i) && bt x (i - 8)) := b_shl 8 (by omega) x hi
theorem b_shl16 (x : Int32) {i : Nat} (hi : i < 32) : bt (x <<< ((16 : Int32) &&& 31)) i = (decide (16 ≤ i) && bt x (i - 16)) := b_shl 16 (by omega) x hi
theorem b_shl24 (x : Int32) {i : Nat} (hi : i < 32) : bt (x <<< ((24 : Int32) &&& 31)) i = (decide (24 ≤ i) && bt x (i - 24)) := b_shl 24 (by omega) x hi
theorem b_sshr8 (x : Int32) {i : Nat} (hi : i < 32) : bt (x >>> ((8 : Int32) &&& 31)) i = if 8 + i < 32 then bt x (8 + i) else bt x 31 := b_sshr 8 (by omega) x hi
/-! ===== nI under and, xor, >>>, one bit, 65535 ===== -/
theorem nx_and (a b : Nat) : nI a &&& nI b = nI (a &&& b) := by
  apply Int32.toBitVec_inj.1
  show BitVec.ofNat 32 a &&& BitVec.ofNat 32 b = BitVec.ofNat 32 (a &&& b)
  apply BitVec.eq_of_getLsbD_eq
  intro i hi
  simp [hi]
theorem nx_xor (a b : Nat) : nI a ^^^ nI b = nI (a ^^^ b) := by
  apply Int32.toBitVec_inj.1
  show BitVec.ofNat 32 a ^^^ BitVec.ofNat 32 b = BitVec.ofNat 32 (a ^^^ b)
  apply BitVec.eq_of_getLsbD_eq
  intro i hi
  simp [hi]
theorem nx_cnt : ∀ j : Fin 32, (UInt32.ofNat j.val &&& Int32.toUInt32 31).toNat % 32 = j.val := by decide +kernel
theorem nx_ush {k j : Nat} (hk : k < 65536) (hj : j < 32) : ((nI k).toUInt32 >>> ((nI j).toUInt32 &&& Int32.toUInt32 31)).toInt32 = nI (k >>> j) := by
  have hs : k >>> j ≤ k := by
    rw [Nat.shiftRight_eq_div_pow]
    exact Nat.div_le_self _ _
  have e2 : UInt32.ofNat k >>> (UInt32.ofNat j &&& Int32.toUInt32 31) = UInt32.ofNat (k >>> j) := by
    apply UInt32.toNat_inj.1
    have h1 : (UInt32.ofNat k).toNat = k := Nat.mod_eq_of_lt (by omega)
    have h2 : (UInt32.ofNat (k >>> j)).toNat = k >>> j := Nat.mod_eq_of_lt (by omega)
    rw [UInt32.toNat_shiftRight, nx_cnt ⟨j, hj⟩, h1, h2]
  show (UInt32.ofNat k >>> (UInt32.ofNat j &&& Int32.toUInt32 31)).toInt32 = _
  rw [e2]
  rfl
theorem nx_bit {k j : Nat} (hk : k < 65536) (hj : j < 16) : (((nI k).toUInt32 >>> ((nI j).toUInt32 &&& Int32.toUInt32 31)).toInt32 &&& 1) = 0 ↔ k.testBit j = false := by
  rw [nx_ush hk (by omega)]
  show nI (k >>> j) &&& nI 1 = 0 ↔ _
  rw [nx_and, Nat.and_one_is_mod, ← nI_0, nI_eq (by omega) (by omega), Nat.testBit_eq_decide_div_mod_eq, Nat.shiftRight_eq_div_pow, decide_eq_false_iff_not]
  generalize k / 2 ^ j = z
  omega
theorem nx_mod (k : Nat) : nI k &&& 65535 = nI (k % 65536) := by
  show nI k &&& nI 65535 = _
  rw [nx_and, show (65535 : Nat) = 2 ^ 16 - 1 from rfl, Nat.and_two_pow_sub_one_eq_mod]
theorem nx_m16 {k : Nat} (h : k < 65536) : nI k &&& 65535 = nI k := by rw [nx_mod, Nat.mod_eq_of_lt h]
theorem nx_mask (x : Int32) : ∃ k, k < 65536 ∧ x &&& 65535 = nI k := by
  have e : x = nI x.toBitVec.toNat := by
    apply Int32.toBitVec_inj.1
    show x.toBitVec = BitVec.ofNat 32 x.toBitVec.toNat
    simp
  refine ⟨x.toBitVec.toNat % 65536, Nat.mod_lt _ (by omega), ?_⟩
  rw [← nx_mod, ← e]
/-! ===== Int32 as a set of bits: test, set ===== -/
def nf_M (m : Int32) : Nat := 4294967296 - m.toBitVec.toNat
theorem nf_sh : ∀ l, l < 32 → ((1 : Int32) <<< (nI l &&& 31)).toBitVec = BitVec.twoPow 32 l := by decide +kernel
theorem nf_sl : ∀ l, l < 32 → (((nI l).toUInt32 &&& Int32.toUInt32 31).toBitVec % 32).toNat = l := by decide +kernel
theorem nf_tp : ∀ l, l < 32 → BitVec.twoPow 32 l ≠ 0#32 := by decide +kernel
theorem nf_bit (m : Int32) (l : Nat) (hl : l < 32) : ((m.toUInt32 >>> ((nI l).toUInt32 &&& Int32.toUInt32 31)).toInt32 &&& 1) = 0 ↔ (m &&& ((1 : Int32) <<< (nI l &&& 31))) = 0 := by
  have e : ((m.toUInt32 >>> ((nI l).toUInt32 &&& Int32.toUInt32 31)).toInt32).toBitVec = m.toBitVec >>> l := by
    show m.toBitVec >>> (((nI l).toUInt32 &&& Int32.toUInt32 31).toBitVec % 32) = m.toBitVec >>> l
    rw [BitVec.ushiftRight_eq', nf_sl l hl]
  rw [← Int32.toBitVec_inj, ← Int32.toBitVec_inj, Int32.toBitVec_and, Int32.toBitVec_and, nf_sh l hl, e, BitVec.and_twoPow]
  show (m.toBitVec >>> l &&& 1#32) = 0#32 ↔ _ = 0#32
  rw [BitVec.and_one_eq_setWidth_ofBool_getLsbD, BitVec.getLsbD_ushiftRight, Nat.add_zero]
  cases hb : m.toBitVec.getLsbD l
  · exact ⟨fun _ => by simp, fun _ => by decide⟩
  · exact ⟨fun z => absurd z (by decide), fun z => absurd ((if_pos rfl).symm.trans z) (nf_tp l hl)⟩
theorem nf_gr (m k : Int32) (h : m &&& k = 0) (hk : k ≠ 0) : nf_M (m ||| k) < nf_M m := by
  have hm := m.toBitVec.isLt
  have hm' := (m ||| k).toBitVec.isLt
  have h1 : m.toBitVec.toNat ≤ (m ||| k).toBitVec.toNat := by
    rw [Int32.toBitVec_or, BitVec.toNat_or]
    exact Nat.left_le_or
  have h2 : m.toBitVec.toNat ≠ (m ||| k).toBitVec.toNat := by
    intro e
    have e2 : m = m ||| k := Int32.toBitVec_inj.mp (BitVec.eq_of_toNat_eq e)
    apply hk
    apply Int32.toBitVec_inj.mp
    show k.toBitVec = 0#32
    apply BitVec.eq_of_getLsbD_eq
    intro i hi
    have a : m.toBitVec.getLsbD i = (m.toBitVec.getLsbD i || k.toBitVec.getLsbD i) := by rw [← BitVec.getLsbD_or, ← Int32.toBitVec_or, ← e2]
    have b : (m.toBitVec.getLsbD i && k.toBitVec.getLsbD i) = false := by
      rw [← BitVec.getLsbD_and, ← Int32.toBitVec_and, h]
      exact BitVec.getLsbD_zero
    rw [BitVec.getLsbD_zero]
    revert a b
    cases m.toBitVec.getLsbD i <;> cases k.toBitVec.getLsbD i <;> simp
  unfold nf_M
  omega
/-! ===== a byte read unsigned ===== -/
theorem bp_b (x : Int32) : x.toInt8.toInt32 &&& 255 = x &&& 255 := by
  apply Int32.toBitVec_inj.mp
  rw [Int32.toBitVec_and, Int32.toBitVec_and, Int8.toBitVec_toInt32, Int32.toBitVec_toInt8]
  apply BitVec.eq_of_getLsbD_eq
  intro i hi
  rw [BitVec.getLsbD_and, BitVec.getLsbD_and]
  have hm : ∀ i < 32, 8 ≤ i → (255 : Int32).toBitVec.getLsbD i = false := by decide
  rcases Nat.lt_or_ge i 8 with z | z
  · rw [BitVec.getLsbD_signExtend, BitVec.getLsbD_signExtend, if_pos z, if_pos hi]
    simp only [z, hi, decide_true, Bool.true_and]
  · rw [hm i hi z]; simp
/-! ===== the char cast and 65535 ===== -/
/-! ===== Int64 as a set of bits: test, set, clear ===== -/
theorem ts_nf {x : Bool} (h : ¬ x = false) : x = true := by cases x <;> first | rfl | exact absurd rfl h
theorem ts_nt {x : Bool} (h : ¬ x = true) : x = false := by cases x <;> first | rfl | exact absurd rfl h
theorem ts_bit {w : Int64} {s : UInt64} {j : Nat} (hj : j < 64) (hs : s.toNat = j) : ((w.toUInt64 >>> s).toInt64 &&& 1) = 0 ↔ w.toBitVec.getLsbD j = false := by
  have e : (w.toUInt64 >>> s).toInt64.toBitVec = w.toBitVec >>> j := by
    apply BitVec.eq_of_toNat_eq
    show (w.toUInt64 >>> s).toNat = _
    rw [UInt64.toNat_shiftRight, hs, Nat.mod_eq_of_lt hj, BitVec.toNat_ushiftRight]
    rfl
  rw [← Int64.toBitVec_inj, Int64.toBitVec_and, e]
  show w.toBitVec >>> j &&& 1#64 = 0#64 ↔ _
  constructor
  · intro h
    have t := congrArg (fun x => x.getLsbD 0) h
    simpa using t
  · intro h
    apply BitVec.eq_of_getLsbD_eq
    intro i hi
    cases i with
    | zero => simp [h]
    | succ i => simp
theorem ts_or {w m : Int64} {j : Nat} (hj : j < 64) (hm : m.toBitVec = BitVec.twoPow 64 j) : (w ||| m) = w ↔ w.toBitVec.getLsbD j = true := by
  rw [← Int64.toBitVec_inj, Int64.toBitVec_or, hm]
  constructor
  · intro h
    have t := congrArg (fun x => x.getLsbD j) h
    simp only [BitVec.getLsbD_or, BitVec.getLsbD_twoPow] at t
    simpa [hj] using t.symm
  · intro h
    apply BitVec.eq_of_getLsbD_eq
    intro i hi
    rw [BitVec.getLsbD_or, BitVec.getLsbD_twoPow]
    by_cases e : j = i
    · subst e; rw [h, Bool.true_or]
    · simp [e]
theorem ts_and {w m : Int64} {j : Nat} (hj : j < 64) (hm : m.toBitVec = BitVec.twoPow 64 j) : (w &&& (m ^^^ (-1))) = w ↔ w.toBitVec.getLsbD j = false := by
  have ha : (-1 : Int64).toBitVec = BitVec.allOnes 64 := by decide
  rw [← Int64.toBitVec_inj, Int64.toBitVec_and, Int64.toBitVec_xor, hm, ha]
  constructor
  · intro h
    have t := congrArg (fun x => x.getLsbD j) h
    simp only [BitVec.getLsbD_and, BitVec.getLsbD_xor, BitVec.getLsbD_twoPow, BitVec.getLsbD_allOnes] at t
    simpa [hj] using t.symm
  · intro h
    apply BitVec.eq_of_getLsbD_eq
    intro i hi
    rw [BitVec.getLsbD_and, BitVec.getLsbD_xor, BitVec.getLsbD_twoPow, BitVec.getLsbD_allOnes]
    by_cases e : j = i
    · subst e; rw [h, Bool.false_and]
    · simp [e, hi]
/-! ===== lN n to 2^64: shifts, and, or, masks, one bit ===== -/
theorem wb_tb (n : Nat) : (lN n).toBitVec = BitVec.ofNat 64 n := rfl
theorem wb_inj {a b : Int64} (h : a.toBitVec = b.toBitVec) : a = b := Int64.toBitVec_inj.mp h
theorem wb_tn {n : Nat} (h : n < 2 ^ 64) : (lN n).toBitVec.toNat = n := by rw [wb_tb, BitVec.toNat_ofNat, Nat.mod_eq_of_lt h]
theorem wb_of (x : Int64) : ∃ n, n < 2 ^ 64 ∧ x = lN n := ⟨x.toBitVec.toNat, x.toBitVec.isLt, wb_inj (by rw [wb_tb]; simp)⟩
theorem wb_of32 (x : Int32) : ∃ n, n < 2 ^ 32 ∧ x = nI n := ⟨x.toBitVec.toNat, x.toBitVec.isLt, Int32.toBitVec_inj.mp (by show _ = BitVec.ofNat 32 _; simp)⟩
theorem wb_c : ∀ k, k < 64 → ((nI k).toInt64 &&& 63) = lN k := by decide +kernel
theorem wb_cu : ∀ k, k < 64 → ((nI k).toInt64.toUInt64 &&& Int64.toUInt64 63) = UInt64.ofNat k := by decide +kernel
theorem wb_sm : ∀ k, k < 64 → (BitVec.ofNat 64 k).smod 64 = BitVec.ofNat 64 k := by decide +kernel
theorem wb_pw {a b : Nat} (h : a ≤ b) : 2 ^ b = 2 ^ a * 2 ^ (b - a) := by rw [← Nat.pow_add]; congr 1; omega
theorem wb_lt2 {a b : Nat} (h : a < b) : 2 ^ a < 2 ^ b := Nat.pow_lt_pow_right (by decide) h
theorem wb_mod (n : Nat) : lN n = lN (n % 2 ^ 64) := wb_inj (by rw [wb_tb, wb_tb]; apply BitVec.eq_of_toNat_eq; rw [BitVec.toNat_ofNat, BitVec.toNat_ofNat, Nat.mod_mod])
theorem wb_shr {n k : Nat} (hn : n < 2 ^ 64) (hk : k < 64) : ((lN n).toUInt64 >>> ((nI k).toInt64.toUInt64 &&& Int64.toUInt64 63)).toInt64 = lN (n / 2 ^ k) := by
  rw [wb_cu k hk]
  apply wb_inj
  apply BitVec.eq_of_toNat_eq
  show ((lN n).toUInt64 >>> UInt64.ofNat k).toNat = (BitVec.ofNat 64 _).toNat
  have h1 : (UInt64.ofNat k).toNat = k := by
    show (BitVec.ofNat 64 k).toNat = k
    rw [BitVec.toNat_ofNat, Nat.mod_eq_of_lt (by omega)]
  have h2 : (lN n).toUInt64.toNat = n := wb_tn hn
  rw [UInt64.toNat_shiftRight, h1, h2, Nat.mod_eq_of_lt hk, Nat.shiftRight_eq_div_pow, BitVec.toNat_ofNat, Nat.mod_eq_of_lt (Nat.lt_of_le_of_lt (Nat.div_le_self _ _) hn)]
theorem wb_shl (n : Nat) {k : Nat} (hk : k < 64) : lN n <<< ((nI k).toInt64 &&& 63) = lN (n * 2 ^ k) := by
  rw [wb_c k hk]
  apply wb_inj
  rw [Int64.toBitVec_shiftLeft, wb_tb, wb_tb, wb_tb, wb_sm k hk]
  apply BitVec.eq_of_toNat_eq
  rw [BitVec.shiftLeft_eq', BitVec.toNat_shiftLeft, BitVec.toNat_ofNat, BitVec.toNat_ofNat, BitVec.toNat_ofNat, Nat.mod_eq_of_lt (show k < 2 ^ 64 by omega), Nat.shiftLeft_eq, Nat.mul_mod, Nat.mod_mod, ← Nat.mul_mod]
theorem wb_and {a b : Nat} (ha : a < 2 ^ 64) (hb : b < 2 ^ 64) : lN a &&& lN b = lN (a &&& b) := by
  apply wb_inj
  rw [Int64.toBitVec_and, wb_tb, wb_tb, wb_tb]
  apply BitVec.eq_of_toNat_eq
  rw [BitVec.toNat_and, BitVec.toNat_ofNat, BitVec.toNat_ofNat, BitVec.toNat_ofNat, Nat.mod_eq_of_lt ha, Nat.mod_eq_of_lt hb, Nat.mod_eq_of_lt (Nat.and_lt_two_pow _ hb)]
theorem wb_or {a b : Nat} (ha : a < 2 ^ 64) (hb : b < 2 ^ 64) : lN a ||| lN b = lN (a ||| b) := by
  apply wb_inj
  rw [Int64.toBitVec_or, wb_tb, wb_tb, wb_tb]
  apply BitVec.eq_of_toNat_eq
  rw [BitVec.toNat_or, BitVec.toNat_ofNat, BitVec.toNat_ofNat, BitVec.toNat_ofNat, Nat.mod_eq_of_lt ha, Nat.mod_eq_of_lt hb, Nat.mod_eq_of_lt (Nat.or_lt_two_pow ha hb)]
theorem wb_mask {n k : Nat} (hn : n < 2 ^ 64) (hk : k < 64) : lN n &&& lN (2 ^ k - 1) = lN (n % 2 ^ k) := by
  rw [wb_and hn (by have := wb_lt2 hk; omega), Nat.and_two_pow_sub_one_eq_mod]
theorem wb_a1 {n : Nat} (hn : n < 2 ^ 64) : lN n &&& 1 = lN (n % 2) := wb_mask (k := 1) hn (by decide)
theorem wb_bit {n k : Nat} (hn : n < 2 ^ 64) (hk : k < 64) : ((lN n).toUInt64 >>> ((nI k).toInt64.toUInt64 &&& Int64.toUInt64 63)).toInt64 &&& 1 = lN (n / 2 ^ k % 2) := by
  rw [wb_shr hn hk, wb_a1 (Nat.lt_of_le_of_lt (Nat.div_le_self _ _) hn)]
theorem wb_xor {q k : Nat} (hk : k < 63) (h : 2 ^ k ≤ q) (h2 : q < 2 ^ (k + 1)) : lN q ^^^ lN (2 ^ k) = lN (q - 2 ^ k) := by
  obtain ⟨r, rfl⟩ : ∃ r, q = 2 ^ k + r := ⟨q - 2 ^ k, by omega⟩
  have hr : r < 2 ^ k := by rw [Nat.pow_succ] at h2; omega
  have hx : (2 ^ k + r) ^^^ 2 ^ k = r := by
    apply Nat.eq_of_testBit_eq
    intro i
    rw [Nat.testBit_xor, Nat.testBit_two_pow]
    rcases Nat.lt_trichotomy i k with h | h | h
    · rw [Nat.testBit_two_pow_add_gt h]
      simp [show ¬ k = i by omega]
    · subst h
      rw [Nat.testBit_two_pow_add_eq]
      simp
    · have a1 : 2 ^ (k + 1) ≤ 2 ^ i := Nat.pow_le_pow_right (by decide) h
      rw [Nat.testBit_lt_two_pow (show 2 ^ k + r < 2 ^ i by omega), Nat.testBit_lt_two_pow (show r < 2 ^ i by omega)]
      simp [show ¬ k = i by omega]
  have b1 := wb_lt2 (show k + 1 < 64 by omega)
  have b2 := wb_lt2 (show k < 64 by omega)
  apply wb_inj
  rw [Int64.toBitVec_xor, wb_tb, wb_tb, wb_tb]
  apply BitVec.eq_of_toNat_eq
  rw [BitVec.toNat_xor, BitVec.toNat_ofNat, BitVec.toNat_ofNat, BitVec.toNat_ofNat, Nat.mod_eq_of_lt (by omega : 2 ^ k + r < 2 ^ 64), Nat.mod_eq_of_lt b2, hx, Nat.add_sub_cancel_left, Nat.mod_eq_of_lt (by omega)]
/-! ===== lN: masks, 'or' of parts that don't overlap is a sum ===== -/
theorem u_tn {n : Nat} (h : n < 2 ^ 64) : (UInt64.ofNat n).toNat = n := Nat.mod_eq_of_lt h
theorem g_and {a b c : Nat} (ha : a < 2 ^ 64) (hb : b < 2 ^ 64) (hc : a &&& b = c) : lN a &&& lN b = lN c := by
  subst hc
  have h : UInt64.ofNat a &&& UInt64.ofNat b = UInt64.ofNat (a &&& b) := UInt64.toNat_inj.mp (by rw [UInt64.toNat_and, u_tn ha, u_tn hb, u_tn (Nat.and_lt_two_pow a hb)])
  have h2 := congrArg UInt64.toInt64 h
  exact h2
theorem g_and1 {a : Nat} (ha : a < 2 ^ 64) : lN a &&& 1 = lN (a % 2) := g_and (b := 1) ha (by decide) (Nat.and_two_pow_sub_one_eq_mod a 1)
theorem g_mask {a s p : Nat} (hp : 2 ^ s = p) (hs : s < 64) (ha : a < 2 ^ 64) : lN a &&& lN (p - 1) = lN (a % p) := by
  subst hp
  have := Nat.pow_lt_pow_right (show 1 < 2 by decide) hs
  exact g_and ha (by omega) (Nat.and_two_pow_sub_one_eq_mod a s)
theorem g_or {k p a b : Nat} (hp : 2 ^ k = p) (ha : a < p) (h : b * p + a < 2 ^ 64) : lN (b * p) ||| lN a = lN (b * p + a) := by
  subst hp
  have h1 : b * 2 ^ k ||| a = b * 2 ^ k + a := by rw [← Nat.shiftLeft_eq, Nat.shiftLeft_add_eq_or_of_lt ha]
  have h3 : UInt64.ofNat (b * 2 ^ k) ||| UInt64.ofNat a = UInt64.ofNat (b * 2 ^ k + a) := UInt64.toNat_inj.mp (by rw [UInt64.toNat_or, u_tn (by omega), u_tn (by omega), u_tn h, h1])
  have h2 := congrArg UInt64.toInt64 h3
  exact h2
theorem g_or' {k p a b : Nat} (hp : 2 ^ k = p) (ha : a < p) (h : a + b * p < 2 ^ 64) : lN a ||| lN (b * p) = lN (a + b * p) := by
  rw [Int64.or_comm, g_or hp ha (by omega), Nat.add_comm]
theorem g_ushr {a k p : Nat} {y : UInt64} (hy : y = UInt64.ofNat k) (hk : k < 64) (hp : 2 ^ k = p) (ha : a < 2 ^ 64) : ((lN a).toUInt64 >>> y).toInt64 = lN (a / p) := by
  subst hy hp
  have h : UInt64.ofNat a >>> UInt64.ofNat k = UInt64.ofNat (a / 2 ^ k) := UInt64.toNat_inj.mp (by rw [UInt64.toNat_shiftRight, u_tn ha, u_tn (by omega), u_tn (Nat.lt_of_le_of_lt (Nat.div_le_self _ _) ha), Nat.mod_eq_of_lt hk, Nat.shiftRight_eq_div_pow])
  have h2 := congrArg UInt64.toInt64 h
  exact h2
theorem g_shl {a k p : Nat} {y : Int64} (hy : y.toBitVec.smod 64 = BitVec.ofNat 64 k) (hk : k < 64) (hp : 2 ^ k = p) (ha : a < 2 ^ 64) : lN a <<< y = lN (a * p) := by
  subst hp
  apply Int64.toBitVec_inj.mp
  rw [Int64.toBitVec_shiftLeft, hy]
  apply BitVec.eq_of_toNat_eq
  have hb : (lN a).toBitVec.toNat = a := Nat.mod_eq_of_lt ha
  have hk' : (BitVec.ofNat 64 k).toNat = k := Nat.mod_eq_of_lt (by omega)
  have h : ((lN a).toBitVec <<< BitVec.ofNat 64 k).toNat = (a * 2 ^ k) % 2 ^ 64 := by simp only [BitVec.shiftLeft_eq', BitVec.toNat_shiftLeft, hb, hk', Nat.shiftLeft_eq]
  exact h
/-! ===== lN to 2^62 under >> and >>> ===== -/
theorem pf_lI {a : Nat} (h : a < 2 ^ 63) : (lN a).toInt = (a : Int) := lg_ofNat_toInt h
theorem pf_shr {a d : Nat} {D : Int64} (hD : (D.toBitVec.smod 64).toNat = d) (h : a < 2 ^ 62) : lN a >>> D = lN (a / 2 ^ d) := by
  have hd : a / 2 ^ d ≤ a := Nat.div_le_self _ _
  apply Int64.toInt_inj.mp
  have e : (lN a >>> D).toInt = (lN a).toInt >>> d := by
    rw [← hD]
    exact BitVec.toInt_sshiftRight ..
  rw [e, Int.shiftRight_eq_div_pow, pf_lI (by omega), pf_lI (by omega)]
  rfl
theorem pf_ushr {a d : Nat} {D : UInt64} (hD : D.toNat % 64 = d) (h : a < 2 ^ 62) : ((lN a).toUInt64 >>> D).toInt64 = lN (a / 2 ^ d) := by
  have hd : a / 2 ^ d ≤ a := Nat.div_le_self _ _
  have e : (lN a).toUInt64 >>> D = UInt64.ofNat (a / 2 ^ d) := UInt64.toNat_inj.mp (by
    rw [UInt64.toNat_shiftRight, hD, Nat.shiftRight_eq_div_pow, UInt64.toNat_ofNat']
    show (UInt64.ofNat a).toNat / 2 ^ d = _
    rw [UInt64.toNat_ofNat', Nat.mod_eq_of_lt (by omega), Nat.mod_eq_of_lt (by omega)])
  rw [e]
  rfl
theorem pf_andw (x : Int64) : ∃ m, m < 2 ^ 32 ∧ x &&& 4294967295 = lN m := ⟨x.toBitVec.toNat % 2 ^ 32, Nat.mod_lt _ (by decide), Int64.toBitVec_inj.mp (BitVec.eq_of_toNat_eq (by
  show (x.toBitVec &&& 4294967295#64).toNat = (BitVec.ofNat 64 (x.toBitVec.toNat % 2 ^ 32)).toNat
  rw [BitVec.toNat_and, show (4294967295#64).toNat = 2 ^ 32 - 1 from by decide, Nat.and_two_pow_sub_one_eq_mod, BitVec.toNat_ofNat]
  omega))⟩
/-! ===== Int64 as an unsigned number: uN x ===== -/
def uN (x : Int64) : Nat := x.toUInt64.toNat
theorem uN_lt (x : Int64) : uN x < 18446744073709551616 := x.toUInt64.toNat_lt
theorem uN_inj {x y : Int64} (h : uN x = uN y) : x = y := congrArg UInt64.toInt64 (UInt64.toNat_inj.mp h)
theorem uN_add (x y : Int64) : uN (x + y) = (uN x + uN y) % 18446744073709551616 := by
  show (x.toUInt64 + y.toUInt64).toNat = _
  exact UInt64.toNat_add _ _
theorem uN_mul (x y : Int64) : uN (x * y) = (uN x * uN y) % 18446744073709551616 := by
  show (x.toUInt64 * y.toUInt64).toNat = _
  exact UInt64.toNat_mul _ _
theorem uN_shl (x : Int64) : uN (x <<< ((1 : Int32).toInt64 &&& 63)) = (2 * uN x) % 18446744073709551616 := by
  have h : (((1 : Int32).toInt64 &&& 63).toBitVec.smod 64).toNat = 1 := by decide
  show (x.toBitVec <<< (((1 : Int32).toInt64 &&& 63).toBitVec.smod 64).toNat).toNat = _
  rw [h, BitVec.toNat_shiftLeft, Nat.shiftLeft_eq, Nat.mul_comm]
  rfl
theorem uN_shr (x : Int64) (s : UInt64) : uN (x.toUInt64 >>> s).toInt64 = uN x / 2 ^ (s.toNat % 64) := by
  show (x.toUInt64 >>> s).toNat = _
  rw [UInt64.toNat_shiftRight, Nat.shiftRight_eq_div_pow]
  rfl
theorem uN_s32 (x : Int64) : uN (x.toUInt64 >>> ((32 : Int32).toInt64.toUInt64 &&& Int64.toUInt64 63)).toInt64 = uN x / 4294967296 := by
  have h : ((32 : Int32).toInt64.toUInt64 &&& Int64.toUInt64 63).toNat % 64 = 32 := by decide
  rw [uN_shr, h]
theorem uN_s63 (x : Int64) : uN (x.toUInt64 >>> ((63 : Int32).toInt64.toUInt64 &&& Int64.toUInt64 63)).toInt64 = uN x / 9223372036854775808 := by
  have h : ((63 : Int32).toInt64.toUInt64 &&& Int64.toUInt64 63).toNat % 64 = 63 := by decide
  rw [uN_shr, h]
theorem uN_lo (x : Int64) : uN (x &&& 4294967295) = uN x % 4294967296 := by
  show (x.toUInt64 &&& Int64.toUInt64 4294967295).toNat = _
  rw [UInt64.toNat_and]
  exact Nat.and_two_pow_sub_one_eq_mod _ 32
theorem uN_bit (x : Int64) : (x &&& 1) = 0 ↔ uN x % 2 = 0 := by
  have h : uN (x &&& 1) = uN x % 2 := by
    show (x.toUInt64 &&& Int64.toUInt64 1).toNat = _
    rw [UInt64.toNat_and]
    exact Nat.and_two_pow_sub_one_eq_mod _ 1
  rw [← h]
  exact ⟨fun z => by rw [z]; rfl, fun z => uN_inj (z.trans rfl)⟩
theorem uN_or {x y : Int64} (hy : uN y < 2) : uN ((x <<< ((1 : Int32).toInt64 &&& 63)) ||| y) = (2 * uN x) % 18446744073709551616 + uN y := by
  have h1 : uN ((x <<< ((1 : Int32).toInt64 &&& 63)) ||| y) = uN (x <<< ((1 : Int32).toInt64 &&& 63)) ||| uN y := UInt64.toNat_or _ _
  have h2 : (2 * uN x) % 18446744073709551616 = 2 ^ 1 * (uN x % 9223372036854775808) := by omega
  rw [h1, uN_shl, h2]
  exact (Nat.two_pow_add_eq_or_of_lt (i := 1) hy _).symm
theorem nat_xor {a : Nat} (h : a < 18446744073709551616) : a ^^^ 2 ^ 63 = (a + 9223372036854775808) % 18446744073709551616 := by
  have h1 : (a ^^^ 2 ^ 63) % 2 ^ 63 = a % 2 ^ 63 := by rw [Nat.xor_mod_two_pow, Nat.mod_self, Nat.xor_zero]
  have h2 : (a ^^^ 2 ^ 63) / 2 ^ 63 = (a / 2 ^ 63) ^^^ 1 := by rw [Nat.xor_div_two_pow, Nat.div_self (Nat.two_pow_pos 63)]
  have h3 : a / 2 ^ 63 = 0 ∨ a / 2 ^ 63 = 1 := by omega
  generalize a ^^^ 2 ^ 63 = t at h1 h2
  rcases h3 with h3 | h3
  · rw [h3] at h2
    have h2 : t / 2 ^ 63 = 1 := h2
    omega
  · rw [h3] at h2
    have h2 : t / 2 ^ 63 = 0 := h2
    omega
theorem uN_xor (x : Int64) : uN (x ^^^ (-9223372036854775808)) = (uN x + 9223372036854775808) % 18446744073709551616 := by
  rw [← nat_xor (uN_lt x)]
  exact UInt64.toNat_xor _ _
theorem uN_int (x : Int64) : x.toInt = if 2 * uN x < 18446744073709551616 then (uN x : Int) else (uN x : Int) - 18446744073709551616 := BitVec.toInt_eq_toNat_cond _
theorem uN_le (x y : Int64) : (x ^^^ (-9223372036854775808)) ≤ (y ^^^ (-9223372036854775808)) ↔ uN x ≤ uN y := by
  have hx := uN_lt x
  have hy := uN_lt y
  rw [Int64.le_iff_toInt_le, uN_int, uN_int, uN_xor, uN_xor]
  omega
theorem uN_sk (x : Int64) {k : Nat} (hk : k < 64) : uN (x.toUInt64 >>> ((nI k).toInt64.toUInt64 &&& Int64.toUInt64 63)).toInt64 = uN x / 2 ^ k := by
  have h : ((nI k).toInt64.toUInt64 &&& Int64.toUInt64 63).toNat % 64 = k := by
    rw [nI_l (by omega), UInt64.toNat_and]
    have e : (lN k).toUInt64.toNat = k % 2 ^ 64 := rfl
    have e2 : (Int64.toUInt64 63).toNat = 2 ^ 6 - 1 := by decide
    rw [e, e2, Nat.and_two_pow_sub_one_eq_mod]
    omega
  rw [uN_shr, h]
/-! ===== unsigned comparison by xor with the least ===== -/
theorem lN_bv (n : Nat) : (lN n).toBitVec = BitVec.ofNat 64 n := rfl
theorem lN_nat {n : Nat} (h : n < 2 ^ 64) : (lN n).toBitVec.toNat = n := by rw [lN_bv, BitVec.toNat_ofNat]; exact Nat.mod_eq_of_lt h
theorem lN_xor (a b : Nat) : lN a ^^^ lN b = lN (a ^^^ b) := by
  apply Int64.toBitVec_inj.mp; rw [Int64.toBitVec_xor, lN_bv, lN_bv, lN_bv]; apply BitVec.eq_of_getLsbD_eq; intro i hi; simp [BitVec.getLsbD_ofNat, Nat.testBit_xor, hi]
theorem lN_ti {m : Nat} (h : m < 2 ^ 64) : (lN m).toInt = if m < 2 ^ 63 then (m : Int) else (m : Int) - 2 ^ 64 := by
  have c := BitVec.toInt_eq_toNat_cond (lN m).toBitVec
  rw [lN_nat h] at c
  show (lN m).toBitVec.toInt = _
  rw [c]
  split <;> split <;> omega
theorem xor63 {x : Nat} (h : x < 2 ^ 63) : x ^^^ 2 ^ 63 = 2 ^ 63 + x := by
  apply Nat.eq_of_testBit_eq
  intro i
  rw [Nat.testBit_xor, Nat.testBit_two_pow]
  rcases Nat.lt_trichotomy i 63 with z | z | z
  · rw [Nat.testBit_two_pow_add_gt z, decide_eq_false (by omega)]; simp
  · subst z; rw [Nat.testBit_two_pow_add_eq]; simp
  · have hp : 2 ^ 64 ≤ 2 ^ i := Nat.pow_le_pow_right (by decide) z
    rw [Nat.testBit_lt_two_pow (show x < 2 ^ i by omega), Nat.testBit_lt_two_pow (show 2 ^ 63 + x < 2 ^ i by omega), decide_eq_false (by omega)]; rfl
theorem xorS {a : Nat} (h : a < 2 ^ 64) : (lN a ^^^ (-9223372036854775808)).toInt = (a : Int) - 2 ^ 63 := by
  rw [show (-9223372036854775808 : Int64) = lN (2 ^ 63) from by decide +kernel, lN_xor]
  rcases Nat.lt_or_ge a (2 ^ 63) with z | z
  · rw [xor63 z, lN_ti (by omega), if_neg (by omega)]; omega
  · obtain ⟨x, rfl⟩ : ∃ x, a = 2 ^ 63 + x := ⟨a - 2 ^ 63, by omega⟩
    rw [← xor63 (by omega), Nat.xor_assoc, Nat.xor_self, Nat.xor_zero, lN_ti (by omega), if_pos (by omega), xor63 (by omega)]; omega
theorem ultL {a b : Nat} (ha : a < 2 ^ 64) (hb : b < 2 ^ 64) : ((lN b ^^^ (-9223372036854775808)) ≤ (lN a ^^^ (-9223372036854775808))) ↔ b ≤ a := by
  rw [Int64.le_iff_toInt_le, xorS ha, xorS hb]; omega
/-! ===== Int64 masks of n low bits ===== -/
theorem cr_bits (W U M : BitVec 64) : ((W &&& U) &&& (U &&& (M ^^^ BitVec.allOnes 64))) = 0#64 ↔ (W &&& U) &&& M = W &&& U := by
  constructor
  · intro h
    apply BitVec.eq_of_getLsbD_eq
    intro i hi
    have e := congrArg (fun x => BitVec.getLsbD x i) h
    simp only [BitVec.getLsbD_and, BitVec.getLsbD_xor, BitVec.getLsbD_allOnes, BitVec.getLsbD_zero, hi, decide_true] at e ⊢
    revert e
    cases W.getLsbD i <;> cases U.getLsbD i <;> cases M.getLsbD i <;> decide
  · intro h
    apply BitVec.eq_of_getLsbD_eq
    intro i hi
    have e := congrArg (fun x => BitVec.getLsbD x i) h
    simp only [BitVec.getLsbD_and, BitVec.getLsbD_xor, BitVec.getLsbD_allOnes, BitVec.getLsbD_zero, hi, decide_true] at e ⊢
    revert e
    cases W.getLsbD i <;> cases U.getLsbD i <;> cases M.getLsbD i <;> decide
theorem cr_mask (w U m : Int64) (n : Nat) (hm : m.toBitVec.toNat = 2 ^ n - 1) : ((w &&& U) &&& (U &&& (m ^^^ (-1)))) = 0 ↔ (w &&& U).toBitVec.toNat < 2 ^ n := by
  have e0 : (-1 : Int64).toBitVec = BitVec.allOnes 64 := by decide
  have z0 : (0 : Int64).toBitVec = 0#64 := by decide
  rw [← Int64.toBitVec_inj, z0, Int64.toBitVec_and, Int64.toBitVec_and, Int64.toBitVec_and, Int64.toBitVec_xor, e0, cr_bits]
  generalize w.toBitVec &&& U.toBitVec = T
  rw [← BitVec.toNat_inj, BitVec.toNat_and, hm, Nat.and_two_pow_sub_one_eq_mod]
  constructor
  · intro h
    have t := Nat.mod_lt T.toNat (Nat.two_pow_pos n)
    rw [h] at t
    exact t
  · exact Nat.mod_eq_of_lt
theorem cr_shr (t : Int64) (x : UInt64) (n : Nat) (hx : x.toNat % 64 = n) : (t.toUInt64 >>> x).toInt64 = 0 ↔ t.toBitVec.toNat < 2 ^ n := by
  rw [← Int64.toBitVec_inj, ← BitVec.toNat_inj]
  show (t.toUInt64 >>> x).toNat = 0 ↔ t.toUInt64.toNat < 2 ^ n
  rw [UInt64.toNat_shiftRight, hx, Nat.shiftRight_eq_div_pow]
  constructor
  · intro h
    have d : t.toUInt64.toNat / 2 ^ n < 1 := by
      rw [h]
      decide
    have e := (Nat.div_lt_iff_lt_mul (Nat.two_pow_pos n)).mp d
    rw [Nat.one_mul] at e
    exact e
  · exact Nat.div_eq_of_lt
theorem cr_amt (s : Int64) : ∃ n, n < 64 ∧ s &&& 63 = lN n ∧ (s.toUInt64 &&& Int64.toUInt64 63).toNat % 64 = n := by
  have e : (s.toUInt64 &&& Int64.toUInt64 63).toNat = s.toUInt64.toNat % 2 ^ 6 := by
    rw [UInt64.toNat_and, show (Int64.toUInt64 63).toNat = 2 ^ 6 - 1 from by decide, Nat.and_two_pow_sub_one_eq_mod]
  refine ⟨s.toUInt64.toNat % 2 ^ 6, by omega, ?_, by omega⟩
  rw [← Int64.toBitVec_inj, ← BitVec.toNat_inj]
  show (s.toUInt64 &&& Int64.toUInt64 63).toNat = (BitVec.ofNat 64 (s.toUInt64.toNat % 2 ^ 6)).toNat
  rw [e, BitVec.toNat_ofNat]
  omega
end
section
/-! a callee's store back in its caller's -/
theorem mw_rI_self (S : mw_S) (k : Nat) : mw_rI S k (S.1 k) = S := by
  refine Prod.ext ?_ rfl
  funext i
  simp only [mw_rI]
  by_cases h : i = k
  · rw [if_pos h, h]
  · rw [if_neg h]
theorem mw_rI_rI (S : mw_S) (k : Nat) (f g : Nat → Int32) : mw_rI (mw_rI S k f) k g = mw_rI S k g := by
  refine Prod.ext ?_ rfl
  funext i
  simp only [mw_rI]
  by_cases h : i = k
  · rw [if_pos h, if_pos h]
  · rw [if_neg h, if_neg h, if_neg h]
theorem mw_rL_rL (S : mw_S) (k : Nat) (f g : Nat → Int64) : mw_rL (mw_rL S k f) k g = mw_rL S k g := by
  refine Prod.ext rfl ?_
  funext i
  simp only [mw_rL]
  by_cases h : i = k
  · rw [if_pos h, if_pos h]
  · rw [if_neg h, if_neg h, if_neg h]
theorem mw_rI_sw (S : mw_S) {k j : Nat} (h : k ≠ j) (f g : Nat → Int32) : mw_rI (mw_rI S k f) j g = mw_rI (mw_rI S j g) k f := by
  refine Prod.ext ?_ rfl
  funext i
  simp only [mw_rI]
  by_cases h1 : i = j
  · rw [if_pos h1, if_pos h1, if_neg (fun e => h (e.symm.trans h1))]
  · rw [if_neg h1, if_neg h1]
theorem upd_upd (f : Nat → Int32) (k : Nat) (x y : Int32) : upd (upd f k x) k y = upd f k y := by
  funext j
  simp only [upd]
  by_cases h : j = k
  · rw [if_pos h, if_pos h]
  · rw [if_neg h, if_neg h, if_neg h]
theorem mw_uI_1 (S : mw_S) (k j : Nat) (x : Int32) (i : Nat) : (mw_uI S k j x).1 i = if i = k then upd (S.1 k) j x else S.1 i := rfl
theorem mw_uL_2 (S : mw_S) (k j : Nat) (x : Int64) (i : Nat) : (mw_uL S k j x).2 i = if i = k then vp_updL (S.2 k) j x else S.2 i := rfl
theorem mw_uI_2 (S : mw_S) (k j : Nat) (x : Int32) : (mw_uI S k j x).2 = S.2 := rfl
theorem mw_uL_1 (S : mw_S) (k j : Nat) (x : Int64) : (mw_uL S k j x).1 = S.1 := rfl
section MWG
variable {sh' sh : Nat → mw_H} {n' n : Nat} {ix : List Nat} {S S1 : mw_S}
theorem mw_mg_rs (S : mw_S) (ix : List Nat) : mw_mg S ix (mw_rs S ix) = S := by
  refine Prod.ext ?_ ?_
  · funext i
    show (match mw_pos ix i with
      | some k => S.1 (mw_ixf ix k)
      | none => S.1 i) = S.1 i
    cases h : mw_pos ix i with
    | none => rfl
    | some k => show S.1 (mw_ixf ix k) = S.1 i; rw [(mw_pos_lt h).2]
  · funext i
    show (match mw_pos ix i with
      | some k => S.2 (mw_ixf ix k)
      | none => S.2 i) = S.2 i
    cases h : mw_pos ix i with
    | none => rfl
    | some k => show S.2 (mw_ixf ix k) = S.2 i; rw [(mw_pos_lt h).2]
theorem mw_mg_1 (hx : mw_ix sh' n' sh n ix) {k i : Nat} (hk : k < n') (hi : mw_ixf ix k = i) : (mw_mg S ix S1).1 i = S1.1 k := by
  subst hi
  show (match mw_pos ix (mw_ixf ix k) with
      | some k => S1.1 k
      | none => S.1 (mw_ixf ix k)) = _
  rw [(hx.2 k hk).2.2]
theorem mw_mg_2 (hx : mw_ix sh' n' sh n ix) {k i : Nat} (hk : k < n') (hi : mw_ixf ix k = i) : (mw_mg S ix S1).2 i = S1.2 k := by
  subst hi
  show (match mw_pos ix (mw_ixf ix k) with
      | some k => S1.2 k
      | none => S.2 (mw_ixf ix k)) = _
  rw [(hx.2 k hk).2.2]
theorem mw_mg_1n {i : Nat} (hi : mw_pos ix i = none) : (mw_mg S ix S1).1 i = S.1 i := by
  show (match mw_pos ix i with
      | some k => S1.1 k
      | none => S.1 i) = _
  rw [hi]
theorem mw_mg_2n {i : Nat} (hi : mw_pos ix i = none) : (mw_mg S ix S1).2 i = S.2 i := by
  show (match mw_pos ix i with
      | some k => S1.2 k
      | none => S.2 i) = _
  rw [hi]
theorem mw_mg_rI (hx : mw_ix sh' n' sh n ix) {k i : Nat} (hk : k < n') (hi : mw_ixf ix k = i) (f : Nat → Int32) : mw_mg S ix (mw_rI S1 k f) = mw_rI (mw_mg S ix S1) i f := by
  subst hi
  refine Prod.ext ?_ rfl
  funext i
  show (match mw_pos ix i with
      | some j => (if j = k then f else S1.1 j)
      | none => S.1 i) = if i = mw_ixf ix k then f else (match mw_pos ix i with
      | some j => S1.1 j
      | none => S.1 i)
  cases h : mw_pos ix i with
  | none =>
    by_cases e : i = mw_ixf ix k
    · rw [e, (hx.2 k hk).2.2] at h; cases h
    · rw [if_neg e]
  | some j =>
    by_cases e : i = mw_ixf ix k
    · rw [if_pos e]
      rw [e, (hx.2 k hk).2.2] at h
      show (if j = k then f else S1.1 j) = f
      rw [if_pos (Option.some.inj h).symm]
    · rw [if_neg e]
      show (if j = k then f else S1.1 j) = S1.1 j
      rw [if_neg (fun e2 => e (by rw [← e2]; exact (mw_pos_lt h).2.symm))]
theorem mw_mg_rL (hx : mw_ix sh' n' sh n ix) {k i : Nat} (hk : k < n') (hi : mw_ixf ix k = i) (f : Nat → Int64) : mw_mg S ix (mw_rL S1 k f) = mw_rL (mw_mg S ix S1) i f := by
  subst hi
  refine Prod.ext rfl ?_
  funext i
  show (match mw_pos ix i with
      | some j => (if j = k then f else S1.2 j)
      | none => S.2 i) = if i = mw_ixf ix k then f else (match mw_pos ix i with
      | some j => S1.2 j
      | none => S.2 i)
  cases h : mw_pos ix i with
  | none =>
    by_cases e : i = mw_ixf ix k
    · rw [e, (hx.2 k hk).2.2] at h; cases h
    · rw [if_neg e]
  | some j =>
    by_cases e : i = mw_ixf ix k
    · rw [if_pos e]
      rw [e, (hx.2 k hk).2.2] at h
      show (if j = k then f else S1.2 j) = f
      rw [if_pos (Option.some.inj h).symm]
    · rw [if_neg e]
      show (if j = k then f else S1.2 j) = S1.2 j
      rw [if_neg (fun e2 => e (by rw [← e2]; exact (mw_pos_lt h).2.symm))]
theorem mw_mg_uI (hx : mw_ix sh' n' sh n ix) {k i : Nat} (hk : k < n') (hi : mw_ixf ix k = i) (j : Nat) (x : Int32) : mw_mg S ix (mw_uI S1 k j x) = mw_uI (mw_mg S ix S1) i j x := by
  unfold mw_uI
  rw [mw_mg_rI hx hk hi, mw_mg_1 hx hk hi]
theorem mw_mg_uL (hx : mw_ix sh' n' sh n ix) {k i : Nat} (hk : k < n') (hi : mw_ixf ix k = i) (j : Nat) (x : Int64) : mw_mg S ix (mw_uL S1 k j x) = mw_uL (mw_mg S ix S1) i j x := by
  unfold mw_uL
  rw [mw_mg_rL hx hk hi, mw_mg_2 hx hk hi]
end MWG
end
section
/-! longs as sets -/
def lb (x : Int64) (q : Nat) : Bool := x.toBitVec.getLsbD q
theorem lb_test (x : Int64) {q : Nat} (hq : q < 64) : ((x.toUInt64 >>> ((nI q).toInt64.toUInt64 &&& Int64.toUInt64 63)).toInt64 &&& 1) = 0 ↔ lb x q = false := by
  rw [wb_cu q hq]
  exact ts_bit hq (u_tn (by omega))
theorem nx_or (a b : Nat) : nI a ||| nI b = nI (a ||| b) := by
  apply Int32.toBitVec_inj.1
  show BitVec.ofNat 32 a ||| BitVec.ofNat 32 b = BitVec.ofNat 32 (a ||| b)
  apply BitVec.eq_of_getLsbD_eq
  intro i hi
  simp [hi]
theorem lb_or (x y : Int64) (q : Nat) : lb (x ||| y) q = (lb x q || lb y q) := by
  unfold lb
  rw [Int64.toBitVec_or, BitVec.getLsbD_or]
theorem lb_and (x y : Int64) (q : Nat) : lb (x &&& y) q = (lb x q && lb y q) := by
  unfold lb
  rw [Int64.toBitVec_and, BitVec.getLsbD_and]
theorem lb_not (x : Int64) {q : Nat} (hq : q < 64) : lb (x ^^^ (-1)) q = !lb x q := by
  unfold lb
  rw [Int64.toBitVec_xor, BitVec.getLsbD_xor, show (-1 : Int64).toBitVec = BitVec.allOnes 64 from by decide, BitVec.getLsbD_allOnes]
  simp [hq]
theorem lb_0 (q : Nat) : lb 0 q = false := by
  unfold lb
  rw [show (0 : Int64).toBitVec = 0#64 from rfl]
  simp
theorem lb_big (x : Int64) {q : Nat} (hq : 64 ≤ q) : lb x q = false := by
  unfold lb
  exact BitVec.getLsbD_of_ge _ _ hq
theorem lb_ext {x y : Int64} (h : ∀ q, q < 64 → lb x q = lb y q) : x = y := Int64.toBitVec_inj.1 (BitVec.eq_of_getLsbD_eq (fun i hi => h i hi))
theorem lb_lN (n q : Nat) : lb (lN n) q = (decide (q < 64) && n.testBit q) := by
  unfold lb
  rw [wb_tb, BitVec.getLsbD_ofNat]
theorem lb_pow {k : Nat} (hk : k < 64) (q : Nat) : lb (lN (2 ^ k)) q = decide (q = k) := by
  rw [lb_lN, Nat.testBit_two_pow]
  by_cases h : q = k
  · subst h; simp [hk]
  · simp [h, Ne.symm h]
theorem lb_zero {x : Int64} : x = 0 ↔ ∀ q, q < 64 → lb x q = false := ⟨fun h q _ => by rw [h]; exact lb_0 q, fun h => lb_ext (fun q hq => by rw [h q hq, lb_0])⟩
/-- x lies in y -/
theorem lb_sub {x y : Int64} : x &&& (y ^^^ (-1)) = 0 ↔ ∀ q, q < 64 → lb x q = true → lb y q = true := by
  rw [lb_zero]
  refine forall_congr' fun q => forall_congr' fun hq => ?_
  rw [lb_and, lb_not y hq]
  cases lb x q <;> cases lb y q <;> simp
theorem lb_shl {m k : Nat} (hk : k < 64) (q : Nat) : lb (lN (m * 2 ^ k)) q = (decide (q < 64) && (decide (k ≤ q) && m.testBit (q - k))) := by
  rw [lb_lN, Nat.mul_comm, Nat.testBit_two_pow_mul]
def pop4 (m : Nat) : Nat := m % 2 + m / 2 % 2 + m / 4 % 2 + m / 8 % 2
/-- four of the set's places, as a number -/
def four (x : Int64) (k : Nat) : Nat := (lb x k).toNat + 2 * (lb x (k + 1)).toNat + 4 * (lb x (k + 2)).toNat + 8 * (lb x (k + 3)).toNat
theorem four_lt (x : Int64) (k : Nat) : four x k < 16 := by
  unfold four
  have h1 := Bool.toNat_le (lb x k)
  have h2 := Bool.toNat_le (lb x (k + 1))
  have h3 := Bool.toNat_le (lb x (k + 2))
  have h4 := Bool.toNat_le (lb x (k + 3))
  omega
theorem tb_nat (n i : Nat) : (n.testBit i).toNat = n / 2 ^ i % 2 := by
  rw [Nat.testBit_eq_decide_div_mod_eq]
  by_cases h : n / 2 ^ i % 2 = 1
  · simp [h]
  · simp [h]; omega
theorem four_raw (x : Int64) {k : Nat} (hk : k ≤ 60) : ((x.toUInt64 >>> ((nI k).toInt64.toUInt64 &&& Int64.toUInt64 63)).toInt64).toInt32 &&& nI 15 = nI (four x k) := by
  obtain ⟨z, hz, rfl⟩ := wb_of x
  rw [wb_shr hz (by omega), lN_i, pk_and (nI (z / 2 ^ k)) (m := nI 15) 4 (by decide)]
  congr 1
  have e1 : (nI (z / 2 ^ k)).toBitVec.toNat = z / 2 ^ k % 2 ^ 32 := by
    show (BitVec.ofNat 32 (z / 2 ^ k)).toNat = _
    rw [BitVec.toNat_ofNat]
  have hb : ∀ s, s < 4 → (lb (lN z) (k + s)).toNat = z / 2 ^ k / 2 ^ s % 2 := fun s hs => by
    rw [lb_lN, decide_eq_true (by omega : k + s < 64), Bool.true_and, tb_nat, Nat.pow_add, Nat.div_div_eq_div_mul]
  unfold four
  have h0 := hb 0 (by omega)
  rw [Nat.add_zero] at h0
  rw [e1, h0, hb 1 (by omega), hb 2 (by omega), hb 3 (by omega)]
  generalize z / 2 ^ k = a
  omega
end
section
/-! the class's small methods -/
def sh0 : Nat → mw_H := fun _ => .inr (0, [])
def sh_Ve : Nat → mw_H := fun k => [.inr (5, [.inr 1, .inr 2, .inr 3, .inr 4, .inl 0]), .inl (0, 73, .inl 0), .inl (0, 73, .inl 0), .inl (1, 73, .inl 1), .inl (0, 73, .inl 0)].getD k (.inr (0, []))
def sh_Ma : Nat → mw_H := fun k => [.inr (2, [.inl 0, .inr 1, .inl 0]), .inl (0, 2240, .inl 0)].getD k (.inr (0, []))
def sh_Tq : Nat → mw_H := fun k => [.inr (4, [.inr 1, .inl 0]), .inl (0, 12, .inl 0)].getD k (.inr (0, []))
def sh_Vo : Nat → mw_H := fun k => [.inr (6, [.inr 1]), .inl (0, 192, .inl 0)].getD k (.inr (0, []))
set_option maxHeartbeats 4000000 in
set_option maxRecDepth 100000 in
theorem m_Wl_isNode (l : Launch) (D : va_G) (cA : Nat → ClassId) (x : Int32) (S : mw_S) : mw_M false l lw_tbl y_Wl_isNode b_Wl_isNode 1 (some .boolean) { frames := 0, cells := 0, slots := 0, locals := 0 } D vCl cA sh0 0 [.inl x] (S) (mw_Pi (fun r _ => (r = nI 1 ∧ ∃ k, k < 4 ∧ x = nI k) ∨ (r = nI 0 ∧ ¬ ∃ k, k < 4 ∧ x = nI k))) := by
  refine mw_M_of (by decide) (Nat.le_of_ble_eq_true rfl) ?_
  intro p e s m args below meth c A ad C hR
  refine mw_iload_n C 0 d_Wl_isNode_0 rfl rfl ?_
  refine mw_if_lt C 13 d_Wl_isNode_1 (by decide) (fun h1 => ?_) (fun h1 => ?_)
  ·
    refine mw_iconst C (v := nI 0) d_Wl_isNode_13 (by decide) ?_
    refine mw_zret C hR d_Wl_isNode_14 (by decide) ?_
    exact Or.inr ⟨rfl, fun ⟨k, hk, e⟩ => by rw [e] at h1; exact nI_pos (by omega) h1⟩
  ·
    refine mw_iload_n C 0 d_Wl_isNode_4 rfl rfl ?_
    refine mw_iconst C (v := nI 4) d_Wl_isNode_5 (by decide) ?_
    refine mw_icmp_ge C 13 d_Wl_isNode_6 (by decide) (fun h6 => ?_) (fun h6 => ?_)
    ·
      refine mw_iconst C (v := nI 0) d_Wl_isNode_13 (by decide) ?_
      refine mw_zret C hR d_Wl_isNode_14 (by decide) ?_
      exact Or.inr ⟨rfl, fun ⟨k, hk, e⟩ => by rw [e] at h6; exact nI_ge hk (by decide) h6⟩
    ·
      refine mw_iconst C (v := nI 1) d_Wl_isNode_9 (by decide) ?_
      refine mw_goto C 14 d_Wl_isNode_10 (by decide) ?_
      refine mw_zret C hR d_Wl_isNode_14 (by decide) ?_
      exact Or.inl ⟨rfl, by
        rcases pk_ix x (n := 4) (by decide) with h | h | h
        · exact absurd h h1
        · exact absurd h h6
        · exact h⟩
set_option maxHeartbeats 4000000 in
set_option maxRecDepth 100000 in
theorem m_Wl_isAccount (l : Launch) (D : va_G) (cA : Nat → ClassId) (x : Int32) (S : mw_S) : mw_M false l lw_tbl y_Wl_isAccount b_Wl_isAccount 1 (some .boolean) { frames := 0, cells := 0, slots := 0, locals := 0 } D vCl cA sh0 0 [.inl x] (S) (mw_Pi (fun r _ => (r = nI 1 ∧ ∃ k, k < 4 ∧ x = nI k) ∨ (r = nI 0 ∧ ¬ ∃ k, k < 4 ∧ x = nI k))) := by
  refine mw_M_of (by decide) (Nat.le_of_ble_eq_true rfl) ?_
  intro p e s m args below meth c A ad C hR
  refine mw_iload_n C 0 d_Wl_isAccount_0 rfl rfl ?_
  refine mw_if_lt C 13 d_Wl_isAccount_1 (by decide) (fun h1 => ?_) (fun h1 => ?_)
  ·
    refine mw_iconst C (v := nI 0) d_Wl_isAccount_13 (by decide) ?_
    refine mw_zret C hR d_Wl_isAccount_14 (by decide) ?_
    exact Or.inr ⟨rfl, fun ⟨k, hk, e⟩ => by rw [e] at h1; exact nI_pos (by omega) h1⟩
  ·
    refine mw_iload_n C 0 d_Wl_isAccount_4 rfl rfl ?_
    refine mw_iconst C (v := nI 4) d_Wl_isAccount_5 (by decide) ?_
    refine mw_icmp_ge C 13 d_Wl_isAccount_6 (by decide) (fun h6 => ?_) (fun h6 => ?_)
    ·
      refine mw_iconst C (v := nI 0) d_Wl_isAccount_13 (by decide) ?_
      refine mw_zret C hR d_Wl_isAccount_14 (by decide) ?_
      exact Or.inr ⟨rfl, fun ⟨k, hk, e⟩ => by rw [e] at h6; exact nI_ge hk (by decide) h6⟩
    ·
      refine mw_iconst C (v := nI 1) d_Wl_isAccount_9 (by decide) ?_
      refine mw_goto C 14 d_Wl_isAccount_10 (by decide) ?_
      refine mw_zret C hR d_Wl_isAccount_14 (by decide) ?_
      exact Or.inl ⟨rfl, by
        rcases pk_ix x (n := 4) (by decide) with h | h | h
        · exact absurd h h1
        · exact absurd h h6
        · exact h⟩
set_option maxHeartbeats 4000000 in
set_option maxRecDepth 100000 in
theorem m_Wl_payerOf (l : Launch) (D : va_G) (cA : Nat → ClassId) (t : Nat) (ht : t < 2 ^ 31) (S : mw_S) : mw_M false l lw_tbl y_Wl_payerOf b_Wl_payerOf 1 (some .int) { frames := 0, cells := 0, slots := 0, locals := 0 } D vCl cA sh0 0 [.inl (nI t)] (S) (mw_Pi (fun r _ => r = nI (t % 1000 / 10))) := by
  refine mw_M_of (by decide) (Nat.le_of_ble_eq_true rfl) ?_
  intro p e s m args below meth c A ad C hR
  refine mw_iload_n C 0 d_Wl_payerOf_0 rfl rfl ?_
  refine mw_sipush C (v := nI 1000) d_Wl_payerOf_1 (by decide) ?_
  refine mw_iremN C d_Wl_payerOf_4 (by omega) (by decide) (by decide) ?_
  refine mw_bipush C (v := nI 10) d_Wl_payerOf_5 (by decide) ?_
  refine mw_idivN C d_Wl_payerOf_7 (by omega) (by decide) (by decide) ?_
  refine mw_iret C hR d_Wl_payerOf_8 ?_
  rfl
set_option maxHeartbeats 4000000 in
set_option maxRecDepth 100000 in
theorem m_Wl_payeeOf (l : Launch) (D : va_G) (cA : Nat → ClassId) (t : Nat) (ht : t < 2 ^ 31) (S : mw_S) : mw_M false l lw_tbl y_Wl_payeeOf b_Wl_payeeOf 1 (some .int) { frames := 0, cells := 0, slots := 0, locals := 0 } D vCl cA sh0 0 [.inl (nI t)] (S) (mw_Pi (fun r _ => r = nI (t % 10))) := by
  refine mw_M_of (by decide) (Nat.le_of_ble_eq_true rfl) ?_
  intro p e s m args below meth c A ad C hR
  refine mw_iload_n C 0 d_Wl_payeeOf_0 rfl rfl ?_
  refine mw_bipush C (v := nI 10) d_Wl_payeeOf_1 (by decide) ?_
  refine mw_iremN C d_Wl_payeeOf_3 (by omega) (by decide) (by decide) ?_
  refine mw_iret C hR d_Wl_payeeOf_4 ?_
  rfl
set_option maxHeartbeats 4000000 in
set_option maxRecDepth 100000 in
theorem m_Wl_numberOf (l : Launch) (D : va_G) (cA : Nat → ClassId) (r q : Nat) (hr : 1 ≤ r) (S : mw_S) : mw_M false l lw_tbl y_Wl_numberOf b_Wl_numberOf 2 (some .int) { frames := 0, cells := 0, slots := 0, locals := 0 } D vCl cA sh0 0 [.inl (nI r), .inl (nI q)] (S) (mw_Pi (fun z _ => z = nI (4 * (r - 1) + q))) := by
  refine mw_M_of (by decide) (Nat.le_of_ble_eq_true rfl) ?_
  intro p e s m args below meth c A ad C hR
  refine mw_iconst C (v := nI 4) d_Wl_numberOf_0 (by decide) ?_
  refine mw_iload_n C 0 d_Wl_numberOf_1 rfl rfl ?_
  refine mw_iconst C (v := nI 1) d_Wl_numberOf_2 (by decide) ?_
  refine mw_isubN C d_Wl_numberOf_3 (by omega) ?_
  refine mw_imulN C d_Wl_numberOf_4 ?_
  refine mw_iload_n C 1 d_Wl_numberOf_5 rfl rfl ?_
  refine mw_iaddN C d_Wl_numberOf_6 ?_
  refine mw_iret C hR d_Wl_numberOf_7 ?_
  rfl
set_option maxHeartbeats 4000000 in
set_option maxRecDepth 100000 in
theorem m_Wl_roundOf (l : Launch) (D : va_G) (cA : Nat → ClassId) (q : Nat) (hq : q < 2 ^ 31) (S : mw_S) : mw_M false l lw_tbl y_Wl_roundOf b_Wl_roundOf 1 (some .int) { frames := 0, cells := 0, slots := 0, locals := 0 } D vCl cA sh0 0 [.inl (nI q)] (S) (mw_Pi (fun z _ => z = nI (q / 4 + 1))) := by
  refine mw_M_of (by decide) (Nat.le_of_ble_eq_true rfl) ?_
  intro p e s m args below meth c A ad C hR
  refine mw_iload_n C 0 d_Wl_roundOf_0 rfl rfl ?_
  refine mw_iconst C (v := nI 4) d_Wl_roundOf_1 (by decide) ?_
  refine mw_idivN C d_Wl_roundOf_2 (by omega) (by decide) (by decide) ?_
  refine mw_iconst C (v := nI 1) d_Wl_roundOf_3 (by decide) ?_
  refine mw_iaddN C d_Wl_roundOf_4 ?_
  refine mw_iret C hR d_Wl_roundOf_5 ?_
  rfl
set_option maxHeartbeats 4000000 in
set_option maxRecDepth 100000 in
theorem m_Wl_bitOf (l : Launch) (D : va_G) (cA : Nat → ClassId) (q : Nat) (hq : q < 64) (S : mw_S) : mw_M false l lw_tbl y_Wl_bitOf b_Wl_bitOf 1 (some .long) { frames := 0, cells := 0, slots := 0, locals := 0 } D vCl cA sh0 0 [.inl (nI q)] (S) (mw_Pl (fun z _ => z = lN (2 ^ q))) := by
  refine mw_M_of (by decide) (Nat.le_of_ble_eq_true rfl) ?_
  intro p e s m args below meth c A ad C hR
  refine mw_lconst C (v := 1) d_Wl_bitOf_0 (by decide) ?_
  refine mw_iload_n C 0 d_Wl_bitOf_1 rfl rfl ?_
  refine mw_lshl C d_Wl_bitOf_2 ?_
  refine mw_lret C hR d_Wl_bitOf_3 ?_
  show (1 : Int64) <<< ((nI q).toInt64 &&& 63) = _
  rw [show (1 : Int64) = lN 1 from by decide, wb_shl 1 hq, Nat.one_mul]
set_option maxHeartbeats 4000000 in
set_option maxRecDepth 100000 in
theorem m_Wl_contains (l : Launch) (D : va_G) (cA : Nat → ClassId) (x : Int64) (q : Nat) (hq : q < 64) (S : mw_S) : mw_M false l lw_tbl y_Wl_contains b_Wl_contains 3 (some .boolean) { frames := 0, cells := 0, slots := 0, locals := 0 } D vCl cA sh0 0 [.inr (.inl x), .inl (nI q)] (S) (mw_Pi (fun z _ => z = nI (lb x q).toNat)) := by
  refine mw_M_of (by decide) (Nat.le_of_ble_eq_true rfl) ?_
  intro p e s m args below meth c A ad C hR
  refine mw_lload_n C 0 d_Wl_contains_0 rfl rfl ?_
  refine mw_iload_n C 2 d_Wl_contains_1 rfl rfl ?_
  refine mw_lushr C d_Wl_contains_2 ?_
  refine mw_lconst C (v := 1) d_Wl_contains_3 (by decide) ?_
  refine mw_land C d_Wl_contains_4 ?_
  refine mw_lconst C (v := 0) d_Wl_contains_5 (by decide) ?_
  refine mw_lcmp C d_Wl_contains_6 ?_
  refine mw_if_eq C 14 d_Wl_contains_7 (by decide) (fun h7 => ?_) (fun h7 => ?_)
  ·
    refine mw_iconst C (v := nI 0) d_Wl_contains_14 (by decide) ?_
    refine mw_zret C hR d_Wl_contains_15 (by decide) ?_
    have h := (lb_test x hq).mp ((lg_cmp_eq _ _).mp h7)
    show nI 0 = _
    rw [h]; rfl
  ·
    refine mw_iconst C (v := nI 1) d_Wl_contains_10 (by decide) ?_
    refine mw_goto C 15 d_Wl_contains_11 (by decide) ?_
    refine mw_zret C hR d_Wl_contains_15 (by decide) ?_
    have h : lb x q = true := by
      cases hb : lb x q with
      | true => rfl
      | false => exact absurd ((lg_cmp_eq _ _).mpr ((lb_test x hq).mpr hb)) h7
    show nI 1 = _
    rw [h]; rfl
set_option maxHeartbeats 4000000 in
set_option maxRecDepth 100000 in
theorem m_Ma_kindOf (l : Launch) (D : va_G) (cA : Nat → ClassId) (t : Nat) (ht : t < 2 ^ 31) (S : mw_S) : mw_M false l lw_tbl y_Ma_kindOf b_Ma_kindOf 1 (some .int) { frames := 0, cells := 0, slots := 0, locals := 0 } D vCl cA sh0 0 [.inl (nI t)] (S) (mw_Pi (fun z _ => z = nI (t % 4))) := by
  refine mw_M_of (by decide) (Nat.le_of_ble_eq_true rfl) ?_
  intro p e s m args below meth c A ad C hR
  refine mw_iload_n C 0 d_Ma_kindOf_0 rfl rfl ?_
  refine mw_iconst C (v := nI 3) d_Ma_kindOf_1 (by decide) ?_
  refine mw_iand C d_Ma_kindOf_2 ?_
  refine mw_iret C hR d_Ma_kindOf_3 ?_
  exact pk_andN (by omega) 2 (by decide)
set_option maxHeartbeats 4000000 in
set_option maxRecDepth 100000 in
theorem m_Ma_senderOf (l : Launch) (D : va_G) (cA : Nat → ClassId) (t : Nat) (ht : t < 2 ^ 31) (S : mw_S) : mw_M false l lw_tbl y_Ma_senderOf b_Ma_senderOf 1 (some .int) { frames := 0, cells := 0, slots := 0, locals := 0 } D vCl cA sh0 0 [.inl (nI t)] (S) (mw_Pi (fun z _ => z = nI (t / 4 % 4))) := by
  refine mw_M_of (by decide) (Nat.le_of_ble_eq_true rfl) ?_
  intro p e s m args below meth c A ad C hR
  refine mw_iload_n C 0 d_Ma_senderOf_0 rfl rfl ?_
  refine mw_iconst C (v := nI 2) d_Ma_senderOf_1 (by decide) ?_
  refine mw_iushr C d_Ma_senderOf_2 ?_
  refine mw_eqi (pk_ushrN (by omega) (nI 2) 2 (by decide)) ?_
  refine mw_iconst C (v := nI 3) d_Ma_senderOf_3 (by decide) ?_
  refine mw_iand C d_Ma_senderOf_4 ?_
  refine mw_iret C hR d_Ma_senderOf_5 ?_
  exact pk_andN (by omega) 2 (by decide)
set_option maxHeartbeats 4000000 in
set_option maxRecDepth 100000 in
theorem m_Ma_receiverOf (l : Launch) (D : va_G) (cA : Nat → ClassId) (t : Nat) (ht : t < 2 ^ 31) (S : mw_S) : mw_M false l lw_tbl y_Ma_receiverOf b_Ma_receiverOf 1 (some .int) { frames := 0, cells := 0, slots := 0, locals := 0 } D vCl cA sh0 0 [.inl (nI t)] (S) (mw_Pi (fun z _ => z = nI (t / 16 % 4))) := by
  refine mw_M_of (by decide) (Nat.le_of_ble_eq_true rfl) ?_
  intro p e s m args below meth c A ad C hR
  refine mw_iload_n C 0 d_Ma_receiverOf_0 rfl rfl ?_
  refine mw_iconst C (v := nI 4) d_Ma_receiverOf_1 (by decide) ?_
  refine mw_iushr C d_Ma_receiverOf_2 ?_
  refine mw_eqi (pk_ushrN (by omega) (nI 4) 4 (by decide)) ?_
  refine mw_iconst C (v := nI 3) d_Ma_receiverOf_3 (by decide) ?_
  refine mw_iand C d_Ma_receiverOf_4 ?_
  refine mw_iret C hR d_Ma_receiverOf_5 ?_
  exact pk_andN (by omega) 2 (by decide)
set_option maxHeartbeats 4000000 in
set_option maxRecDepth 100000 in
theorem m_Ma_subjectOf (l : Launch) (D : va_G) (cA : Nat → ClassId) (t : Nat) (ht : t < 2 ^ 31) (S : mw_S) : mw_M false l lw_tbl y_Ma_subjectOf b_Ma_subjectOf 1 (some .int) { frames := 0, cells := 0, slots := 0, locals := 0 } D vCl cA sh0 0 [.inl (nI t)] (S) (mw_Pi (fun z _ => z = nI (t / 64))) := by
  refine mw_M_of (by decide) (Nat.le_of_ble_eq_true rfl) ?_
  intro p e s m args below meth c A ad C hR
  refine mw_iload_n C 0 d_Ma_subjectOf_0 rfl rfl ?_
  refine mw_bipush C (v := nI 6) d_Ma_subjectOf_1 (by decide) ?_
  refine mw_iushr C d_Ma_subjectOf_3 ?_
  refine mw_iret C hR d_Ma_subjectOf_4 ?_
  exact pk_ushrN (by omega) (nI 6) 6 (by decide)
set_option maxHeartbeats 4000000 in
set_option maxRecDepth 100000 in
theorem m_Ma_has (l : Launch) (D : va_G) (cA : Nat → ClassId) (x : Int32) (S : mw_S) (cn : Nat) (hc : cn < 2 ^ 31) (h0 : S.1 0 2 = nI cn) : mw_M false l lw_tbl y_Ma_has b_Ma_has 2 (some .boolean) { frames := 0, cells := 0, slots := 0, locals := 0 } D vCl cA sh_Ma 2 [.inr (.inr 0), .inl x] (S) (mw_Pi (fun r _ => (r = nI 1 ∧ ∃ k, k < cn ∧ x = nI k) ∨ (r = nI 0 ∧ ¬ ∃ k, k < cn ∧ x = nI k))) := by
  refine mw_M_of (by decide) (Nat.le_of_ble_eq_true rfl) ?_
  intro p e s m args below meth c A ad C hR
  refine mw_iload_n C 1 d_Ma_has_0 rfl rfl ?_
  refine mw_if_lt C 16 d_Ma_has_1 (by decide) (fun h1 => ?_) (fun h1 => ?_)
  ·
    refine mw_iconst C (v := nI 0) d_Ma_has_16 (by decide) ?_
    refine mw_zret C hR d_Ma_has_17 (by decide) ?_
    exact Or.inr ⟨rfl, fun ⟨k, hk, e⟩ => by rw [e] at h1; exact nI_pos (by omega) h1⟩
  ·
    refine mw_iload_n C 1 d_Ma_has_4 rfl rfl ?_
    refine mw_aload_n C 0 d_Ma_has_5 rfl rfl ?_
    refine mw_geti C f_Ma_19 d_Ma_has_6 (by decide) rfl rfl ?_
    refine mw_eqi h0 ?_
    refine mw_icmp_ge C 16 d_Ma_has_9 (by decide) (fun h9 => ?_) (fun h9 => ?_)
    ·
      refine mw_iconst C (v := nI 0) d_Ma_has_16 (by decide) ?_
      refine mw_zret C hR d_Ma_has_17 (by decide) ?_
      exact Or.inr ⟨rfl, fun ⟨k, hk, e⟩ => by rw [e] at h9; exact nI_ge hk hc h9⟩
    ·
      refine mw_iconst C (v := nI 1) d_Ma_has_12 (by decide) ?_
      refine mw_goto C 17 d_Ma_has_13 (by decide) ?_
      refine mw_zret C hR d_Ma_has_17 (by decide) ?_
      exact Or.inl ⟨rfl, by
        rcases pk_ix x hc with h | h | h
        · exact absurd h h1
        · exact absurd h h9
        · exact h⟩
set_option maxHeartbeats 4000000 in
set_option maxRecDepth 100000 in
theorem m_Tq_isFull (l : Launch) (D : va_G) (cA : Nat → ClassId) (S : mw_S) (cn : Nat) (hc : cn < 2 ^ 31) (h0 : S.1 0 1 = nI cn) : mw_M false l lw_tbl y_Tq_isFull b_Tq_isFull 1 (some .boolean) { frames := 0, cells := 0, slots := 0, locals := 0 } D vCl cA sh_Tq 2 [.inr (.inr 0)] (S) (mw_Pi (fun r _ => (r = nI 1 ∧ 12 ≤ cn) ∨ (r = nI 0 ∧ cn < 12))) := by
  refine mw_M_of (by decide) (Nat.le_of_ble_eq_true rfl) ?_
  intro p e s m args below meth c A ad C hR
  refine mw_aload_n C 0 d_Tq_isFull_0 rfl rfl ?_
  refine mw_geti C f_Tq_15 d_Tq_isFull_1 (by decide) rfl rfl ?_
  refine mw_eqi h0 ?_
  refine mw_bipush C (v := nI 12) d_Tq_isFull_4 (by decide) ?_
  refine mw_icmp_ltN C 13 d_Tq_isFull_6 (by decide) (by omega) (by omega) (fun h6 => ?_) (fun h6 => ?_)
  ·
    refine mw_iconst C (v := nI 0) d_Tq_isFull_13 (by decide) ?_
    refine mw_zret C hR d_Tq_isFull_14 (by decide) ?_
    exact Or.inr ⟨rfl, h6⟩
  ·
    refine mw_iconst C (v := nI 1) d_Tq_isFull_9 (by decide) ?_
    refine mw_goto C 14 d_Tq_isFull_10 (by decide) ?_
    refine mw_zret C hR d_Tq_isFull_14 (by decide) ?_
    exact Or.inl ⟨rfl, h6⟩
set_option maxHeartbeats 4000000 in
set_option maxRecDepth 100000 in
theorem m_Ve_has (l : Launch) (D : va_G) (cA : Nat → ClassId) (x : Int32) (S : mw_S) (nv : Nat) (hc : nv < 2 ^ 30) (h0 : S.1 0 4 = nI nv) : mw_M false l lw_tbl y_Ve_has b_Ve_has 2 (some .boolean) { frames := 0, cells := 0, slots := 0, locals := 0 } D vCl cA sh_Ve 5 [.inr (.inr 0), .inl x] (S) (mw_Pi (fun r _ => (r = nI 1 ∧ ∃ k, 1 ≤ k ∧ k ≤ nv ∧ x = nI k) ∨ (r = nI 0 ∧ ¬ ∃ k, 1 ≤ k ∧ k ≤ nv ∧ x = nI k))) := by
  refine mw_M_of (by decide) (Nat.le_of_ble_eq_true rfl) ?_
  intro p e s m args below meth c A ad C hR
  refine mw_iload_n C 1 d_Ve_has_0 rfl rfl ?_
  refine mw_iconst C (v := nI 1) d_Ve_has_1 (by decide) ?_
  refine mw_icmp_lt C 17 d_Ve_has_2 (by decide) (fun h2 => ?_) (fun h2 => ?_)
  ·
    refine mw_iconst C (v := nI 0) d_Ve_has_17 (by decide) ?_
    refine mw_zret C hR d_Ve_has_18 (by decide) ?_
    exact Or.inr ⟨rfl, fun ⟨k, h1, h3, e⟩ => by rw [e] at h2; exact absurd h2 (nI_nlt h1 (by omega))⟩
  ·
    refine mw_iload_n C 1 d_Ve_has_5 rfl rfl ?_
    refine mw_aload_n C 0 d_Ve_has_6 rfl rfl ?_
    refine mw_geti C f_Ve_25 d_Ve_has_7 (by decide) rfl rfl ?_
    refine mw_eqi h0 ?_
    refine mw_icmp_gt C 17 d_Ve_has_10 (by decide) (fun h10 => ?_) (fun h10 => ?_)
    ·
      refine mw_iconst C (v := nI 0) d_Ve_has_17 (by decide) ?_
      refine mw_zret C hR d_Ve_has_18 (by decide) ?_
      exact Or.inr ⟨rfl, fun ⟨k, h1, h3, e⟩ => by rw [e] at h10; exact absurd h10 (nI_nlt h3 (by omega))⟩
    ·
      refine mw_iconst C (v := nI 1) d_Ve_has_13 (by decide) ?_
      refine mw_goto C 18 d_Ve_has_14 (by decide) ?_
      refine mw_zret C hR d_Ve_has_18 (by decide) ?_
      exact Or.inl ⟨rfl, by
        rcases pk_ix x (n := nv + 1) (by omega) with h | h | h
        · exact absurd (Int32.lt_trans h (by decide)) h2
        · exact absurd (Int32.lt_of_lt_of_le (nI_lt (Nat.lt_succ_self nv) (by omega)) h) h10
        · obtain ⟨j, hj, e⟩ := h
          refine ⟨j, ?_, by omega, e⟩
          rw [e] at h2
          exact Nat.not_lt.mp (fun h9 => h2 (nI_lt h9 (by decide)))⟩
set_option maxHeartbeats 4000000 in
set_option maxRecDepth 100000 in
theorem m_Ve_sourceOf (l : Launch) (D : va_G) (cA : Nat → ClassId) (v q : Nat) (S : mw_S) (hv : v < 73) (hq : q < 2 ^ 31) (h0 : S.1 1 v = nI q) : mw_M false l lw_tbl y_Ve_sourceOf b_Ve_sourceOf 2 (some .int) { frames := 0, cells := 0, slots := 0, locals := 0 } D vCl cA sh_Ve 5 [.inr (.inr 0), .inl (nI v)] (S) (mw_Pi (fun r _ => r = nI (q % 4))) := by
  refine mw_M_of (by decide) (Nat.le_of_ble_eq_true rfl) ?_
  intro p e s m args below meth c A ad C hR
  refine mw_aload_n C 0 d_Ve_sourceOf_0 rfl rfl ?_
  refine mw_getr C f_Ve_9 d_Ve_sourceOf_1 (by decide) rfl rfl ?_
  refine mw_iload_n C 1 d_Ve_sourceOf_4 rfl rfl ?_
  refine mw_ialdN C d_Ve_sourceOf_5 (by decide) rfl (by omega) (by decide) ?_
  refine mw_eqi h0 ?_
  refine mw_iconst C (v := nI 4) d_Ve_sourceOf_6 (by decide) ?_
  refine mw_iremN C d_Ve_sourceOf_7 (by omega) (by decide) (by decide) ?_
  refine mw_iret C hR d_Ve_sourceOf_8 ?_
  rfl
set_option maxHeartbeats 4000000 in
set_option maxRecDepth 100000 in
theorem m_Tq_append (l : Launch) (D : va_G) (cA : Nat → ClassId) (x : Int32) (S : mw_S) (cn : Nat) (hc : cn < 12) (h0 : S.1 0 1 = nI cn) : mw_M true l lw_tbl y_Tq_append b_Tq_append 2 none { frames := 0, cells := 0, slots := 0, locals := 0 } D vCl cA sh_Tq 2 [.inr (.inr 0), .inl x] (S) (mw_Pv (fun S' => S' = mw_uI (mw_uI S 1 cn x) 0 1 (nI (cn + 1)))) := by
  refine mw_M_of (by decide) (Nat.le_of_ble_eq_true rfl) ?_
  intro p e s m args below meth c A ad C hR
  refine mw_aload_n C 0 d_Tq_append_0 rfl rfl ?_
  refine mw_getr C f_Tq_9 d_Tq_append_1 (by decide) rfl rfl ?_
  refine mw_aload_n C 0 d_Tq_append_4 rfl rfl ?_
  refine mw_geti C f_Tq_15 d_Tq_append_5 (by decide) rfl rfl ?_
  refine mw_eqi h0 ?_
  refine mw_iload_n C 1 d_Tq_append_8 rfl rfl ?_
  refine mw_iastN C rfl d_Tq_append_9 (by decide) rfl (by omega) (by decide) ?_
  refine mw_aload_n C 0 d_Tq_append_10 rfl rfl ?_
  refine mw_dup C d_Tq_append_11 rfl ?_
  refine mw_geti C f_Tq_15 d_Tq_append_12 (by decide) rfl rfl ?_
  refine mw_eqi (show _ = nI cn from h0) ?_
  refine mw_iconst C (v := nI 1) d_Tq_append_15 (by decide) ?_
  refine mw_iaddN C d_Tq_append_16 ?_
  refine mw_puti C rfl f_Tq_15 p_Tq_1 d_Tq_append_17 (by decide) rfl rfl ?_
  refine mw_vret C hR d_Tq_append_20 ?_
  rfl
set_option maxHeartbeats 4000000 in
set_option maxRecDepth 100000 in
theorem m_Ve_make (l : Launch) (D : va_G) (cA : Nat → ClassId) (x y z : Int32) (w : Int64) (S : mw_S) (cn : Nat) (hc : cn < 72) (h0 : S.1 0 4 = nI cn) : mw_M true l lw_tbl y_Ve_make b_Ve_make 6 (some .int) { frames := 0, cells := 0, slots := 0, locals := 0 } D vCl cA sh_Ve 5 [.inr (.inr 0), .inl x, .inl y, .inr (.inl w), .inl z] (S) (mw_Pi (fun r S' => r = nI (cn + 1) ∧ S' = mw_uI (mw_uL (mw_uI (mw_uI (mw_uI S 0 4 (nI (cn + 1))) 1 (cn + 1) x) 2 (cn + 1) y) 3 (cn + 1) w) 4 (cn + 1) z)) := by
  refine mw_M_of (by decide) (Nat.le_of_ble_eq_true rfl) ?_
  intro p e s m args below meth c A ad C hR
  refine mw_aload_n C 0 d_Ve_make_0 rfl rfl ?_
  refine mw_dup C d_Ve_make_1 rfl ?_
  refine mw_geti C f_Ve_25 d_Ve_make_2 (by decide) rfl rfl ?_
  refine mw_eqi h0 ?_
  refine mw_iconst C (v := nI 1) d_Ve_make_5 (by decide) ?_
  refine mw_iaddN C d_Ve_make_6 ?_
  refine mw_puti C rfl f_Ve_25 p_Ve_4 d_Ve_make_7 (by decide) rfl rfl ?_
  refine mw_aload_n C 0 d_Ve_make_10 rfl rfl ?_
  refine mw_getr C f_Ve_9 d_Ve_make_11 (by decide) rfl rfl ?_
  refine mw_aload_n C 0 d_Ve_make_14 rfl rfl ?_
  refine mw_geti C f_Ve_25 d_Ve_make_15 (by decide) rfl rfl ?_
  refine mw_eqi (show _ = nI (cn + 1) from rfl) ?_
  refine mw_iload_n C 1 d_Ve_make_18 rfl rfl ?_
  refine mw_iastN C rfl d_Ve_make_19 (by decide) rfl (by omega) (by decide) ?_
  refine mw_aload_n C 0 d_Ve_make_20 rfl rfl ?_
  refine mw_getr C f_Ve_15 d_Ve_make_21 (by decide) rfl rfl ?_
  refine mw_aload_n C 0 d_Ve_make_24 rfl rfl ?_
  refine mw_geti C f_Ve_25 d_Ve_make_25 (by decide) rfl rfl ?_
  refine mw_eqi (show _ = nI (cn + 1) from rfl) ?_
  refine mw_iload_n C 2 d_Ve_make_28 rfl rfl ?_
  refine mw_iastN C rfl d_Ve_make_29 (by decide) rfl (by omega) (by decide) ?_
  refine mw_aload_n C 0 d_Ve_make_30 rfl rfl ?_
  refine mw_getr C f_Ve_18 d_Ve_make_31 (by decide) rfl rfl ?_
  refine mw_aload_n C 0 d_Ve_make_34 rfl rfl ?_
  refine mw_geti C f_Ve_25 d_Ve_make_35 (by decide) rfl rfl ?_
  refine mw_eqi (show _ = nI (cn + 1) from rfl) ?_
  refine mw_lload_n C 3 d_Ve_make_38 rfl rfl ?_
  refine mw_lastN C rfl d_Ve_make_39 (by decide) rfl (by omega) (by decide) ?_
  refine mw_aload_n C 0 d_Ve_make_40 rfl rfl ?_
  refine mw_getr C f_Ve_22 d_Ve_make_41 (by decide) rfl rfl ?_
  refine mw_aload_n C 0 d_Ve_make_44 rfl rfl ?_
  refine mw_geti C f_Ve_25 d_Ve_make_45 (by decide) rfl rfl ?_
  refine mw_eqi (show _ = nI (cn + 1) from rfl) ?_
  refine mw_iload C d_Ve_make_48 rfl ?_
  refine mw_iastN C rfl d_Ve_make_50 (by decide) rfl (by omega) (by decide) ?_
  refine mw_aload_n C 0 d_Ve_make_51 rfl rfl ?_
  refine mw_geti C f_Ve_25 d_Ve_make_52 (by decide) rfl rfl ?_
  refine mw_eqi (show _ = nI (cn + 1) from rfl) ?_
  refine mw_iret C hR d_Ve_make_55 ?_
  exact ⟨rfl, rfl⟩
end
section
/-! votes, mail, transfers that wait -/
def vo_f (f : Nat → Int32) (j : Nat) (v : Int32) : Nat → Int32 := if f j = 0 then upd f j v else f
def vo_n (f : Nat → Int32) (q : Nat) (v : Int32) : Nat → Nat
  | 0 => 0
  | k + 1 => vo_n f q v k + (if f (4 * q + k) = v then 1 else 0)
theorem vo_n_le (f : Nat → Int32) (q : Nat) (v : Int32) : ∀ k, vo_n f q v k ≤ k
  | 0 => Nat.le_refl 0
  | k + 1 => by
    have := vo_n_le f q v k
    unfold vo_n
    split <;> omega
set_option maxHeartbeats 4000000 in
set_option maxRecDepth 100000 in
theorem m_Vo_note (l : Launch) (D : va_G) (cA : Nat → ClassId) (sd q : Nat) (v : Int32) (S : mw_S) (hs : sd < 4) (hq : q < 48) : mw_M true l lw_tbl y_Vo_note b_Vo_note 7 (some .int) { frames := 0, cells := 0, slots := 0, locals := 0 } D vCl cA sh_Vo 2 [.inr (.inr 0), .inl (nI sd), .inl (nI q), .inl v] (S) (mw_Pi (fun r S' => S' = mw_rI S 1 (vo_f (S.1 1) (4 * q + sd) v) ∧ r = (if vo_f (S.1 1) (4 * q + sd) v (4 * q + sd) = v then nI (vo_n (vo_f (S.1 1) (4 * q + sd) v) q v 4) else nI 0))) := by
  refine mw_M_of (by decide) (Nat.le_of_ble_eq_true rfl) ?_
  intro p e s m args below meth c A ad C hR
  have K : ∀ S1 : mw_S, S1 = mw_rI S 1 (vo_f (S.1 1) (4 * q + sd) v) → mw p l e { frames := 0, cells := 0, slots := 0, locals := 0 } s m args below meth c (MQ below (mw_Qc true D vCl cA ad sh_Vo 2 s.heap.size (S) (mw_Pi (fun r S' => S' = mw_rI S 1 (vo_f (S.1 1) (4 * q + sd) v) ∧ r = (if vo_f (S.1 1) (4 * q + sd) v (4 * q + sd) = v then nI (vo_n (vo_f (S.1 1) (4 * q + sd) v) q v 4) else nI 0)))) args s 0 0 A) 0 0 D vCl cA A ad sh_Vo 2 7 (27) ([(4, .inl (nI (4 * q))), (0, .inr (.inr 0)), (1, .inl (nI sd)), (2, .inl (nI q)), (3, .inl v)]) ([]) (S1) := by
    intro S1 hS1
    have hf1 : S1.1 1 = vo_f (S.1 1) (4 * q + sd) v := by rw [hS1]; exact mw_rI_s S 1 _
    have L : ∀ (dd i cnt : Nat), i + dd = 4 → cnt = vo_n (S1.1 1) q v i → S1.1 1 (4 * q + sd) = v → mw p l e { frames := 0, cells := 0, slots := 0, locals := 0 } s m args below meth c (MQ below (mw_Qc true D vCl cA ad sh_Vo 2 s.heap.size (S) (mw_Pi (fun r S' => S' = mw_rI S 1 (vo_f (S.1 1) (4 * q + sd) v) ∧ r = (if vo_f (S.1 1) (4 * q + sd) v (4 * q + sd) = v then nI (vo_n (vo_f (S.1 1) (4 * q + sd) v) q v 4) else nI 0)))) args s 0 0 A) 0 0 D vCl cA A ad sh_Vo 2 7 (48) ([(6, .inl (nI i)), (5, .inl (nI cnt)), (4, .inl (nI (4 * q))), (0, .inr (.inr 0)), (1, .inl (nI sd)), (2, .inl (nI q)), (3, .inl v)]) ([]) (S1) := by
      intro dd
      induction dd with
      | zero =>
        intro i cnt hi hc hv
        refine mw_iload C d_Vo_note_48 rfl ?_
        refine mw_iconst C (v := nI 4) d_Vo_note_50 (by decide) ?_
        refine mw_icmp_geN C 77 d_Vo_note_51 (by decide) (by omega) (by omega) (fun h51 => ?_) (fun h51 => ?_)
        ·
          refine mw_iload C d_Vo_note_77 rfl ?_
          refine mw_iret C hR d_Vo_note_79 ?_
          have e4 : i = 4 := by omega
          subst e4
          refine ⟨hS1, ?_⟩
          rw [← hf1, if_pos hv, hc]
        · exfalso; omega
      | succ dd ih =>
        intro i cnt hi hc hv
        refine mw_iload C d_Vo_note_48 rfl ?_
        refine mw_iconst C (v := nI 4) d_Vo_note_50 (by decide) ?_
        refine mw_icmp_geN C 77 d_Vo_note_51 (by decide) (by omega) (by omega) (fun h51 => ?_) (fun h51 => ?_)
        · exfalso; omega
        ·
          refine mw_aload_n C 0 d_Vo_note_54 rfl rfl ?_
          refine mw_getr C f_Vo_9 d_Vo_note_55 (by decide) rfl rfl ?_
          refine mw_iload C d_Vo_note_58 rfl ?_
          refine mw_iload C d_Vo_note_60 rfl ?_
          refine mw_iaddN C d_Vo_note_62 ?_
          refine mw_ialdN C d_Vo_note_63 (by decide) rfl (by omega) (by decide) ?_
          refine mw_iload_n C 3 d_Vo_note_64 rfl rfl ?_
          refine mw_icmp_ne C 71 d_Vo_note_65 (by decide) (fun h65 => ?_) (fun h65 => ?_)
          ·
            refine mw_iincN C d_Vo_note_71 rfl (by decide) ?_
            refine mw_goto C 48 d_Vo_note_74 (by decide) ?_
            exact mw_to _ (by exact And.intro rfl (And.intro rfl (And.intro rfl (And.intro rfl (And.intro rfl (And.intro rfl (And.intro rfl (trivial)))))))) (ih (i + 1) cnt (by omega) (by unfold vo_n; rw [if_neg h65, hc]; rfl) hv)
          ·
            refine mw_iincN C d_Vo_note_68 rfl (by decide) ?_
            refine mw_iincN C d_Vo_note_71 rfl (by decide) ?_
            refine mw_goto C 48 d_Vo_note_74 (by decide) ?_
            exact mw_to _ (by exact And.intro rfl (And.intro rfl (And.intro rfl (And.intro rfl (And.intro rfl (And.intro rfl (And.intro rfl (trivial)))))))) (ih (i + 1) (cnt + 1) (by omega) (by unfold vo_n; rw [if_pos h65, hc]) hv)
    refine mw_aload_n C 0 d_Vo_note_27 rfl rfl ?_
    refine mw_getr C f_Vo_9 d_Vo_note_28 (by decide) rfl rfl ?_
    refine mw_iload C d_Vo_note_31 rfl ?_
    refine mw_iload_n C 1 d_Vo_note_33 rfl rfl ?_
    refine mw_iaddN C d_Vo_note_34 ?_
    refine mw_ialdN C d_Vo_note_35 (by decide) rfl (by omega) (by decide) ?_
    refine mw_iload_n C 3 d_Vo_note_36 rfl rfl ?_
    refine mw_icmp_eq C 42 d_Vo_note_37 (by decide) (fun h37 => ?_) (fun h37 => ?_)
    ·
      refine mw_iconst C (v := nI 0) d_Vo_note_42 (by decide) ?_
      refine mw_istore C d_Vo_note_43 (by decide) ?_
      refine mw_iconst C (v := nI 0) d_Vo_note_45 (by decide) ?_
      refine mw_istore C d_Vo_note_46 (by decide) ?_
      exact mw_to _ (by exact And.intro rfl (And.intro rfl (And.intro rfl (And.intro rfl (And.intro rfl (And.intro rfl (And.intro rfl (trivial)))))))) (L 4 0 0 rfl rfl h37)
    ·
      refine mw_iconst C (v := nI 0) d_Vo_note_40 (by decide) ?_
      refine mw_iret C hR d_Vo_note_41 ?_
      refine ⟨hS1, ?_⟩
      rw [← hf1, if_neg h37]
  refine mw_iconst C (v := nI 4) d_Vo_note_0 (by decide) ?_
  refine mw_iload_n C 2 d_Vo_note_1 rfl rfl ?_
  refine mw_imulN C d_Vo_note_2 ?_
  refine mw_istore C d_Vo_note_3 (by decide) ?_
  refine mw_aload_n C 0 d_Vo_note_5 rfl rfl ?_
  refine mw_getr C f_Vo_9 d_Vo_note_6 (by decide) rfl rfl ?_
  refine mw_iload C d_Vo_note_9 rfl ?_
  refine mw_iload_n C 1 d_Vo_note_11 rfl rfl ?_
  refine mw_iaddN C d_Vo_note_12 ?_
  refine mw_ialdN C d_Vo_note_13 (by decide) rfl (by omega) (by decide) ?_
  refine mw_if_ne C 27 d_Vo_note_14 (by decide) (fun h14 => ?_) (fun h14 => ?_)
  · exact mw_to _ (by exact And.intro rfl (And.intro rfl (And.intro rfl (And.intro rfl (And.intro rfl (trivial)))))) (K S (by rw [vo_f, if_neg h14, mw_rI_self]))
  ·
    refine mw_aload_n C 0 d_Vo_note_17 rfl rfl ?_
    refine mw_getr C f_Vo_9 d_Vo_note_18 (by decide) rfl rfl ?_
    refine mw_iload C d_Vo_note_21 rfl ?_
    refine mw_iload_n C 1 d_Vo_note_23 rfl rfl ?_
    refine mw_iaddN C d_Vo_note_24 ?_
    refine mw_iload_n C 3 d_Vo_note_25 rfl rfl ?_
    refine mw_iastN C rfl d_Vo_note_26 (by decide) rfl (by omega) (by decide) ?_
    exact mw_to _ (by exact And.intro rfl (And.intro rfl (And.intro rfl (And.intro rfl (And.intro rfl (trivial)))))) (K _ (by rw [vo_f, if_pos h14]; rfl))
theorem ma_pack (a b c v : Nat) (ha : a < 4) (hb : b < 4) (hc : c < 4) : ((v * 2 ^ 6 ||| c * 2 ^ 4) ||| b * 2 ^ 2) ||| a = v * 64 + c * 16 + b * 4 + a := by
  have h1 : v * 2 ^ 6 ||| c * 2 ^ 4 = v * 2 ^ 6 + c * 2 ^ 4 := by
    rw [Nat.mul_comm v]; exact (Nat.two_pow_add_eq_or_of_lt (by omega) v).symm
  have h2 : v * 2 ^ 6 + c * 2 ^ 4 = 2 ^ 4 * (v * 4 + c) := by omega
  have h3 : 2 ^ 4 * (v * 4 + c) ||| b * 2 ^ 2 = 2 ^ 4 * (v * 4 + c) + b * 2 ^ 2 := (Nat.two_pow_add_eq_or_of_lt (by omega) _).symm
  have h4 : 2 ^ 4 * (v * 4 + c) + b * 2 ^ 2 = 2 ^ 2 * ((v * 4 + c) * 4 + b) := by omega
  have h5 : 2 ^ 2 * ((v * 4 + c) * 4 + b) ||| a = 2 ^ 2 * ((v * 4 + c) * 4 + b) + a := (Nat.two_pow_add_eq_or_of_lt (by omega) _).symm
  rw [h1, h2, h3, h4, h5, ← h4, ← h2]
set_option maxHeartbeats 4000000 in
set_option maxRecDepth 100000 in
theorem m_Ma_send (l : Launch) (D : va_G) (cA : Nat → ClassId) (a b c0 v : Nat) (S : mw_S) (cn : Nat) (ha : a < 4) (hb : b < 4) (hc : c0 < 4) (hv : v < 2 ^ 20) (hn : cn < 2240) (h0 : S.1 0 2 = nI cn) : mw_M true l lw_tbl y_Ma_send b_Ma_send 5 none { frames := 0, cells := 0, slots := 0, locals := 0 } D vCl cA sh_Ma 2 [.inr (.inr 0), .inl (nI a), .inl (nI b), .inl (nI c0), .inl (nI v)] (S) (mw_Pv (fun S' => S' = mw_uI (mw_uI S 1 cn (nI (v * 64 + c0 * 16 + b * 4 + a))) 0 2 (nI (cn + 1)))) := by
  refine mw_M_of (by decide) (Nat.le_of_ble_eq_true rfl) ?_
  intro p e s m args below meth c A ad C hR
  refine mw_aload_n C 0 d_Ma_send_0 rfl rfl ?_
  refine mw_geti C f_Ma_19 d_Ma_send_1 (by decide) rfl rfl ?_
  refine mw_eqi h0 ?_
  refine mw_sipush C (v := nI 2240) d_Ma_send_4 (by decide) ?_
  refine mw_icmp_geN C 44 d_Ma_send_7 (by decide) (by omega) (by omega) (fun h7 => ?_) (fun h7 => ?_)
  · exfalso; omega
  ·
    refine mw_aload_n C 0 d_Ma_send_10 rfl rfl ?_
    refine mw_getr C f_Ma_9 d_Ma_send_11 (by decide) rfl rfl ?_
    refine mw_aload_n C 0 d_Ma_send_14 rfl rfl ?_
    refine mw_geti C f_Ma_19 d_Ma_send_15 (by decide) rfl rfl ?_
    refine mw_eqi h0 ?_
    refine mw_iload C d_Ma_send_18 rfl ?_
    refine mw_bipush C (v := nI 6) d_Ma_send_20 (by decide) ?_
    refine mw_ishl C d_Ma_send_22 ?_
    refine mw_eqi (pk_shlN (nI 6 &&& 31) 6 (by decide) (by omega)) ?_
    refine mw_iload_n C 3 d_Ma_send_23 rfl rfl ?_
    refine mw_iconst C (v := nI 4) d_Ma_send_24 (by decide) ?_
    refine mw_ishl C d_Ma_send_25 ?_
    refine mw_eqi (pk_shlN (nI 4 &&& 31) 4 (by decide) (by omega)) ?_
    refine mw_ior C d_Ma_send_26 ?_
    refine mw_eqi (nx_or _ _) ?_
    refine mw_iload_n C 2 d_Ma_send_27 rfl rfl ?_
    refine mw_iconst C (v := nI 2) d_Ma_send_28 (by decide) ?_
    refine mw_ishl C d_Ma_send_29 ?_
    refine mw_eqi (pk_shlN (nI 2 &&& 31) 2 (by decide) (by omega)) ?_
    refine mw_ior C d_Ma_send_30 ?_
    refine mw_eqi (nx_or _ _) ?_
    refine mw_iload_n C 1 d_Ma_send_31 rfl rfl ?_
    refine mw_ior C d_Ma_send_32 ?_
    refine mw_eqi (nx_or _ _) ?_
    refine mw_eqi (congrArg nI (ma_pack a b c0 v ha hb hc)) ?_
    refine mw_iastN C rfl d_Ma_send_33 (by decide) rfl (by omega) (by decide) ?_
    refine mw_aload_n C 0 d_Ma_send_34 rfl rfl ?_
    refine mw_dup C d_Ma_send_35 rfl ?_
    refine mw_geti C f_Ma_19 d_Ma_send_36 (by decide) rfl rfl ?_
    refine mw_eqi (show _ = nI cn from h0) ?_
    refine mw_iconst C (v := nI 1) d_Ma_send_39 (by decide) ?_
    refine mw_iaddN C d_Ma_send_40 ?_
    refine mw_puti C rfl f_Ma_19 p_Ma_2 d_Ma_send_41 (by decide) rfl rfl ?_
    refine mw_vret C hR d_Ma_send_44 ?_
    rfl
def ma_cast (sl : Int32) (a b v : Nat) : Nat → (Nat → Int32) × Nat → (Nat → Int32) × Nat
  | 0, x => x
  | c + 1, x => if nI c = sl then ma_cast sl a b v c x else (upd (ma_cast sl a b v c x).1 (ma_cast sl a b v c x).2 (nI (v * 64 + c * 16 + b * 4 + a)), (ma_cast sl a b v c x).2 + 1)
theorem ma_cast_le (sl : Int32) (a b v : Nat) (x : (Nat → Int32) × Nat) : ∀ c, (ma_cast sl a b v c x).2 ≤ x.2 + c
  | 0 => Nat.le_refl _
  | c + 1 => by
    have := ma_cast_le sl a b v x c
    unfold ma_cast
    split <;> (try dsimp only) <;> omega
theorem ix_Ma_Ma : mw_ix sh_Ma 2 sh_Ma 2 [0, 1] := mw_ix_of (by decide +kernel)
set_option maxHeartbeats 4000000 in
set_option maxRecDepth 100000 in
theorem m_Ma_broadcast (l : Launch) (D : va_G) (cA : Nat → ClassId) (a b v : Nat) (sl : Int32) (S : mw_S) (cn : Nat) (ha : a < 4) (hb : b < 4) (hv : v < 2 ^ 20) (hn : cn + 4 ≤ 2240) (h0 : S.1 0 2 = nI cn) (hsl : S.1 0 0 = sl) : mw_M true l lw_tbl y_Ma_broadcast b_Ma_broadcast 5 none { frames := 1, cells := 0, slots := 0, locals := 24 } D vCl cA sh_Ma 2 [.inr (.inr 0), .inl (nI a), .inl (nI b), .inl (nI v)] (S) (mw_Pv (fun S' => S' = mw_uI (mw_rI S 1 (ma_cast sl a b v 4 (S.1 1, cn)).1) 0 2 (nI (ma_cast sl a b v 4 (S.1 1, cn)).2))) := by
  refine mw_M_of (by decide) (Nat.le_of_ble_eq_true rfl) ?_
  intro p e s m args below meth c A ad C hR
  have L : ∀ (dd i : Nat), i + dd = 4 → mw p l e { frames := 1, cells := 0, slots := 0, locals := 24 } s m args below meth c (MQ below (mw_Qc true D vCl cA ad sh_Ma 2 s.heap.size (S) (mw_Pv (fun S' => S' = mw_uI (mw_rI S 1 (ma_cast sl a b v 4 (S.1 1, cn)).1) 0 2 (nI (ma_cast sl a b v 4 (S.1 1, cn)).2)))) args s 0 0 A) 0 0 D vCl cA A ad sh_Ma 2 5 (3) ([(4, .inl (nI i)), (0, .inr (.inr 0)), (1, .inl (nI a)), (2, .inl (nI b)), (3, .inl (nI v))]) ([]) (mw_uI (mw_rI S 1 (ma_cast sl a b v i (S.1 1, cn)).1) 0 2 (nI (ma_cast sl a b v i (S.1 1, cn)).2)) := by
    intro dd
    induction dd with
    | zero =>
      intro i hi
      refine mw_iload C d_Ma_broadcast_3 rfl ?_
      refine mw_iconst C (v := nI 4) d_Ma_broadcast_5 (by decide) ?_
      refine mw_icmp_geN C 33 d_Ma_broadcast_6 (by decide) (by omega) (by omega) (fun h6 => ?_) (fun h6 => ?_)
      ·
        refine mw_vret C hR d_Ma_broadcast_33 ?_
        have e4 : i = 4 := by omega
        subst e4
        rfl
      · exfalso; omega
    | succ dd ih =>
      intro i hi
      have hle := ma_cast_le sl a b v (S.1 1, cn) i
      refine mw_iload C d_Ma_broadcast_3 rfl ?_
      refine mw_iconst C (v := nI 4) d_Ma_broadcast_5 (by decide) ?_
      refine mw_icmp_geN C 33 d_Ma_broadcast_6 (by decide) (by omega) (by omega) (fun h6 => ?_) (fun h6 => ?_)
      · exfalso; omega
      ·
        refine mw_iload C d_Ma_broadcast_9 rfl ?_
        refine mw_aload_n C 0 d_Ma_broadcast_11 rfl rfl ?_
        refine mw_geti C f_Ma_15 d_Ma_broadcast_12 (by decide) rfl rfl ?_
        refine mw_eqi (show _ = sl from hsl) ?_
        refine mw_icmp_eq C 27 d_Ma_broadcast_15 (by decide) (fun h15 => ?_) (fun h15 => ?_)
        ·
          refine mw_iincN C d_Ma_broadcast_27 rfl (by decide) ?_
          refine mw_goto C 3 d_Ma_broadcast_30 (by decide) ?_
          refine mw_eq _ _ _ (by exact And.intro rfl (And.intro rfl (And.intro rfl (And.intro rfl (And.intro rfl (trivial)))))) rfl ?_ (ih (i + 1) (by omega))
          simp only [ma_cast, if_pos h15]
        ·
          refine mw_aload_n C 0 d_Ma_broadcast_18 rfl rfl ?_
          refine mw_iload_n C 1 d_Ma_broadcast_19 rfl rfl ?_
          refine mw_iload_n C 2 d_Ma_broadcast_20 rfl rfl ?_
          refine mw_iload C d_Ma_broadcast_21 rfl ?_
          refine mw_iload_n C 3 d_Ma_broadcast_23 rfl rfl ?_
          refine mw_runv C ix_Ma_Ma rfl (mw_invV C (kk := 0) (m_Ma_send l D cA a b i v _ (ma_cast sl a b v i (S.1 1, cn)).2 ha hb (by omega) hv (by simp only at hle; omega) rfl) ix_Ma_Ma kb_Ma_22 wm_Ma_send wv_Ma_send (by decide) rfl rfl d_Ma_broadcast_24 rfl rfl (Nat.le_of_ble_eq_true rfl) rfl rfl ⟨by decide, by decide⟩ ⟨Nat.zero_le _, Nat.zero_le _⟩) (fun S24 e24 => ?_)
          subst e24
          refine mw_iincN C d_Ma_broadcast_27 rfl (by decide) ?_
          refine mw_goto C 3 d_Ma_broadcast_30 (by decide) ?_
          refine mw_eq _ _ _ (by exact And.intro rfl (And.intro rfl (And.intro rfl (And.intro rfl (And.intro rfl (trivial)))))) rfl ?_ (ih (i + 1) (by omega))
          rw [mw_mg_uI ix_Ma_Ma (k := 0) (i := 0) (by decide) rfl, mw_mg_uI ix_Ma_Ma (k := 1) (i := 1) (by decide) rfl, mw_mg_rs]
          simp only [ma_cast, if_neg h15]
          refine Prod.ext ?_ rfl
          funext z
          simp only [mw_uI, mw_rI]
          by_cases z0 : z = 0
          · subst z0; simp [upd_upd]
          · by_cases z1 : z = 1
            · subst z1; simp
            · simp [z0, z1]
  refine mw_iconst C (v := nI 0) d_Ma_broadcast_0 (by decide) ?_
  refine mw_istore C d_Ma_broadcast_1 (by decide) ?_
  refine mw_eq _ _ _ (by exact And.intro rfl (And.intro rfl (And.intro rfl (And.intro rfl (And.intro rfl (trivial)))))) rfl ?_ (L 4 0 rfl)
  refine Prod.ext ?_ rfl
  funext z
  simp only [mw_uI, mw_rI, ma_cast]
  by_cases z0 : z = 0
  · subst z0
    rw [if_pos rfl]
    funext j
    simp only [upd]
    by_cases j2 : j = 2
    · rw [if_pos j2, j2, h0]
    · rw [if_neg j2]; rfl
  · rw [if_neg z0]
    by_cases z1 : z = 1
    · rw [if_pos z1, z1]
    · rw [if_neg z1]

set_option maxHeartbeats 4000000 in
set_option maxRecDepth 100000 in
theorem m_Ma_take (l : Launch) (D : va_G) (cA : Nat → ClassId) (k t : Nat) (S : mw_S) (cn : Nat) (hk : k < cn) (hn : cn ≤ 2240) (h0 : S.1 0 2 = nI cn) : mw_M true l lw_tbl y_Ma_take b_Ma_take 3 (some .int) { frames := 1, cells := 0, slots := 0, locals := 40 } D vCl cA sh_Ma 2 [.inr (.inr 0), .inl (nI k)] (S) (mw_Pi (fun r S' => r = S.1 1 k ∧ S' = mw_rI (mw_uI S 0 2 (nI (cn - 1))) 1 (va_cpy (S.1 1) (S.1 1) (k + 1) k (cn - 1 - k)))) := by
  refine mw_M_of (by decide) (Nat.le_of_ble_eq_true rfl) ?_
  intro p e s m args below meth c A ad C hR
  refine mw_aload_n C 0 d_Ma_take_0 rfl rfl ?_
  refine mw_getr C f_Ma_9 d_Ma_take_1 (by decide) rfl rfl ?_
  refine mw_iload_n C 1 d_Ma_take_4 rfl rfl ?_
  refine mw_ialdN C d_Ma_take_5 (by decide) rfl (by omega) (by decide) ?_
  refine mw_istore_n C 2 d_Ma_take_6 rfl (by decide) ?_
  refine mw_aload_n C 0 d_Ma_take_7 rfl rfl ?_
  refine mw_dup C d_Ma_take_8 rfl ?_
  refine mw_geti C f_Ma_19 d_Ma_take_9 (by decide) rfl rfl ?_
  refine mw_eqi h0 ?_
  refine mw_iconst C (v := nI 1) d_Ma_take_12 (by decide) ?_
  refine mw_isubN C d_Ma_take_13 (by omega) ?_
  refine mw_puti C rfl f_Ma_19 p_Ma_2 d_Ma_take_14 (by decide) rfl rfl ?_
  refine mw_aload_n C 0 d_Ma_take_17 rfl rfl ?_
  refine mw_getr C f_Ma_9 d_Ma_take_18 (by decide) rfl rfl ?_
  refine mw_iload_n C 1 d_Ma_take_21 rfl rfl ?_
  refine mw_iconst C (v := nI 1) d_Ma_take_22 (by decide) ?_
  refine mw_iaddN C d_Ma_take_23 ?_
  refine mw_aload_n C 0 d_Ma_take_24 rfl rfl ?_
  refine mw_getr C f_Ma_9 d_Ma_take_25 (by decide) rfl rfl ?_
  refine mw_iload_n C 1 d_Ma_take_28 rfl rfl ?_
  refine mw_aload_n C 0 d_Ma_take_29 rfl rfl ?_
  refine mw_geti C f_Ma_19 d_Ma_take_30 (by decide) rfl rfl ?_
  refine mw_eqi (show _ = nI (cn - 1) from rfl) ?_
  refine mw_iload_n C 1 d_Ma_take_33 rfl rfl ?_
  refine mw_isubN C d_Ma_take_34 (by omega) ?_
  refine mw_copy C rfl kl_Ma_26 ka_native ka_static ka_init d_Ma_take_35 (by decide) rfl (nI_pos (by omega)) (nI_pos (by omega)) (nI_pos (by omega)) (by rw [nI_clamp (by omega), nI_clamp (by omega)]; omega) (by rw [nI_clamp (by omega), nI_clamp (by omega)]; omega) (by decide) (show 0 + (nativeFrameWords "java/lang/System" "arraycopy" 5 + 11) ≤ 40 from by decide +kernel) ?_
  refine mw_iload_n C 2 d_Ma_take_38 rfl rfl ?_
  refine mw_iret C hR d_Ma_take_39 ?_
  refine ⟨rfl, ?_⟩
  rw [nI_clamp (by omega), nI_clamp (by omega), nI_clamp (by omega)]
  rfl
set_option maxHeartbeats 4000000 in
set_option maxRecDepth 100000 in
theorem m_Tq_takeFirstOrNone (l : Launch) (D : va_G) (cA : Nat → ClassId) (S : mw_S) (cn : Nat) (hn : cn ≤ 12) (h0 : S.1 0 1 = nI cn) : mw_M true l lw_tbl y_Tq_takeFirstOrNone b_Tq_takeFirstOrNone 2 (some .int) { frames := 1, cells := 0, slots := 0, locals := 40 } D vCl cA sh_Tq 2 [.inr (.inr 0)] (S) (mw_Pi (fun r S' => (cn = 0 ∧ r = nI 0 ∧ S' = S) ∨ (0 < cn ∧ r = S.1 1 0 ∧ S' = mw_rI (mw_uI S 0 1 (nI (cn - 1))) 1 (va_cpy (S.1 1) (S.1 1) 1 0 (cn - 1))))) := by
  refine mw_M_of (by decide) (Nat.le_of_ble_eq_true rfl) ?_
  intro p e s m args below meth c A ad C hR
  refine mw_aload_n C 0 d_Tq_takeFirstOrNone_0 rfl rfl ?_
  refine mw_geti C f_Tq_15 d_Tq_takeFirstOrNone_1 (by decide) rfl rfl ?_
  refine mw_eqi h0 ?_
  refine mw_if_neN C 9 d_Tq_takeFirstOrNone_4 (by decide) (by omega) (fun h4 => ?_) (fun h4 => ?_)
  ·
    refine mw_aload_n C 0 d_Tq_takeFirstOrNone_9 rfl rfl ?_
    refine mw_getr C f_Tq_9 d_Tq_takeFirstOrNone_10 (by decide) rfl rfl ?_
    refine mw_iconst C (v := nI 0) d_Tq_takeFirstOrNone_13 (by decide) ?_
    refine mw_ialdN C d_Tq_takeFirstOrNone_14 (by decide) rfl (by omega) (by decide) ?_
    refine mw_istore_n C 1 d_Tq_takeFirstOrNone_15 rfl (by decide) ?_
    refine mw_aload_n C 0 d_Tq_takeFirstOrNone_16 rfl rfl ?_
    refine mw_dup C d_Tq_takeFirstOrNone_17 rfl ?_
    refine mw_geti C f_Tq_15 d_Tq_takeFirstOrNone_18 (by decide) rfl rfl ?_
    refine mw_eqi (show _ = nI cn from h0) ?_
    refine mw_iconst C (v := nI 1) d_Tq_takeFirstOrNone_21 (by decide) ?_
    refine mw_isubN C d_Tq_takeFirstOrNone_22 (by omega) ?_
    refine mw_puti C rfl f_Tq_15 p_Tq_1 d_Tq_takeFirstOrNone_23 (by decide) rfl rfl ?_
    refine mw_aload_n C 0 d_Tq_takeFirstOrNone_26 rfl rfl ?_
    refine mw_getr C f_Tq_9 d_Tq_takeFirstOrNone_27 (by decide) rfl rfl ?_
    refine mw_iconst C (v := nI 1) d_Tq_takeFirstOrNone_30 (by decide) ?_
    refine mw_aload_n C 0 d_Tq_takeFirstOrNone_31 rfl rfl ?_
    refine mw_getr C f_Tq_9 d_Tq_takeFirstOrNone_32 (by decide) rfl rfl ?_
    refine mw_iconst C (v := nI 0) d_Tq_takeFirstOrNone_35 (by decide) ?_
    refine mw_aload_n C 0 d_Tq_takeFirstOrNone_36 rfl rfl ?_
    refine mw_geti C f_Tq_15 d_Tq_takeFirstOrNone_37 (by decide) rfl rfl ?_
    refine mw_eqi (show _ = nI (cn - 1) from rfl) ?_
    refine mw_copy C rfl kl_Tq_19 ka_native ka_static ka_init d_Tq_takeFirstOrNone_40 (by decide) rfl (nI_pos (by omega)) (nI_pos (by omega)) (nI_pos (by omega)) (by rw [nI_clamp (by omega), nI_clamp (by omega)]; omega) (by rw [nI_clamp (by omega), nI_clamp (by omega)]; omega) (by decide) (show 0 + (nativeFrameWords "java/lang/System" "arraycopy" 5 + 11) ≤ 40 from by decide +kernel) ?_
    refine mw_iload_n C 1 d_Tq_takeFirstOrNone_43 rfl rfl ?_
    refine mw_iret C hR d_Tq_takeFirstOrNone_44 ?_
    refine Or.inr ⟨h4, rfl, ?_⟩
    rw [nI_clamp (by omega), nI_clamp (by omega), nI_clamp (by omega)]
    rfl
  ·
    refine mw_iconst C (v := nI 0) d_Tq_takeFirstOrNone_7 (by decide) ?_
    refine mw_iret C hR d_Tq_takeFirstOrNone_8 ?_
    exact Or.inl ⟨h4, rfl, rfl⟩
end
section
/-! the JDK's counts of bits; vertices that are right; the graph -/
def bc32 (x : Int32) : Int32 :=
  let i1 := x - ((x.toUInt32 >>> ((nI 1).toUInt32 &&& Int32.toUInt32 31)).toInt32 &&& 1431655765)
  let i2 := (i1 &&& 858993459) + ((i1.toUInt32 >>> ((nI 2).toUInt32 &&& Int32.toUInt32 31)).toInt32 &&& 858993459)
  let i3 := (i2 + (i2.toUInt32 >>> ((nI 4).toUInt32 &&& Int32.toUInt32 31)).toInt32) &&& 252645135
  let i4 := i3 + (i3.toUInt32 >>> ((nI 8).toUInt32 &&& Int32.toUInt32 31)).toInt32
  let i5 := i4 + (i4.toUInt32 >>> ((nI 16).toUInt32 &&& Int32.toUInt32 31)).toInt32
  i5 &&& nI 63
theorem bc32_16 : ∀ m, m < 16 → bc32 (nI m) = nI (pop4 m) := by decide +kernel
def bc64 (x : Int64) : Int32 :=
  let i1 := x - ((x.toUInt64 >>> ((nI 1).toInt64.toUInt64 &&& Int64.toUInt64 63)).toInt64 &&& 6148914691236517205)
  let i2 := (i1 &&& 3689348814741910323) + ((i1.toUInt64 >>> ((nI 2).toInt64.toUInt64 &&& Int64.toUInt64 63)).toInt64 &&& 3689348814741910323)
  let i3 := (i2 + (i2.toUInt64 >>> ((nI 4).toInt64.toUInt64 &&& Int64.toUInt64 63)).toInt64) &&& 1085102592571150095
  let i4 := i3 + (i3.toUInt64 >>> ((nI 8).toInt64.toUInt64 &&& Int64.toUInt64 63)).toInt64
  let i5 := i4 + (i4.toUInt64 >>> ((nI 16).toInt64.toUInt64 &&& Int64.toUInt64 63)).toInt64
  let i6 := i5 + (i5.toUInt64 >>> ((nI 32).toInt64.toUInt64 &&& Int64.toUInt64 63)).toInt64
  i6.toInt32 &&& nI 127
set_option maxHeartbeats 4000000 in
set_option maxRecDepth 100000 in
theorem m_In_bitCount (l : Launch) (D : va_G) (cA : Nat → ClassId) (x : Int32) (S : mw_S) : mw_M false l lw_tbl y_In_bitCount b_In_bitCount 1 (some .int) { frames := 0, cells := 0, slots := 0, locals := 0 } D vCl cA sh0 0 [.inl x] (S) (mw_Pi (fun r _ => r = bc32 x)) := by
  refine mw_M_of (by decide) (Nat.le_of_ble_eq_true rfl) ?_
  intro p e s m args below meth c A ad C hR
  refine mw_iload_n C 0 d_In_bitCount_0 rfl rfl ?_
  refine mw_iload_n C 0 d_In_bitCount_1 rfl rfl ?_
  refine mw_iconst C (v := nI 1) d_In_bitCount_2 (by decide) ?_
  refine mw_iushr C d_In_bitCount_3 ?_
  refine mw_ldcw C kc_In_265 d_In_bitCount_4 ?_
  refine mw_iand C d_In_bitCount_7 ?_
  refine mw_isub C d_In_bitCount_8 ?_
  refine mw_istore_n C 0 d_In_bitCount_9 rfl (by decide) ?_
  refine mw_iload_n C 0 d_In_bitCount_10 rfl rfl ?_
  refine mw_ldcw C kc_In_266 d_In_bitCount_11 ?_
  refine mw_iand C d_In_bitCount_14 ?_
  refine mw_iload_n C 0 d_In_bitCount_15 rfl rfl ?_
  refine mw_iconst C (v := nI 2) d_In_bitCount_16 (by decide) ?_
  refine mw_iushr C d_In_bitCount_17 ?_
  refine mw_ldcw C kc_In_266 d_In_bitCount_18 ?_
  refine mw_iand C d_In_bitCount_21 ?_
  refine mw_iadd C d_In_bitCount_22 ?_
  refine mw_istore_n C 0 d_In_bitCount_23 rfl (by decide) ?_
  refine mw_iload_n C 0 d_In_bitCount_24 rfl rfl ?_
  refine mw_iload_n C 0 d_In_bitCount_25 rfl rfl ?_
  refine mw_iconst C (v := nI 4) d_In_bitCount_26 (by decide) ?_
  refine mw_iushr C d_In_bitCount_27 ?_
  refine mw_iadd C d_In_bitCount_28 ?_
  refine mw_ldcw C kc_In_267 d_In_bitCount_29 ?_
  refine mw_iand C d_In_bitCount_32 ?_
  refine mw_istore_n C 0 d_In_bitCount_33 rfl (by decide) ?_
  refine mw_iload_n C 0 d_In_bitCount_34 rfl rfl ?_
  refine mw_iload_n C 0 d_In_bitCount_35 rfl rfl ?_
  refine mw_bipush C (v := nI 8) d_In_bitCount_36 (by decide) ?_
  refine mw_iushr C d_In_bitCount_38 ?_
  refine mw_iadd C d_In_bitCount_39 ?_
  refine mw_istore_n C 0 d_In_bitCount_40 rfl (by decide) ?_
  refine mw_iload_n C 0 d_In_bitCount_41 rfl rfl ?_
  refine mw_iload_n C 0 d_In_bitCount_42 rfl rfl ?_
  refine mw_bipush C (v := nI 16) d_In_bitCount_43 (by decide) ?_
  refine mw_iushr C d_In_bitCount_45 ?_
  refine mw_iadd C d_In_bitCount_46 ?_
  refine mw_istore_n C 0 d_In_bitCount_47 rfl (by decide) ?_
  refine mw_iload_n C 0 d_In_bitCount_48 rfl rfl ?_
  refine mw_bipush C (v := nI 63) d_In_bitCount_49 (by decide) ?_
  refine mw_iand C d_In_bitCount_51 ?_
  refine mw_iret C hR d_In_bitCount_52 ?_
  rfl
set_option maxHeartbeats 4000000 in
set_option maxRecDepth 100000 in
theorem m_Lo_bitCount (l : Launch) (D : va_G) (cA : Nat → ClassId) (x : Int64) (S : mw_S) : mw_M false l lw_tbl y_Lo_bitCount b_Lo_bitCount 2 (some .int) { frames := 0, cells := 0, slots := 0, locals := 0 } D vCl cA sh0 0 [.inr (.inl x)] (S) (mw_Pi (fun r _ => r = bc64 x)) := by
  refine mw_M_of (by decide) (Nat.le_of_ble_eq_true rfl) ?_
  intro p e s m args below meth c A ad C hR
  refine mw_lload_n C 0 d_Lo_bitCount_0 rfl rfl ?_
  refine mw_lload_n C 0 d_Lo_bitCount_1 rfl rfl ?_
  refine mw_iconst C (v := nI 1) d_Lo_bitCount_2 (by decide) ?_
  refine mw_lushr C d_Lo_bitCount_3 ?_
  refine mw_ldc2 C kc_Lo_314 d_Lo_bitCount_4 ?_
  refine mw_land C d_Lo_bitCount_7 ?_
  refine mw_lsub C d_Lo_bitCount_8 ?_
  refine mw_lstore_n C 0 d_Lo_bitCount_9 rfl (by decide) ?_
  refine mw_lload_n C 0 d_Lo_bitCount_10 rfl rfl ?_
  refine mw_ldc2 C kc_Lo_316 d_Lo_bitCount_11 ?_
  refine mw_land C d_Lo_bitCount_14 ?_
  refine mw_lload_n C 0 d_Lo_bitCount_15 rfl rfl ?_
  refine mw_iconst C (v := nI 2) d_Lo_bitCount_16 (by decide) ?_
  refine mw_lushr C d_Lo_bitCount_17 ?_
  refine mw_ldc2 C kc_Lo_316 d_Lo_bitCount_18 ?_
  refine mw_land C d_Lo_bitCount_21 ?_
  refine mw_ladd C d_Lo_bitCount_22 ?_
  refine mw_lstore_n C 0 d_Lo_bitCount_23 rfl (by decide) ?_
  refine mw_lload_n C 0 d_Lo_bitCount_24 rfl rfl ?_
  refine mw_lload_n C 0 d_Lo_bitCount_25 rfl rfl ?_
  refine mw_iconst C (v := nI 4) d_Lo_bitCount_26 (by decide) ?_
  refine mw_lushr C d_Lo_bitCount_27 ?_
  refine mw_ladd C d_Lo_bitCount_28 ?_
  refine mw_ldc2 C kc_Lo_318 d_Lo_bitCount_29 ?_
  refine mw_land C d_Lo_bitCount_32 ?_
  refine mw_lstore_n C 0 d_Lo_bitCount_33 rfl (by decide) ?_
  refine mw_lload_n C 0 d_Lo_bitCount_34 rfl rfl ?_
  refine mw_lload_n C 0 d_Lo_bitCount_35 rfl rfl ?_
  refine mw_bipush C (v := nI 8) d_Lo_bitCount_36 (by decide) ?_
  refine mw_lushr C d_Lo_bitCount_38 ?_
  refine mw_ladd C d_Lo_bitCount_39 ?_
  refine mw_lstore_n C 0 d_Lo_bitCount_40 rfl (by decide) ?_
  refine mw_lload_n C 0 d_Lo_bitCount_41 rfl rfl ?_
  refine mw_lload_n C 0 d_Lo_bitCount_42 rfl rfl ?_
  refine mw_bipush C (v := nI 16) d_Lo_bitCount_43 (by decide) ?_
  refine mw_lushr C d_Lo_bitCount_45 ?_
  refine mw_ladd C d_Lo_bitCount_46 ?_
  refine mw_lstore_n C 0 d_Lo_bitCount_47 rfl (by decide) ?_
  refine mw_lload_n C 0 d_Lo_bitCount_48 rfl rfl ?_
  refine mw_lload_n C 0 d_Lo_bitCount_49 rfl rfl ?_
  refine mw_bipush C (v := nI 32) d_Lo_bitCount_50 (by decide) ?_
  refine mw_lushr C d_Lo_bitCount_52 ?_
  refine mw_ladd C d_Lo_bitCount_53 ?_
  refine mw_lstore_n C 0 d_Lo_bitCount_54 rfl (by decide) ?_
  refine mw_lload_n C 0 d_Lo_bitCount_55 rfl rfl ?_
  refine mw_l2i C d_Lo_bitCount_56 ?_
  refine mw_bipush C (v := nI 127) d_Lo_bitCount_57 (by decide) ?_
  refine mw_iand C d_Lo_bitCount_59 ?_
  refine mw_iret C hR d_Lo_bitCount_60 ?_
  rfl
def ve_right (q m : Nat) (x : Int64) : Bool := if q / 4 = 0 then decide (m = 0) && decide (x = 0) else decide (3 ≤ pop4 m) && decide (x &&& ((lN (2 ^ (4 * (q / 4 - 1))) - 1) ^^^ (-1)) = 0)
def ve_down (q m : Nat) : Int64 := if q / 4 = 0 then 0 else lN (m * 2 ^ (4 * (q / 4 - 1)))
theorem ix0 (sh : Nat → mw_H) (n : Nat) : mw_ix sh0 0 sh n [] := ⟨rfl, fun k hk => absurd hk (Nat.not_lt_zero k)⟩
theorem pop4_lt (m : Nat) : pop4 m ≤ 4 := by unfold pop4; omega
set_option maxHeartbeats 4000000 in
set_option maxRecDepth 100000 in
theorem m_Ve_isRight (l : Launch) (D : va_G) (cA : Nat → ClassId) (v q k : Nat) (S : mw_S) (hv : v < 73) (hq : q < 48) (hk : k < 16) (h1 : S.1 1 v = nI q) (h2 : S.1 2 v = nI k) : mw_M false l lw_tbl y_Ve_isRight b_Ve_isRight 5 (some .boolean) { frames := 1, cells := 0, slots := 0, locals := 21 } D vCl cA sh_Ve 5 [.inr (.inr 0), .inl (nI v)] (S) (mw_Pi (fun r _ => r = nI (ve_right q k (S.2 3 v)).toNat)) := by
  refine mw_M_of (by decide) (Nat.le_of_ble_eq_true rfl) ?_
  intro p e s m args below meth c A ad C hR
  refine mw_aload_n C 0 d_Ve_isRight_0 rfl rfl ?_
  refine mw_getr C f_Ve_9 d_Ve_isRight_1 (by decide) rfl rfl ?_
  refine mw_iload_n C 1 d_Ve_isRight_4 rfl rfl ?_
  refine mw_ialdN C d_Ve_isRight_5 (by decide) rfl (by omega) (by decide) ?_
  refine mw_eqi h1 ?_
  refine mw_run0i C (ix0 _ _) (mw_invS C (m_Wl_roundOf l D cA q (by omega) _) (ix0 _ _) kb_Ve_29 ws_Wl_roundOf d_Ve_isRight_6 rfl rfl (Nat.le_of_ble_eq_true rfl) rfl rfl ⟨by decide, by decide⟩ ⟨Nat.zero_le _, Nat.zero_le _⟩) (fun x6 e6 => ?_)
  subst e6
  refine mw_istore_n C 2 d_Ve_isRight_9 rfl (by decide) ?_
  refine mw_iload_n C 2 d_Ve_isRight_10 rfl rfl ?_
  refine mw_iconst C (v := nI 1) d_Ve_isRight_11 (by decide) ?_
  refine mw_icmp_neN C 41 d_Ve_isRight_12 (by decide) (by omega) (by omega) (fun h12 => ?_) (fun h12 => ?_)
  ·
    have hq0 : ¬ q / 4 = 0 := by omega
    refine mw_iload_n C 2 d_Ve_isRight_41 rfl rfl ?_
    refine mw_iconst C (v := nI 1) d_Ve_isRight_42 (by decide) ?_
    refine mw_isubN C d_Ve_isRight_43 (by omega) ?_
    refine mw_iconst C (v := nI 0) d_Ve_isRight_44 (by decide) ?_
    refine mw_run0i C (ix0 _ _) (mw_invS C (m_Wl_numberOf l D cA (q / 4 + 1 - 1) 0 (by omega) _) (ix0 _ _) kb_Ve_33 ws_Wl_numberOf d_Ve_isRight_45 rfl rfl (Nat.le_of_ble_eq_true rfl) rfl rfl ⟨by decide, by decide⟩ ⟨Nat.zero_le _, Nat.zero_le _⟩) (fun x45 e45 => ?_)
    subst e45
    refine mw_run0l C (ix0 _ _) (mw_invS C (m_Wl_bitOf l D cA (4 * (q / 4 + 1 - 1 - 1) + 0) (by omega) _) (ix0 _ _) kb_Ve_37 ws_Wl_bitOf d_Ve_isRight_48 rfl rfl (Nat.le_of_ble_eq_true rfl) rfl rfl ⟨by decide, by decide⟩ ⟨Nat.zero_le _, Nat.zero_le _⟩) (fun x48 e48 => ?_)
    subst e48
    refine mw_lconst C (v := 1) d_Ve_isRight_51 (by decide) ?_
    refine mw_lsub C d_Ve_isRight_52 ?_
    refine mw_lstore_n C 3 d_Ve_isRight_53 rfl (by decide) ?_
    refine mw_aload_n C 0 d_Ve_isRight_54 rfl rfl ?_
    refine mw_getr C f_Ve_15 d_Ve_isRight_55 (by decide) rfl rfl ?_
    refine mw_iload_n C 1 d_Ve_isRight_58 rfl rfl ?_
    refine mw_ialdN C d_Ve_isRight_59 (by decide) rfl (by omega) (by decide) ?_
    refine mw_eqi h2 ?_
    refine mw_run0i C (ix0 _ _) (mw_invS C (m_In_bitCount l D cA (nI k) _) (ix0 _ _) kb_Ve_41 ws_In_bitCount d_Ve_isRight_60 rfl rfl (Nat.le_of_ble_eq_true rfl) rfl rfl ⟨by decide, by decide⟩ ⟨Nat.zero_le _, Nat.zero_le _⟩) (fun x60 e60 => ?_)
    subst e60
    refine mw_eqi (bc32_16 k hk) ?_
    have hp := pop4_lt k
    refine mw_iconst C (v := nI 3) d_Ve_isRight_63 (by decide) ?_
    refine mw_icmp_ltN C 88 d_Ve_isRight_64 (by decide) (by omega) (by omega) (fun h64 => ?_) (fun h64 => ?_)
    ·
      refine mw_iconst C (v := nI 0) d_Ve_isRight_88 (by decide) ?_
      refine mw_zret C hR d_Ve_isRight_89 (by decide) ?_
      unfold ve_right
      rw [if_neg hq0, decide_eq_false (by omega)]
      rfl
    ·
      refine mw_aload_n C 0 d_Ve_isRight_67 rfl rfl ?_
      refine mw_getr C f_Ve_18 d_Ve_isRight_68 (by decide) rfl rfl ?_
      refine mw_iload_n C 1 d_Ve_isRight_71 rfl rfl ?_
      refine mw_laldN C d_Ve_isRight_72 (by decide) rfl (by omega) (by decide) ?_
      refine mw_lload_n C 3 d_Ve_isRight_73 rfl rfl ?_
      refine mw_ldc2 C kc_Ve_46 d_Ve_isRight_74 ?_
      refine mw_lxor C d_Ve_isRight_77 ?_
      refine mw_land C d_Ve_isRight_78 ?_
      refine mw_lconst C (v := 0) d_Ve_isRight_79 (by decide) ?_
      refine mw_lcmp C d_Ve_isRight_80 ?_
      refine mw_if_ne C 88 d_Ve_isRight_81 (by decide) (fun h81 => ?_) (fun h81 => ?_)
      ·
        refine mw_iconst C (v := nI 0) d_Ve_isRight_88 (by decide) ?_
        refine mw_zret C hR d_Ve_isRight_89 (by decide) ?_
        unfold ve_right
        rw [if_neg hq0, decide_eq_false (p := _ = _) (fun h => h81 ((lg_cmp_eq _ _).mpr (by rw [show 4 * (q / 4 + 1 - 1 - 1) + 0 = 4 * (q / 4 - 1) from by omega]; exact h))), Bool.and_false]
        rfl
      ·
        refine mw_iconst C (v := nI 1) d_Ve_isRight_84 (by decide) ?_
        refine mw_goto C 89 d_Ve_isRight_85 (by decide) ?_
        refine mw_zret C hR d_Ve_isRight_89 (by decide) ?_
        unfold ve_right
        rw [if_neg hq0, decide_eq_true (by omega), decide_eq_true (p := _ = _) (by
          have h := (lg_cmp_eq _ _).mp h81
          rw [show 4 * (q / 4 + 1 - 1 - 1) + 0 = 4 * (q / 4 - 1) from by omega] at h
          exact h)]
        rfl
  ·
    have hq0 : q / 4 = 0 := by omega
    refine mw_aload_n C 0 d_Ve_isRight_15 rfl rfl ?_
    refine mw_getr C f_Ve_15 d_Ve_isRight_16 (by decide) rfl rfl ?_
    refine mw_iload_n C 1 d_Ve_isRight_19 rfl rfl ?_
    refine mw_ialdN C d_Ve_isRight_20 (by decide) rfl (by omega) (by decide) ?_
    refine mw_eqi h2 ?_
    refine mw_if_neN C 39 d_Ve_isRight_21 (by decide) (by omega) (fun h21 => ?_) (fun h21 => ?_)
    ·
      refine mw_iconst C (v := nI 0) d_Ve_isRight_39 (by decide) ?_
      refine mw_zret C hR d_Ve_isRight_40 (by decide) ?_
      unfold ve_right
      rw [if_pos hq0, decide_eq_false (by omega)]
      rfl
    ·
      refine mw_aload_n C 0 d_Ve_isRight_24 rfl rfl ?_
      refine mw_getr C f_Ve_18 d_Ve_isRight_25 (by decide) rfl rfl ?_
      refine mw_iload_n C 1 d_Ve_isRight_28 rfl rfl ?_
      refine mw_laldN C d_Ve_isRight_29 (by decide) rfl (by omega) (by decide) ?_
      refine mw_lconst C (v := 0) d_Ve_isRight_30 (by decide) ?_
      refine mw_lcmp C d_Ve_isRight_31 ?_
      refine mw_if_ne C 39 d_Ve_isRight_32 (by decide) (fun h32 => ?_) (fun h32 => ?_)
      ·
        refine mw_iconst C (v := nI 0) d_Ve_isRight_39 (by decide) ?_
        refine mw_zret C hR d_Ve_isRight_40 (by decide) ?_
        unfold ve_right
        rw [if_pos hq0, decide_eq_false (p := _ = _) (fun h => h32 ((lg_cmp_eq _ _).mpr h)), Bool.and_false]
        rfl
      ·
        refine mw_iconst C (v := nI 1) d_Ve_isRight_35 (by decide) ?_
        refine mw_goto C 40 d_Ve_isRight_36 (by decide) ?_
        refine mw_zret C hR d_Ve_isRight_40 (by decide) ?_
        unfold ve_right
        rw [if_pos hq0, decide_eq_true h21, decide_eq_true (p := _ = _) ((lg_cmp_eq _ _).mp h32)]
        rfl
set_option maxHeartbeats 4000000 in
set_option maxRecDepth 100000 in
theorem m_Ve_strongPlacesOf (l : Launch) (D : va_G) (cA : Nat → ClassId) (v q k : Nat) (S : mw_S) (hv : v < 73) (hq : q < 48) (hk : k < 16) (h1 : S.1 1 v = nI q) (h2 : S.1 2 v = nI k) : mw_M false l lw_tbl y_Ve_strongPlacesOf b_Ve_strongPlacesOf 3 (some .long) { frames := 1, cells := 0, slots := 0, locals := 21 } D vCl cA sh_Ve 5 [.inr (.inr 0), .inl (nI v)] (S) (mw_Pl (fun r _ => r = ve_down q k)) := by
  refine mw_M_of (by decide) (Nat.le_of_ble_eq_true rfl) ?_
  intro p e s m args below meth c A ad C hR
  refine mw_aload_n C 0 d_Ve_strongPlacesOf_0 rfl rfl ?_
  refine mw_getr C f_Ve_9 d_Ve_strongPlacesOf_1 (by decide) rfl rfl ?_
  refine mw_iload_n C 1 d_Ve_strongPlacesOf_4 rfl rfl ?_
  refine mw_ialdN C d_Ve_strongPlacesOf_5 (by decide) rfl (by omega) (by decide) ?_
  refine mw_eqi h1 ?_
  refine mw_run0i C (ix0 _ _) (mw_invS C (m_Wl_roundOf l D cA q (by omega) _) (ix0 _ _) kb_Ve_29 ws_Wl_roundOf d_Ve_strongPlacesOf_6 rfl rfl (Nat.le_of_ble_eq_true rfl) rfl rfl ⟨by decide, by decide⟩ ⟨Nat.zero_le _, Nat.zero_le _⟩) (fun x6 e6 => ?_)
  subst e6
  refine mw_istore_n C 2 d_Ve_strongPlacesOf_9 rfl (by decide) ?_
  refine mw_iload_n C 2 d_Ve_strongPlacesOf_10 rfl rfl ?_
  refine mw_iconst C (v := nI 1) d_Ve_strongPlacesOf_11 (by decide) ?_
  refine mw_icmp_neN C 19 d_Ve_strongPlacesOf_12 (by decide) (by omega) (by omega) (fun h12 => ?_) (fun h12 => ?_)
  ·
    have hq0 : ¬ q / 4 = 0 := by omega
    refine mw_aload_n C 0 d_Ve_strongPlacesOf_19 rfl rfl ?_
    refine mw_getr C f_Ve_15 d_Ve_strongPlacesOf_20 (by decide) rfl rfl ?_
    refine mw_iload_n C 1 d_Ve_strongPlacesOf_23 rfl rfl ?_
    refine mw_ialdN C d_Ve_strongPlacesOf_24 (by decide) rfl (by omega) (by decide) ?_
    refine mw_eqi h2 ?_
    refine mw_i2l C d_Ve_strongPlacesOf_25 ?_
    refine mw_iload_n C 2 d_Ve_strongPlacesOf_26 rfl rfl ?_
    refine mw_iconst C (v := nI 1) d_Ve_strongPlacesOf_27 (by decide) ?_
    refine mw_isubN C d_Ve_strongPlacesOf_28 (by omega) ?_
    refine mw_iconst C (v := nI 0) d_Ve_strongPlacesOf_29 (by decide) ?_
    refine mw_run0i C (ix0 _ _) (mw_invS C (m_Wl_numberOf l D cA (q / 4 + 1 - 1) 0 (by omega) _) (ix0 _ _) kb_Ve_33 ws_Wl_numberOf d_Ve_strongPlacesOf_30 rfl rfl (Nat.le_of_ble_eq_true rfl) rfl rfl ⟨by decide, by decide⟩ ⟨Nat.zero_le _, Nat.zero_le _⟩) (fun x30 e30 => ?_)
    subst e30
    refine mw_lshl C d_Ve_strongPlacesOf_33 ?_
    refine mw_lret C hR d_Ve_strongPlacesOf_34 ?_
    unfold ve_down
    rw [if_neg hq0, nI_l (by omega), wb_shl k (by omega), show 4 * (q / 4 + 1 - 1 - 1) + 0 = 4 * (q / 4 - 1) from by omega]
  ·
    refine mw_lconst C (v := 0) d_Ve_strongPlacesOf_15 (by decide) ?_
    refine mw_goto C 34 d_Ve_strongPlacesOf_16 (by decide) ?_
    refine mw_lret C hR d_Ve_strongPlacesOf_34 ?_
    unfold ve_down
    rw [if_pos (by omega)]
def sh_Gr : Nat → mw_H := fun k => [.inr (1, [.inr 4, .inr 1, .inr 2, .inr 3, .inl 1]), .inl (0, 48, .inl 0), .inl (1, 48, .inl 1), .inl (1, 48, .inl 1), .inr (5, [.inr 5, .inr 6, .inr 7, .inr 8, .inl 0]), .inl (0, 73, .inl 0), .inl (0, 73, .inl 0), .inl (1, 73, .inl 1), .inl (0, 73, .inl 0)].getD k (.inr (0, []))
def sh_L1 : Nat → mw_H := fun k => [.inl (1, 48, .inl 1)].getD k (.inr (0, []))
theorem ix_Ve_Gr : mw_ix sh_Ve 5 sh_Gr 9 [4, 5, 6, 7, 8] := mw_ix_of (by decide +kernel)
theorem ix_L1_Gr2 : mw_ix sh_L1 1 sh_Gr 9 [2] := mw_ix_of (by decide +kernel)
theorem ix_L1_Gr3 : mw_ix sh_L1 1 sh_Gr 9 [3] := mw_ix_of (by decide +kernel)
theorem ix_Gr_Gr : mw_ix sh_Gr 9 sh_Gr 9 [0, 1, 2, 3, 4, 5, 6, 7, 8] := mw_ix_of (by decide +kernel)
set_option maxHeartbeats 4000000 in
set_option maxRecDepth 100000 in
theorem m_Gr_has (l : Launch) (D : va_G) (cA : Nat → ClassId) (q : Nat) (hq : q < 64) (S : mw_S) : mw_M false l lw_tbl y_Gr_has b_Gr_has 2 (some .boolean) { frames := 1, cells := 0, slots := 0, locals := 22 } D vCl cA sh_Gr 9 [.inr (.inr 0), .inl (nI q)] (S) (mw_Pi (fun r _ => r = nI (lb (S.2 0 4) q).toNat)) := by
  refine mw_M_of (by decide) (Nat.le_of_ble_eq_true rfl) ?_
  intro p e s m args below meth c A ad C hR
  refine mw_aload_n C 0 d_Gr_has_0 rfl rfl ?_
  refine mw_getl C f_Gr_26 d_Gr_has_1 (by decide) rfl rfl ?_
  refine mw_iload_n C 1 d_Gr_has_4 rfl rfl ?_
  refine mw_run0i C (ix0 _ _) (mw_invS C (m_Wl_contains l D cA _ q hq _) (ix0 _ _) kb_Gr_30 ws_Wl_contains d_Gr_has_5 rfl rfl (Nat.le_of_ble_eq_true rfl) rfl rfl ⟨by decide, by decide⟩ ⟨Nat.zero_le _, Nat.zero_le _⟩) (fun x5 e5 => ?_)
  subst e5
  refine mw_zret C hR d_Gr_has_8 (by cases lb (S.2 0 4) q <;> decide) ?_
  rfl
def gr_follow (rows : Nat → Int64) (d : Int64) : Nat → Int64
  | 0 => d
  | k + 1 => if lb d k = true then gr_follow rows d k ||| rows k else gr_follow rows d k
theorem lb_nat0 {b : Bool} (h : b.toNat = 0) : b = false := by cases b; rfl; cases h
theorem lb_nat1 {b : Bool} (h : 0 < b.toNat) : b = true := by cases b; cases h; rfl
theorem lb_nat_lt (b : Bool) : b.toNat < 2 ^ 31 := by cases b <;> decide
set_option maxHeartbeats 4000000 in
set_option maxRecDepth 100000 in
theorem m_Gr_follow (l : Launch) (D : va_G) (cA : Nat → ClassId) (dr : Int64) (S : mw_S) : mw_M false l lw_tbl y_Gr_follow b_Gr_follow 6 (some .long) { frames := 1, cells := 0, slots := 0, locals := 22 } D vCl cA sh_L1 1 [.inr (.inr 0), .inr (.inl dr)] (S) (mw_Pl (fun r _ => r = gr_follow (S.2 0) dr 48)) := by
  refine mw_M_of (by decide) (Nat.le_of_ble_eq_true rfl) ?_
  intro p e s m args below meth c A ad C hR
  have L : ∀ (dd i : Nat), i + dd = 48 → mw p l e { frames := 1, cells := 0, slots := 0, locals := 22 } s m args below meth c (MQ below (mw_Qc false D vCl cA ad sh_L1 1 s.heap.size (S) (mw_Pl (fun r _ => r = gr_follow (S.2 0) dr 48))) args s 0 0 A) 0 0 D vCl cA A ad sh_L1 1 6 (5) ([(5, .inl (nI i)), (3, .inr (.inl (gr_follow (S.2 0) dr i))), (0, .inr (.inr 0)), (1, .inr (.inl dr))]) ([]) (S) := by
    intro dd
    induction dd with
    | zero =>
      intro i hi
      refine mw_iload C d_Gr_follow_5 rfl ?_
      refine mw_bipush C (v := nI 48) d_Gr_follow_7 (by decide) ?_
      refine mw_icmp_geN C 34 d_Gr_follow_9 (by decide) (by omega) (by omega) (fun h9 => ?_) (fun h9 => ?_)
      ·
        refine mw_lload_n C 3 d_Gr_follow_34 rfl rfl ?_
        refine mw_lret C hR d_Gr_follow_35 ?_
        rw [show i = 48 from by omega]
      · exfalso; omega
    | succ dd ih =>
      intro i hi
      refine mw_iload C d_Gr_follow_5 rfl ?_
      refine mw_bipush C (v := nI 48) d_Gr_follow_7 (by decide) ?_
      refine mw_icmp_geN C 34 d_Gr_follow_9 (by decide) (by omega) (by omega) (fun h9 => ?_) (fun h9 => ?_)
      · exfalso; omega
      ·
        refine mw_lload_n C 1 d_Gr_follow_12 rfl rfl ?_
        refine mw_iload C d_Gr_follow_13 rfl ?_
        refine mw_run0i C (ix0 _ _) (mw_invS C (m_Wl_contains l D cA dr i (by omega) _) (ix0 _ _) kb_Gr_30 ws_Wl_contains d_Gr_follow_15 rfl rfl (Nat.le_of_ble_eq_true rfl) rfl rfl ⟨by decide, by decide⟩ ⟨Nat.zero_le _, Nat.zero_le _⟩) (fun x15 e15 => ?_)
        subst e15
        have hlt := lb_nat_lt (lb dr i)
        refine mw_if_eqN C 28 d_Gr_follow_18 (by decide) (by omega) (fun h18 => ?_) (fun h18 => ?_)
        ·
          refine mw_iincN C d_Gr_follow_28 rfl (by decide) ?_
          refine mw_goto C 5 d_Gr_follow_31 (by decide) ?_
          refine mw_eq _ _ _ (by exact And.intro rfl (And.intro (by show some (Sum.inr (Sum.inl _)) = _; rw [gr_follow, if_neg (by rw [lb_nat0 h18]; decide)]) (And.intro rfl (And.intro rfl trivial)))) rfl rfl (ih (i + 1) (by omega))
        ·
          refine mw_lload_n C 3 d_Gr_follow_21 rfl rfl ?_
          refine mw_aload_n C 0 d_Gr_follow_22 rfl rfl ?_
          refine mw_iload C d_Gr_follow_23 rfl ?_
          refine mw_laldN C d_Gr_follow_25 (by decide) rfl (by omega) (by decide) ?_
          refine mw_lor C d_Gr_follow_26 ?_
          refine mw_lstore_n C 3 d_Gr_follow_27 rfl (by decide) ?_
          refine mw_iincN C d_Gr_follow_28 rfl (by decide) ?_
          refine mw_goto C 5 d_Gr_follow_31 (by decide) ?_
          refine mw_eq _ _ _ (by exact And.intro rfl (And.intro (by show some (Sum.inr (Sum.inl _)) = _; rw [gr_follow, if_pos (lb_nat1 h18)]) (And.intro rfl (And.intro rfl trivial)))) rfl rfl (ih (i + 1) (by omega))
  refine mw_lload_n C 1 d_Gr_follow_0 rfl rfl ?_
  refine mw_lstore_n C 3 d_Gr_follow_1 rfl (by decide) ?_
  refine mw_iconst C (v := nI 0) d_Gr_follow_2 (by decide) ?_
  refine mw_istore C d_Gr_follow_3 (by decide) ?_
  exact mw_to _ (by exact And.intro rfl (And.intro rfl (And.intro rfl (And.intro rfl (trivial))))) (L 48 0 rfl)
set_option maxHeartbeats 4000000 in
set_option maxRecDepth 100000 in
theorem m_Gr_nodesIn (l : Launch) (D : va_G) (cA : Nat → ClassId) (r : Nat) (hr : 1 ≤ r) (hr2 : r ≤ 12) (S : mw_S) : mw_M false l lw_tbl y_Gr_nodesIn b_Gr_nodesIn 2 (some .int) { frames := 1, cells := 0, slots := 0, locals := 21 } D vCl cA sh_Gr 9 [.inr (.inr 0), .inl (nI r)] (S) (mw_Pi (fun z _ => z = nI (four (S.2 0 4) (4 * (r - 1))))) := by
  refine mw_M_of (by decide) (Nat.le_of_ble_eq_true rfl) ?_
  intro p e s m args below meth c A ad C hR
  refine mw_aload_n C 0 d_Gr_nodesIn_0 rfl rfl ?_
  refine mw_getl C f_Gr_26 d_Gr_nodesIn_1 (by decide) rfl rfl ?_
  refine mw_iload_n C 1 d_Gr_nodesIn_4 rfl rfl ?_
  refine mw_iconst C (v := nI 0) d_Gr_nodesIn_5 (by decide) ?_
  refine mw_run0i C (ix0 _ _) (mw_invS C (m_Wl_numberOf l D cA r 0 hr _) (ix0 _ _) kb_Gr_66 ws_Wl_numberOf d_Gr_nodesIn_6 rfl rfl (Nat.le_of_ble_eq_true rfl) rfl rfl ⟨by decide, by decide⟩ ⟨Nat.zero_le _, Nat.zero_le _⟩) (fun x6 e6 => ?_)
  subst e6
  refine mw_lushr C d_Gr_nodesIn_9 ?_
  refine mw_l2i C d_Gr_nodesIn_10 ?_
  refine mw_bipush C (v := nI 15) d_Gr_nodesIn_11 (by decide) ?_
  refine mw_iand C d_Gr_nodesIn_13 ?_
  refine mw_iret C hR d_Gr_nodesIn_14 ?_
  exact four_raw (S.2 0 4) (k := 4 * (r - 1)) (by omega)
set_option maxHeartbeats 4000000 in
set_option maxRecDepth 100000 in
theorem m_Gr_hasQuorumIn (l : Launch) (D : va_G) (cA : Nat → ClassId) (r : Nat) (hr : 1 ≤ r) (hr2 : r ≤ 12) (S : mw_S) : mw_M false l lw_tbl y_Gr_hasQuorumIn b_Gr_hasQuorumIn 2 (some .boolean) { frames := 2, cells := 0, slots := 0, locals := 42 } D vCl cA sh_Gr 9 [.inr (.inr 0), .inl (nI r)] (S) (mw_Pi (fun z _ => z = nI (decide (3 ≤ pop4 (four (S.2 0 4) (4 * (r - 1))))).toNat)) := by
  refine mw_M_of (by decide) (Nat.le_of_ble_eq_true rfl) ?_
  intro p e s m args below meth c A ad C hR
  refine mw_aload_n C 0 d_Gr_hasQuorumIn_0 rfl rfl ?_
  refine mw_iload_n C 1 d_Gr_hasQuorumIn_1 rfl rfl ?_
  refine mw_run0i C ix_Gr_Gr (mw_invV C (kk := 0) (m_Gr_nodesIn l D cA r hr hr2 _) ix_Gr_Gr kb_Gr_70 wm_Gr_nodesIn wv_Gr_nodesIn (by decide) rfl rfl d_Gr_hasQuorumIn_2 rfl rfl (Nat.le_of_ble_eq_true rfl) rfl rfl ⟨by decide, by decide⟩ ⟨Nat.zero_le _, Nat.zero_le _⟩) (fun x2 e2 => ?_)
  subst e2
  refine mw_run0i C (ix0 _ _) (mw_invS C (m_In_bitCount l D cA _ _) (ix0 _ _) kb_Gr_74 ws_In_bitCount d_Gr_hasQuorumIn_5 rfl rfl (Nat.le_of_ble_eq_true rfl) rfl rfl ⟨by decide, by decide⟩ ⟨Nat.zero_le _, Nat.zero_le _⟩) (fun x5 e5 => ?_)
  subst e5
  refine mw_eqi (bc32_16 _ (four_lt _ _)) ?_
  have hp := pop4_lt (four (S.2 0 4) (4 * (r - 1)))
  refine mw_eqi (show _ = nI (pop4 (four (S.2 0 4) (4 * (r - 1)))) from rfl) ?_
  refine mw_iconst C (v := nI 3) d_Gr_hasQuorumIn_8 (by decide) ?_
  refine mw_icmp_ltN C 16 d_Gr_hasQuorumIn_9 (by decide) (by omega) (by omega) (fun h9 => ?_) (fun h9 => ?_)
  ·
    refine mw_iconst C (v := nI 0) d_Gr_hasQuorumIn_16 (by decide) ?_
    refine mw_zret C hR d_Gr_hasQuorumIn_17 (by decide) ?_
    rw [decide_eq_false (by omega)]
    rfl
  ·
    refine mw_iconst C (v := nI 1) d_Gr_hasQuorumIn_12 (by decide) ?_
    refine mw_goto C 17 d_Gr_hasQuorumIn_13 (by decide) ?_
    refine mw_zret C hR d_Gr_hasQuorumIn_17 (by decide) ?_
    rw [decide_eq_true (by omega)]
    rfl
set_option maxHeartbeats 4000000 in
set_option maxRecDepth 100000 in
theorem m_Gr_leadsStrongly (l : Launch) (D : va_G) (cA : Nat → ClassId) (a b : Nat) (ha : a < 48) (hb : b < 64) (S : mw_S) : mw_M false l lw_tbl y_Gr_leadsStrongly b_Gr_leadsStrongly 3 (some .boolean) { frames := 1, cells := 0, slots := 0, locals := 22 } D vCl cA sh_Gr 9 [.inr (.inr 0), .inl (nI a), .inl (nI b)] (S) (mw_Pi (fun z _ => z = nI (lb (S.2 3 a) b).toNat)) := by
  refine mw_M_of (by decide) (Nat.le_of_ble_eq_true rfl) ?_
  intro p e s m args below meth c A ad C hR
  refine mw_aload_n C 0 d_Gr_leadsStrongly_0 rfl rfl ?_
  refine mw_getr C f_Gr_19 d_Gr_leadsStrongly_1 (by decide) rfl rfl ?_
  refine mw_iload_n C 1 d_Gr_leadsStrongly_4 rfl rfl ?_
  refine mw_laldN C d_Gr_leadsStrongly_5 (by decide) rfl (by omega) (by decide) ?_
  refine mw_iload_n C 2 d_Gr_leadsStrongly_6 rfl rfl ?_
  refine mw_run0i C (ix0 _ _) (mw_invS C (m_Wl_contains l D cA _ b hb _) (ix0 _ _) kb_Gr_30 ws_Wl_contains d_Gr_leadsStrongly_7 rfl rfl (Nat.le_of_ble_eq_true rfl) rfl rfl ⟨by decide, by decide⟩ ⟨Nat.zero_le _, Nat.zero_le _⟩) (fun x7 e7 => ?_)
  subst e7
  refine mw_zret C hR d_Gr_leadsStrongly_10 (by cases lb (S.2 3 a) b <;> decide) ?_
  rfl
def gr_sup (rows : Nat → Int64) (r b : Nat) : Nat → Nat
  | 0 => 0
  | k + 1 => gr_sup rows r b k + (lb (rows (4 * (r - 1) + k)) b).toNat
theorem gr_sup_le (rows : Nat → Int64) (r b : Nat) : ∀ k, gr_sup rows r b k ≤ k
  | 0 => Nat.le_refl 0
  | k + 1 => by
    have h := gr_sup_le rows r b k
    have h2 := Bool.toNat_le (lb (rows (4 * (r - 1) + k)) b)
    unfold gr_sup
    omega
set_option maxHeartbeats 4000000 in
set_option maxRecDepth 100000 in
theorem m_Gr_supportFrom (l : Launch) (D : va_G) (cA : Nat → ClassId) (r b : Nat) (hr : 1 ≤ r) (hr2 : r ≤ 12) (hb : b < 64) (S : mw_S) : mw_M false l lw_tbl y_Gr_supportFrom b_Gr_supportFrom 5 (some .int) { frames := 2, cells := 0, slots := 0, locals := 44 } D vCl cA sh_Gr 9 [.inr (.inr 0), .inl (nI r), .inl (nI b)] (S) (mw_Pi (fun z _ => z = nI (gr_sup (S.2 3) r b 4))) := by
  refine mw_M_of (by decide) (Nat.le_of_ble_eq_true rfl) ?_
  intro p e s m args below meth c A ad C hR
  have L : ∀ (dd i : Nat), i + dd = 4 → mw p l e { frames := 2, cells := 0, slots := 0, locals := 44 } s m args below meth c (MQ below (mw_Qc false D vCl cA ad sh_Gr 9 s.heap.size (S) (mw_Pi (fun z _ => z = nI (gr_sup (S.2 3) r b 4)))) args s 0 0 A) 0 0 D vCl cA A ad sh_Gr 9 5 (5) ([(4, .inl (nI i)), (3, .inl (nI (gr_sup (S.2 3) r b i))), (0, .inr (.inr 0)), (1, .inl (nI r)), (2, .inl (nI b))]) ([]) (S) := by
    intro dd
    induction dd with
    | zero =>
      intro i hi
      refine mw_iload C d_Gr_supportFrom_5 rfl ?_
      refine mw_iconst C (v := nI 4) d_Gr_supportFrom_7 (by decide) ?_
      refine mw_icmp_geN C 34 d_Gr_supportFrom_8 (by decide) (by omega) (by omega) (fun h8 => ?_) (fun h8 => ?_)
      ·
        refine mw_iload_n C 3 d_Gr_supportFrom_34 rfl rfl ?_
        refine mw_iret C hR d_Gr_supportFrom_35 ?_
        rw [show i = 4 from by omega]
      · exfalso; omega
    | succ dd ih =>
      intro i hi
      refine mw_iload C d_Gr_supportFrom_5 rfl ?_
      refine mw_iconst C (v := nI 4) d_Gr_supportFrom_7 (by decide) ?_
      refine mw_icmp_geN C 34 d_Gr_supportFrom_8 (by decide) (by omega) (by omega) (fun h8 => ?_) (fun h8 => ?_)
      · exfalso; omega
      ·
        refine mw_aload_n C 0 d_Gr_supportFrom_11 rfl rfl ?_
        refine mw_iload_n C 1 d_Gr_supportFrom_12 rfl rfl ?_
        refine mw_iload C d_Gr_supportFrom_13 rfl ?_
        refine mw_run0i C (ix0 _ _) (mw_invS C (m_Wl_numberOf l D cA r i hr _) (ix0 _ _) kb_Gr_66 ws_Wl_numberOf d_Gr_supportFrom_15 rfl rfl (Nat.le_of_ble_eq_true rfl) rfl rfl ⟨by decide, by decide⟩ ⟨Nat.zero_le _, Nat.zero_le _⟩) (fun x15 e15 => ?_)
        subst e15
        refine mw_iload_n C 2 d_Gr_supportFrom_18 rfl rfl ?_
        refine mw_run0i C ix_Gr_Gr (mw_invV C (kk := 0) (m_Gr_leadsStrongly l D cA (4 * (r - 1) + i) b (by omega) hb _) ix_Gr_Gr kb_Gr_79 wm_Gr_leadsStrongly wv_Gr_leadsStrongly (by decide) rfl rfl d_Gr_supportFrom_19 rfl rfl (Nat.le_of_ble_eq_true rfl) rfl rfl ⟨by decide, by decide⟩ ⟨Nat.zero_le _, Nat.zero_le _⟩) (fun x19 e19 => ?_)
        subst e19
        have hlt := lb_nat_lt (lb ((mw_rs S [0, 1, 2, 3, 4, 5, 6, 7, 8]).2 3 (4 * (r - 1) + i)) b)
        refine mw_if_eqN C 28 d_Gr_supportFrom_22 (by decide) (by omega) (fun h22 => ?_) (fun h22 => ?_)
        ·
          refine mw_iincN C d_Gr_supportFrom_28 rfl (by decide) ?_
          refine mw_goto C 5 d_Gr_supportFrom_31 (by decide) ?_
          refine mw_eq _ _ _ (by exact And.intro rfl (And.intro (by
            show some (Sum.inl _) = _
            rw [gr_sup, show (lb (S.2 3 (4 * (r - 1) + i)) b).toNat = 0 from h22]; rfl) (And.intro rfl (And.intro rfl (And.intro rfl trivial))))) rfl rfl (ih (i + 1) (by omega))
        ·
          refine mw_iincN C d_Gr_supportFrom_25 rfl (by decide) ?_
          refine mw_iincN C d_Gr_supportFrom_28 rfl (by decide) ?_
          refine mw_goto C 5 d_Gr_supportFrom_31 (by decide) ?_
          have h1 : lb (S.2 3 (4 * (r - 1) + i)) b = true := lb_nat1 h22
          refine mw_eq _ _ _ (by exact And.intro rfl (And.intro (by
            show some (Sum.inl _) = _
            rw [gr_sup, h1]; rfl) (And.intro rfl (And.intro rfl (And.intro rfl trivial))))) rfl rfl (ih (i + 1) (by omega))
  refine mw_iconst C (v := nI 0) d_Gr_supportFrom_0 (by decide) ?_
  refine mw_istore_n C 3 d_Gr_supportFrom_1 rfl (by decide) ?_
  refine mw_iconst C (v := nI 0) d_Gr_supportFrom_2 (by decide) ?_
  refine mw_istore C d_Gr_supportFrom_3 (by decide) ?_
  exact mw_to _ (by exact And.intro rfl (And.intro rfl (And.intro rfl (And.intro rfl (And.intro rfl (trivial)))))) (L 4 0 rfl)
end
section
/-! the graph grows; the book -/
def gr_addS (S : mw_S) (q a p0 k : Nat) : mw_S := if ve_right p0 k (S.2 7 a) = true ∧ ((ve_down p0 k ||| S.2 7 a) &&& (S.2 0 4 ^^^ (-1))) = 0 then mw_uL (mw_uL (mw_uL S 2 q (gr_follow (S.2 2) (ve_down p0 k ||| S.2 7 a) 48)) 3 q (gr_follow (S.2 3) (ve_down p0 k) 48)) 0 4 (S.2 0 4 ||| lN (2 ^ q)) else S
theorem gr_addS_1 (S : mw_S) (q a p0 k : Nat) : (gr_addS S q a p0 k).1 = S.1 := by
  unfold gr_addS
  split <;> rfl
theorem gr_addS_mg (S : mw_S) (q a p0 k : Nat) : mw_mg S [0, 1, 2, 3, 4, 5, 6, 7, 8] (gr_addS (mw_rs S [0, 1, 2, 3, 4, 5, 6, 7, 8]) q a p0 k) = gr_addS S q a p0 k := by
  by_cases h : ve_right p0 k (S.2 7 a) = true ∧ ((ve_down p0 k ||| S.2 7 a) &&& (S.2 0 4 ^^^ (-1))) = 0
  · have h' : ve_right p0 k ((mw_rs S [0, 1, 2, 3, 4, 5, 6, 7, 8]).2 7 a) = true ∧ ((ve_down p0 k ||| (mw_rs S [0, 1, 2, 3, 4, 5, 6, 7, 8]).2 7 a) &&& ((mw_rs S [0, 1, 2, 3, 4, 5, 6, 7, 8]).2 0 4 ^^^ (-1))) = 0 := h
    unfold gr_addS
    rw [if_pos h', if_pos h, mw_mg_uL ix_Gr_Gr (k := 0) (i := 0) (by decide) rfl, mw_mg_uL ix_Gr_Gr (k := 3) (i := 3) (by decide) rfl, mw_mg_uL ix_Gr_Gr (k := 2) (i := 2) (by decide) rfl, mw_mg_rs]
    rfl
  · have h' : ¬ (ve_right p0 k ((mw_rs S [0, 1, 2, 3, 4, 5, 6, 7, 8]).2 7 a) = true ∧ ((ve_down p0 k ||| (mw_rs S [0, 1, 2, 3, 4, 5, 6, 7, 8]).2 7 a) &&& ((mw_rs S [0, 1, 2, 3, 4, 5, 6, 7, 8]).2 0 4 ^^^ (-1))) = 0) := h
    unfold gr_addS
    rw [if_neg h', if_neg h, mw_mg_rs]
set_option maxHeartbeats 4000000 in
set_option maxRecDepth 100000 in
theorem m_Gr_addIfAllowed (l : Launch) (D : va_G) (cA : Nat → ClassId) (q a p0 k : Nat) (S : mw_S) (hq : q < 48) (ha : a < 73) (hp : p0 < 48) (hk : k < 16) (h1 : S.1 1 q = nI a) (h2 : S.1 5 a = nI p0) (h3 : S.1 6 a = nI k) : mw_M true l lw_tbl y_Gr_addIfAllowed b_Gr_addIfAllowed 7 none { frames := 2, cells := 0, slots := 0, locals := 47 } D vCl cA sh_Gr 9 [.inr (.inr 0), .inl (nI q)] (S) (mw_Pv (fun S' => S' = gr_addS S q a p0 k)) := by
  refine mw_M_of (by decide) (Nat.le_of_ble_eq_true rfl) ?_
  intro p e s m args below meth c A ad C hR
  refine mw_aload_n C 0 d_Gr_addIfAllowed_0 rfl rfl ?_
  refine mw_getr C f_Gr_9 d_Gr_addIfAllowed_1 (by decide) rfl rfl ?_
  refine mw_iload_n C 1 d_Gr_addIfAllowed_4 rfl rfl ?_
  refine mw_ialdN C d_Gr_addIfAllowed_5 (by decide) rfl (by omega) (by decide) ?_
  refine mw_eqi h1 ?_
  refine mw_istore_n C 2 d_Gr_addIfAllowed_6 rfl (by decide) ?_
  refine mw_aload_n C 0 d_Gr_addIfAllowed_7 rfl rfl ?_
  refine mw_getr C f_Gr_22 d_Gr_addIfAllowed_8 (by decide) rfl rfl ?_
  refine mw_iload_n C 2 d_Gr_addIfAllowed_11 rfl rfl ?_
  refine mw_run0i C ix_Ve_Gr (mw_invV C (kk := 0) (m_Ve_isRight l D cA a p0 k _ ha hp hk h2 h3) ix_Ve_Gr kb_Gr_47 wm_Ve_isRight wv_Ve_isRight (by decide) rfl rfl d_Gr_addIfAllowed_12 rfl rfl (Nat.le_of_ble_eq_true rfl) rfl rfl ⟨by decide, by decide⟩ ⟨Nat.zero_le _, Nat.zero_le _⟩) (fun x12 e12 => ?_)
  subst e12
  have hlt := lb_nat_lt (ve_right p0 k (S.2 7 a))
  refine mw_eqi (show _ = nI (ve_right p0 k (S.2 7 a)).toNat from rfl) ?_
  refine mw_if_neN C 19 d_Gr_addIfAllowed_15 (by decide) (by omega) (fun h15 => ?_) (fun h15 => ?_)
  ·
    have hri := lb_nat1 h15
    refine mw_aload_n C 0 d_Gr_addIfAllowed_19 rfl rfl ?_
    refine mw_getr C f_Gr_22 d_Gr_addIfAllowed_20 (by decide) rfl rfl ?_
    refine mw_iload_n C 2 d_Gr_addIfAllowed_23 rfl rfl ?_
    refine mw_run0l C ix_Ve_Gr (mw_invV C (kk := 0) (m_Ve_strongPlacesOf l D cA a p0 k _ ha hp hk h2 h3) ix_Ve_Gr kb_Gr_50 wm_Ve_strongPlacesOf wv_Ve_strongPlacesOf (by decide) rfl rfl d_Gr_addIfAllowed_24 rfl rfl (Nat.le_of_ble_eq_true rfl) rfl rfl ⟨by decide, by decide⟩ ⟨Nat.zero_le _, Nat.zero_le _⟩) (fun x24 e24 => ?_)
    subst e24
    refine mw_lstore_n C 3 d_Gr_addIfAllowed_27 rfl (by decide) ?_
    refine mw_lload_n C 3 d_Gr_addIfAllowed_28 rfl rfl ?_
    refine mw_aload_n C 0 d_Gr_addIfAllowed_29 rfl rfl ?_
    refine mw_getr C f_Gr_22 d_Gr_addIfAllowed_30 (by decide) rfl rfl ?_
    refine mw_getr C f_Gr_54 d_Gr_addIfAllowed_33 (by decide) rfl rfl ?_
    refine mw_iload_n C 2 d_Gr_addIfAllowed_36 rfl rfl ?_
    refine mw_laldN C d_Gr_addIfAllowed_37 (by decide) rfl (by omega) (by decide) ?_
    refine mw_lor C d_Gr_addIfAllowed_38 ?_
    refine mw_lstore C d_Gr_addIfAllowed_39 (by decide) ?_
    refine mw_lload C d_Gr_addIfAllowed_41 rfl ?_
    refine mw_aload_n C 0 d_Gr_addIfAllowed_43 rfl rfl ?_
    refine mw_getl C f_Gr_26 d_Gr_addIfAllowed_44 (by decide) rfl rfl ?_
    refine mw_ldc2 C kc_Gr_57 d_Gr_addIfAllowed_47 ?_
    refine mw_lxor C d_Gr_addIfAllowed_50 ?_
    refine mw_land C d_Gr_addIfAllowed_51 ?_
    refine mw_lconst C (v := 0) d_Gr_addIfAllowed_52 (by decide) ?_
    refine mw_lcmp C d_Gr_addIfAllowed_53 ?_
    refine mw_if_ne C 99 d_Gr_addIfAllowed_54 (by decide) (fun h54 => ?_) (fun h54 => ?_)
    ·
      refine mw_vret C hR d_Gr_addIfAllowed_99 ?_
      unfold gr_addS
      rw [if_neg (fun h => h54 ((lg_cmp_eq _ _).mpr h.2))]
    ·
      have hsub := (lg_cmp_eq _ _).mp h54
      refine mw_aload_n C 0 d_Gr_addIfAllowed_57 rfl rfl ?_
      refine mw_getr C f_Gr_15 d_Gr_addIfAllowed_58 (by decide) rfl rfl ?_
      refine mw_iload_n C 1 d_Gr_addIfAllowed_61 rfl rfl ?_
      refine mw_aload_n C 0 d_Gr_addIfAllowed_62 rfl rfl ?_
      refine mw_getr C f_Gr_15 d_Gr_addIfAllowed_63 (by decide) rfl rfl ?_
      refine mw_lload C d_Gr_addIfAllowed_66 rfl ?_
      refine mw_run0l C ix_L1_Gr2 (mw_invS C (m_Gr_follow l D cA _ _) ix_L1_Gr2 kb_Gr_59 ws_Gr_follow d_Gr_addIfAllowed_68 rfl rfl (Nat.le_of_ble_eq_true rfl) rfl rfl ⟨by decide, by decide⟩ ⟨Nat.zero_le _, Nat.zero_le _⟩) (fun x68 e68 => ?_)
      subst e68
      refine mw_lastN C rfl d_Gr_addIfAllowed_71 (by decide) rfl (by omega) (by decide) ?_
      refine mw_aload_n C 0 d_Gr_addIfAllowed_72 rfl rfl ?_
      refine mw_getr C f_Gr_19 d_Gr_addIfAllowed_73 (by decide) rfl rfl ?_
      refine mw_iload_n C 1 d_Gr_addIfAllowed_76 rfl rfl ?_
      refine mw_aload_n C 0 d_Gr_addIfAllowed_77 rfl rfl ?_
      refine mw_getr C f_Gr_19 d_Gr_addIfAllowed_78 (by decide) rfl rfl ?_
      refine mw_lload_n C 3 d_Gr_addIfAllowed_81 rfl rfl ?_
      refine mw_run0l C ix_L1_Gr3 (mw_invS C (m_Gr_follow l D cA _ _) ix_L1_Gr3 kb_Gr_59 ws_Gr_follow d_Gr_addIfAllowed_82 rfl rfl (Nat.le_of_ble_eq_true rfl) rfl rfl ⟨by decide, by decide⟩ ⟨Nat.zero_le _, Nat.zero_le _⟩) (fun x82 e82 => ?_)
      subst e82
      refine mw_lastN C rfl d_Gr_addIfAllowed_85 (by decide) rfl (by omega) (by decide) ?_
      refine mw_aload_n C 0 d_Gr_addIfAllowed_86 rfl rfl ?_
      refine mw_dup C d_Gr_addIfAllowed_87 rfl ?_
      refine mw_getl C f_Gr_26 d_Gr_addIfAllowed_88 (by decide) rfl rfl ?_
      refine mw_iload_n C 1 d_Gr_addIfAllowed_91 rfl rfl ?_
      refine mw_run0l C (ix0 _ _) (mw_invS C (m_Wl_bitOf l D cA q (by omega) _) (ix0 _ _) kb_Gr_63 ws_Wl_bitOf d_Gr_addIfAllowed_92 rfl rfl (Nat.le_of_ble_eq_true rfl) rfl rfl ⟨by decide, by decide⟩ ⟨Nat.zero_le _, Nat.zero_le _⟩) (fun x92 e92 => ?_)
      subst e92
      refine mw_lor C d_Gr_addIfAllowed_95 ?_
      refine mw_putl C rfl f_Gr_26 p_Gr_4 d_Gr_addIfAllowed_96 (by decide) rfl rfl ?_
      refine mw_vret C hR d_Gr_addIfAllowed_99 ?_
      unfold gr_addS
      rw [if_pos ⟨hri, hsub⟩]
      rfl
  ·
    refine mw_vret C hR d_Gr_addIfAllowed_18 ?_
    unfold gr_addS
    rw [if_neg (fun h => by rw [h.1] at h15; cases h15)]
def gr_pass (acc vp vs : Nat → Nat) : Nat → mw_S → mw_S
  | 0, S => S
  | q + 1, S => if 0 < acc q ∧ lb ((gr_pass acc vp vs q S).2 0 4) q = false then gr_addS (gr_pass acc vp vs q S) q (acc q) (vp (acc q)) (vs (acc q)) else gr_pass acc vp vs q S
theorem gr_pass_1 (acc vp vs : Nat → Nat) (S : mw_S) : ∀ q, (gr_pass acc vp vs q S).1 = S.1
  | 0 => rfl
  | q + 1 => by
    unfold gr_pass
    split
    · rw [gr_addS_1, gr_pass_1]
    · exact gr_pass_1 acc vp vs S q
set_option maxHeartbeats 4000000 in
set_option maxRecDepth 100000 in
theorem m_Gr_accept (l : Launch) (D : va_G) (cA : Nat → ClassId) (v : Nat) (acc vp vs : Nat → Nat) (S : mw_S) (hv : v < 73) (hacc : ∀ j, j < 48 → S.1 1 j = nI (acc j) ∧ acc j < 73) (hvp : ∀ u, u < 73 → S.1 5 u = nI (vp u) ∧ vp u < 48) (hvs : ∀ u, u < 73 → S.1 6 u = nI (vs u) ∧ vs u < 16) : mw_M true l lw_tbl y_Gr_accept b_Gr_accept 3 none { frames := 3, cells := 0, slots := 0, locals := 73 } D vCl cA sh_Gr 9 [.inr (.inr 0), .inl (nI v)] (S) (mw_Pv (fun S' => S' = gr_pass (fun j => if j = vp v then v else acc j) vp vs 48 (mw_uI S 1 (vp v) (nI v)))) := by
  refine mw_M_of (by decide) (Nat.le_of_ble_eq_true rfl) ?_
  intro p e s m args below meth c A ad C hR
  have hb : ∀ j, j < 48 → (mw_uI S 1 (vp v) (nI v)).1 1 j = nI (if j = vp v then v else acc j) ∧ (if j = vp v then v else acc j) < 73 := by
    intro j hj
    refine ⟨?_, ?_⟩
    · show upd (S.1 1) (vp v) (nI v) j = _
      unfold upd
      by_cases e0 : j = vp v
      · rw [if_pos e0, if_pos e0]
      · rw [if_neg e0, if_neg e0]; exact (hacc j hj).1
    · by_cases e0 : j = vp v
      · rw [if_pos e0]; exact hv
      · rw [if_neg e0]; exact (hacc j hj).2
  generalize hacc1 : (fun j => if j = vp v then v else acc j) = acc1
  have hb : ∀ j, j < 48 → (mw_uI S 1 (vp v) (nI v)).1 1 j = nI (acc1 j) ∧ acc1 j < 73 := by
    intro j hj
    rw [← hacc1]
    exact hb j hj
  have L : ∀ (dd i : Nat), i + dd = 48 → mw p l e { frames := 3, cells := 0, slots := 0, locals := 73 } s m args below meth c (MQ below (mw_Qc true D vCl cA ad sh_Gr 9 s.heap.size S (mw_Pv (fun S' => S' = gr_pass acc1 vp vs 48 (mw_uI S 1 (vp v) (nI v))))) args s 0 0 A) 0 0 D vCl cA A ad sh_Gr 9 3 17 [(2, .inl (nI i)), (0, .inr (.inr 0)), (1, .inl (nI v))] [] (gr_pass acc1 vp vs i (mw_uI S 1 (vp v) (nI v))) := by
    intro dd
    induction dd with
    | zero =>
      intro i hi
      refine mw_iload_n C 2 d_Gr_accept_17 rfl rfl ?_
      refine mw_bipush C (v := nI 48) d_Gr_accept_18 (by decide) ?_
      refine mw_icmp_geN C 51 d_Gr_accept_20 (by decide) (by omega) (by omega) (fun h20 => ?_) (fun h20 => ?_)
      ·
        refine mw_vret C hR d_Gr_accept_51 ?_
        rw [show i = 48 from by omega]
      · exfalso; omega
    | succ dd ih =>
      intro i hi
      have ea := gr_pass_1 acc1 vp vs (mw_uI S 1 (vp v) (nI v)) i
      have hai := hb i (by omega)
      have hb1 : (gr_pass acc1 vp vs i (mw_uI S 1 (vp v) (nI v))).1 1 i = nI (acc1 i) := by rw [ea]; exact hai.1
      have hlt := hai.2
      refine mw_iload_n C 2 d_Gr_accept_17 rfl rfl ?_
      refine mw_bipush C (v := nI 48) d_Gr_accept_18 (by decide) ?_
      refine mw_icmp_geN C 51 d_Gr_accept_20 (by decide) (by omega) (by omega) (fun h20 => ?_) (fun h20 => ?_)
      · exfalso; omega
      ·
        refine mw_aload_n C 0 d_Gr_accept_23 rfl rfl ?_
        refine mw_getr C f_Gr_9 d_Gr_accept_24 (by decide) rfl rfl ?_
        refine mw_iload_n C 2 d_Gr_accept_27 rfl rfl ?_
        refine mw_ialdN C d_Gr_accept_28 (by decide) rfl (by omega) (by decide) ?_
        refine mw_eqi hb1 ?_
        refine mw_if_eqN C 45 d_Gr_accept_29 (by decide) (by omega) (fun h29 => ?_) (fun h29 => ?_)
        ·
          refine mw_iincN C d_Gr_accept_45 rfl (by decide) ?_
          refine mw_goto C 17 d_Gr_accept_48 (by decide) ?_
          refine mw_eq _ _ _ (by exact And.intro rfl (And.intro rfl (And.intro rfl (trivial)))) rfl ?_ (ih (i + 1) (by omega))
          rw [gr_pass, if_neg (fun h => by omega)]
        ·
          refine mw_aload_n C 0 d_Gr_accept_32 rfl rfl ?_
          refine mw_iload_n C 2 d_Gr_accept_33 rfl rfl ?_
          refine mw_run0i C ix_Gr_Gr (mw_invV C (kk := 0) (m_Gr_has l D cA i (by omega) _) ix_Gr_Gr kb_Gr_39 wm_Gr_has wv_Gr_has (by decide) rfl rfl d_Gr_accept_34 rfl rfl (Nat.le_of_ble_eq_true rfl) rfl rfl ⟨by decide, by decide⟩ ⟨Nat.zero_le _, Nat.zero_le _⟩) (fun x34 e34 => ?_)
          subst e34
          refine mw_eqi (show _ = nI (lb ((gr_pass acc1 vp vs i (mw_uI S 1 (vp v) (nI v))).2 0 4) i).toNat from rfl) ?_
          have hlt2 := lb_nat_lt (lb ((gr_pass acc1 vp vs i (mw_uI S 1 (vp v) (nI v))).2 0 4) i)
          refine mw_if_neN C 45 d_Gr_accept_37 (by decide) (by omega) (fun h37 => ?_) (fun h37 => ?_)
          ·
            refine mw_iincN C d_Gr_accept_45 rfl (by decide) ?_
            refine mw_goto C 17 d_Gr_accept_48 (by decide) ?_
            refine mw_eq _ _ _ (by exact And.intro rfl (And.intro rfl (And.intro rfl (trivial)))) rfl ?_ (ih (i + 1) (by omega))
            rw [gr_pass, if_neg (fun h => by rw [h.2] at h37; cases h37)]
          ·
            refine mw_aload_n C 0 d_Gr_accept_40 rfl rfl ?_
            refine mw_iload_n C 2 d_Gr_accept_41 rfl rfl ?_
            refine mw_runv C ix_Gr_Gr rfl (mw_invV C (kk := 0) (m_Gr_addIfAllowed l D cA i (acc1 i) (vp (acc1 i)) (vs (acc1 i)) _ (by omega) hlt (hvp _ hlt).2 (hvs _ hlt).2 hb1 (by show (gr_pass acc1 vp vs i (mw_uI S 1 (vp v) (nI v))).1 5 (acc1 i) = _; rw [ea]; exact (hvp _ hlt).1) (by show (gr_pass acc1 vp vs i (mw_uI S 1 (vp v) (nI v))).1 6 (acc1 i) = _; rw [ea]; exact (hvs _ hlt).1)) ix_Gr_Gr kb_Gr_43 wm_Gr_addIfAllowed wv_Gr_addIfAllowed (by decide) rfl rfl d_Gr_accept_42 rfl rfl (Nat.le_of_ble_eq_true rfl) rfl rfl ⟨by decide, by decide⟩ ⟨Nat.zero_le _, Nat.zero_le _⟩) (fun S42 e42 => ?_)
            subst e42
            refine mw_iincN C d_Gr_accept_45 rfl (by decide) ?_
            refine mw_goto C 17 d_Gr_accept_48 (by decide) ?_
            refine mw_eq _ _ _ (by exact And.intro rfl (And.intro rfl (And.intro rfl (trivial)))) rfl ?_ (ih (i + 1) (by omega))
            rw [gr_pass, if_pos ⟨h29, lb_nat0 h37⟩]
            exact gr_addS_mg _ _ _ _ _
  refine mw_aload_n C 0 d_Gr_accept_0 rfl rfl ?_
  refine mw_getr C f_Gr_9 d_Gr_accept_1 (by decide) rfl rfl ?_
  refine mw_aload_n C 0 d_Gr_accept_4 rfl rfl ?_
  refine mw_getr C f_Gr_22 d_Gr_accept_5 (by decide) rfl rfl ?_
  refine mw_getr C f_Gr_34 d_Gr_accept_8 (by decide) rfl rfl ?_
  refine mw_iload_n C 1 d_Gr_accept_11 rfl rfl ?_
  refine mw_ialdN C d_Gr_accept_12 (by decide) rfl (by omega) (by decide) ?_
  refine mw_eqi (hvp v hv).1 ?_
  have hvv := (hvp v hv).2
  refine mw_iload_n C 1 d_Gr_accept_13 rfl rfl ?_
  refine mw_iastN C rfl d_Gr_accept_14 (by decide) rfl (by omega) (by decide) ?_
  refine mw_iconst C (v := nI 0) d_Gr_accept_15 (by decide) ?_
  refine mw_istore_n C 2 d_Gr_accept_16 rfl (by decide) ?_
  exact mw_to _ (by exact And.intro rfl (And.intro rfl (And.intro rfl (trivial)))) (L 48 0 rfl)
def gr_wk1 (paths : Nat → Int64) (added : Int64) (q : Nat) (x : Int64 × Int64) : Int64 × Int64 := if lb added q = true ∧ lb x.2 q = false then (x.1 ||| lN (2 ^ q), x.2 ||| (lN (2 ^ q) ||| paths q)) else x
def gr_wkr (paths : Nat → Int64) (added : Int64) (b : Nat) : Nat → Int64 × Int64 → Int64 × Int64
  | 0, x => x
  | k + 1, x => gr_wk1 paths added (4 * b + k) (gr_wkr paths added b k x)
def gr_wk (paths : Nat → Int64) (added : Int64) : Nat → Int64 × Int64 → Int64 × Int64
  | 0, x => x
  | b + 1, x => gr_wk paths added b (gr_wkr paths added b 4 x)
set_option maxHeartbeats 4000000 in
set_option maxRecDepth 100000 in
theorem m_Gr_weakPlacesFor (l : Launch) (D : va_G) (cA : Nat → ClassId) (r : Nat) (hr : 2 ≤ r) (hr2 : r ≤ 12) (S : mw_S) : mw_M false l lw_tbl y_Gr_weakPlacesFor b_Gr_weakPlacesFor 11 (some .long) { frames := 2, cells := 0, slots := 0, locals := 47 } D vCl cA sh_Gr 9 [.inr (.inr 0), .inl (nI r)] (S) (mw_Pl (fun z _ => z = (gr_wk (S.2 2) (S.2 0 4) (r - 2) (0, gr_follow (S.2 2) (lN (four (S.2 0 4) (4 * (r - 2)) * 2 ^ (4 * (r - 2)))) 48)).1)) := by
  refine mw_M_of (by decide) (Nat.le_of_ble_eq_true rfl) ?_
  intro p e s m args below meth c A ad C hR
  have L : ∀ (b : Nat) (x y : Int64), b ≤ 10 → (gr_wk (S.2 2) (S.2 0 4) b (x, y)).1 = (gr_wk (S.2 2) (S.2 0 4) (r - 2) (0, gr_follow (S.2 2) (lN (four (S.2 0 4) (4 * (r - 2)) * 2 ^ (4 * (r - 2)))) 48)).1 → ∀ sl, mw p l e { frames := 2, cells := 0, slots := 0, locals := 47 } s m args below meth c (MQ below (mw_Qc false D vCl cA ad sh_Gr 9 s.heap.size (S) (mw_Pl (fun z _ => z = (gr_wk (S.2 2) (S.2 0 4) (r - 2) (0, gr_follow (S.2 2) (lN (four (S.2 0 4) (4 * (r - 2)) * 2 ^ (4 * (r - 2)))) 48)).1))) args s 0 0 A) 0 0 D vCl cA A ad sh_Gr 9 11 (35) ([(8, .inl (nI b)), (6, .inr (.inl x)), (4, .inr (.inl y)), (2, .inr (.inl sl)), (0, .inr (.inr 0)), (1, .inl (nI r))]) ([]) (S) := by
    intro b
    induction b with
    | zero =>
      intro x y hb hx sl
      refine mw_iload C d_Gr_weakPlacesFor_35 rfl ?_
      refine mw_iconst C (v := nI 1) d_Gr_weakPlacesFor_37 (by decide) ?_
      refine mw_icmp_ltN C 118 d_Gr_weakPlacesFor_38 (by decide) (by omega) (by omega) (fun h38 => ?_) (fun h38 => ?_)
      ·
        refine mw_lload C d_Gr_weakPlacesFor_118 rfl ?_
        refine mw_lret C hR d_Gr_weakPlacesFor_120 ?_
        exact hx
      · exfalso; omega
    | succ b ih =>
      intro x y hb hx sl
      have M : ∀ (dd i : Nat) (z : Int64 × Int64), i + dd = 4 → z = gr_wkr (S.2 2) (S.2 0 4) b i (x, y) → mw p l e { frames := 2, cells := 0, slots := 0, locals := 47 } s m args below meth c (MQ below (mw_Qc false D vCl cA ad sh_Gr 9 s.heap.size (S) (mw_Pl (fun z _ => z = (gr_wk (S.2 2) (S.2 0 4) (r - 2) (0, gr_follow (S.2 2) (lN (four (S.2 0 4) (4 * (r - 2)) * 2 ^ (4 * (r - 2)))) 48)).1))) args s 0 0 A) 0 0 D vCl cA A ad sh_Gr 9 11 (44) ([(9, .inl (nI i)), (8, .inl (nI (b + 1))), (6, .inr (.inl z.1)), (4, .inr (.inl z.2)), (2, .inr (.inl sl)), (0, .inr (.inr 0)), (1, .inl (nI r))]) ([]) (S) := by
        intro dd
        induction dd with
        | zero =>
          intro i z hi hz
          refine mw_iload C d_Gr_weakPlacesFor_44 rfl ?_
          refine mw_iconst C (v := nI 4) d_Gr_weakPlacesFor_46 (by decide) ?_
          refine mw_icmp_geN C 112 d_Gr_weakPlacesFor_47 (by decide) (by omega) (by omega) (fun h47 => ?_) (fun h47 => ?_)
          ·
            refine mw_idecN C d_Gr_weakPlacesFor_112 rfl (by decide) ?_
            refine mw_goto C 35 d_Gr_weakPlacesFor_115 (by decide) ?_
            exact mw_to _ (by exact And.intro rfl (And.intro rfl (And.intro rfl (And.intro rfl (And.intro rfl (And.intro rfl (trivial))))))) (ih z.1 z.2 (by omega) (by
              rw [← hx, gr_wk, hz, show i = 4 from by omega]) sl)
          · exfalso; omega
        | succ dd ih2 =>
          intro i z hi hz
          refine mw_iload C d_Gr_weakPlacesFor_44 rfl ?_
          refine mw_iconst C (v := nI 4) d_Gr_weakPlacesFor_46 (by decide) ?_
          refine mw_icmp_geN C 112 d_Gr_weakPlacesFor_47 (by decide) (by omega) (by omega) (fun h47 => ?_) (fun h47 => ?_)
          · exfalso; omega
          ·
            refine mw_iload C d_Gr_weakPlacesFor_50 rfl ?_
            refine mw_iload C d_Gr_weakPlacesFor_52 rfl ?_
            refine mw_run0i C (ix0 _ _) (mw_invS C (m_Wl_numberOf l D cA (b + 1) i (by omega) _) (ix0 _ _) kb_Gr_66 ws_Wl_numberOf d_Gr_weakPlacesFor_54 rfl rfl (Nat.le_of_ble_eq_true rfl) rfl rfl ⟨by decide, by decide⟩ ⟨Nat.zero_le _, Nat.zero_le _⟩) (fun x54 e54 => ?_)
            subst e54
            refine mw_eqi (show _ = nI (4 * b + i) from rfl) ?_
            refine mw_istore C d_Gr_weakPlacesFor_57 (by decide) ?_
            refine mw_aload_n C 0 d_Gr_weakPlacesFor_59 rfl rfl ?_
            refine mw_iload C d_Gr_weakPlacesFor_60 rfl ?_
            refine mw_run0i C ix_Gr_Gr (mw_invV C (kk := 0) (m_Gr_has l D cA (4 * b + i) (by omega) _) ix_Gr_Gr kb_Gr_39 wm_Gr_has wv_Gr_has (by decide) rfl rfl d_Gr_weakPlacesFor_62 rfl rfl (Nat.le_of_ble_eq_true rfl) rfl rfl ⟨by decide, by decide⟩ ⟨Nat.zero_le _, Nat.zero_le _⟩) (fun x62 e62 => ?_)
            subst e62
            refine mw_eqi (show _ = nI (lb (S.2 0 4) (4 * b + i)).toNat from rfl) ?_
            have hlt := lb_nat_lt (lb (S.2 0 4) (4 * b + i))
            refine mw_if_eqN C 106 d_Gr_weakPlacesFor_65 (by decide) (by omega) (fun h65 => ?_) (fun h65 => ?_)
            ·
              refine mw_iincN C d_Gr_weakPlacesFor_106 rfl (by decide) ?_
              refine mw_goto C 44 d_Gr_weakPlacesFor_109 (by decide) ?_
              exact mw_to _ (by exact And.intro rfl (And.intro rfl (And.intro rfl (And.intro rfl (And.intro rfl (And.intro rfl (And.intro rfl (trivial)))))))) (ih2 (i + 1) z (by omega) (by
                rw [gr_wkr, ← hz, gr_wk1, if_neg (fun h => by rw [h.1] at h65; cases h65)]))
            ·
              refine mw_lload C d_Gr_weakPlacesFor_68 rfl ?_
              refine mw_iload C d_Gr_weakPlacesFor_70 rfl ?_
              refine mw_run0i C (ix0 _ _) (mw_invS C (m_Wl_contains l D cA z.2 (4 * b + i) (by omega) _) (ix0 _ _) kb_Gr_30 ws_Wl_contains d_Gr_weakPlacesFor_72 rfl rfl (Nat.le_of_ble_eq_true rfl) rfl rfl ⟨by decide, by decide⟩ ⟨Nat.zero_le _, Nat.zero_le _⟩) (fun x72 e72 => ?_)
              subst e72
              have hlt2 := lb_nat_lt (lb z.2 (4 * b + i))
              refine mw_if_neN C 106 d_Gr_weakPlacesFor_75 (by decide) (by omega) (fun h75 => ?_) (fun h75 => ?_)
              ·
                refine mw_iincN C d_Gr_weakPlacesFor_106 rfl (by decide) ?_
                refine mw_goto C 44 d_Gr_weakPlacesFor_109 (by decide) ?_
                exact mw_to _ (by exact And.intro rfl (And.intro rfl (And.intro rfl (And.intro rfl (And.intro rfl (And.intro rfl (And.intro rfl (trivial)))))))) (ih2 (i + 1) z (by omega) (by
                  rw [gr_wkr, ← hz, gr_wk1, if_neg (fun h => by rw [h.2] at h75; cases h75)]))
              ·
                refine mw_lload C d_Gr_weakPlacesFor_78 rfl ?_
                refine mw_iload C d_Gr_weakPlacesFor_80 rfl ?_
                refine mw_run0l C (ix0 _ _) (mw_invS C (m_Wl_bitOf l D cA (4 * b + i) (by omega) _) (ix0 _ _) kb_Gr_63 ws_Wl_bitOf d_Gr_weakPlacesFor_82 rfl rfl (Nat.le_of_ble_eq_true rfl) rfl rfl ⟨by decide, by decide⟩ ⟨Nat.zero_le _, Nat.zero_le _⟩) (fun x82 e82 => ?_)
                subst e82
                refine mw_lor C d_Gr_weakPlacesFor_85 ?_
                refine mw_lstore C d_Gr_weakPlacesFor_86 (by decide) ?_
                refine mw_lload C d_Gr_weakPlacesFor_88 rfl ?_
                refine mw_iload C d_Gr_weakPlacesFor_90 rfl ?_
                refine mw_run0l C (ix0 _ _) (mw_invS C (m_Wl_bitOf l D cA (4 * b + i) (by omega) _) (ix0 _ _) kb_Gr_63 ws_Wl_bitOf d_Gr_weakPlacesFor_92 rfl rfl (Nat.le_of_ble_eq_true rfl) rfl rfl ⟨by decide, by decide⟩ ⟨Nat.zero_le _, Nat.zero_le _⟩) (fun x92 e92 => ?_)
                subst e92
                refine mw_aload_n C 0 d_Gr_weakPlacesFor_95 rfl rfl ?_
                refine mw_getr C f_Gr_15 d_Gr_weakPlacesFor_96 (by decide) rfl rfl ?_
                refine mw_iload C d_Gr_weakPlacesFor_99 rfl ?_
                refine mw_laldN C d_Gr_weakPlacesFor_101 (by decide) rfl (by omega) (by decide) ?_
                refine mw_lor C d_Gr_weakPlacesFor_102 ?_
                refine mw_lor C d_Gr_weakPlacesFor_103 ?_
                refine mw_lstore C d_Gr_weakPlacesFor_104 (by decide) ?_
                refine mw_iincN C d_Gr_weakPlacesFor_106 rfl (by decide) ?_
                refine mw_goto C 44 d_Gr_weakPlacesFor_109 (by decide) ?_
                exact mw_to _ (by exact And.intro rfl (And.intro rfl (And.intro rfl (And.intro rfl (And.intro rfl (And.intro rfl (And.intro rfl (trivial)))))))) (ih2 (i + 1) (z.1 ||| lN (2 ^ (4 * b + i)), z.2 ||| (lN (2 ^ (4 * b + i)) ||| S.2 2 (4 * b + i))) (by omega) (by
                  rw [gr_wkr, ← hz, gr_wk1, if_pos ⟨lb_nat1 h65, lb_nat0 h75⟩]))
      refine mw_iload C d_Gr_weakPlacesFor_35 rfl ?_
      refine mw_iconst C (v := nI 1) d_Gr_weakPlacesFor_37 (by decide) ?_
      refine mw_icmp_ltN C 118 d_Gr_weakPlacesFor_38 (by decide) (by omega) (by omega) (fun h38 => ?_) (fun h38 => ?_)
      · exfalso; omega
      ·
        refine mw_iconst C (v := nI 0) d_Gr_weakPlacesFor_41 (by decide) ?_
        refine mw_istore C d_Gr_weakPlacesFor_42 (by decide) ?_
        exact mw_to _ (by exact And.intro rfl (And.intro rfl (And.intro rfl (And.intro rfl (And.intro rfl (And.intro rfl (And.intro rfl (trivial)))))))) (M 4 0 (x, y) rfl rfl)
  refine mw_aload_n C 0 d_Gr_weakPlacesFor_0 rfl rfl ?_
  refine mw_iload_n C 1 d_Gr_weakPlacesFor_1 rfl rfl ?_
  refine mw_iconst C (v := nI 1) d_Gr_weakPlacesFor_2 (by decide) ?_
  refine mw_isubN C d_Gr_weakPlacesFor_3 (by omega) ?_
  refine mw_run0i C ix_Gr_Gr (mw_invV C (kk := 0) (m_Gr_nodesIn l D cA (r - 1) (by omega) (by omega) _) ix_Gr_Gr kb_Gr_70 wm_Gr_nodesIn wv_Gr_nodesIn (by decide) rfl rfl d_Gr_weakPlacesFor_4 rfl rfl (Nat.le_of_ble_eq_true rfl) rfl rfl ⟨by decide, by decide⟩ ⟨Nat.zero_le _, Nat.zero_le _⟩) (fun x4 e4 => ?_)
  subst e4
  refine mw_eqi (show _ = nI (four (S.2 0 4) (4 * (r - 1 - 1))) from rfl) ?_
  refine mw_i2l C d_Gr_weakPlacesFor_7 ?_
  refine mw_iload_n C 1 d_Gr_weakPlacesFor_8 rfl rfl ?_
  refine mw_iconst C (v := nI 1) d_Gr_weakPlacesFor_9 (by decide) ?_
  refine mw_isubN C d_Gr_weakPlacesFor_10 (by omega) ?_
  refine mw_iconst C (v := nI 0) d_Gr_weakPlacesFor_11 (by decide) ?_
  refine mw_run0i C (ix0 _ _) (mw_invS C (m_Wl_numberOf l D cA (r - 1) 0 (by omega) _) (ix0 _ _) kb_Gr_66 ws_Wl_numberOf d_Gr_weakPlacesFor_12 rfl rfl (Nat.le_of_ble_eq_true rfl) rfl rfl ⟨by decide, by decide⟩ ⟨Nat.zero_le _, Nat.zero_le _⟩) (fun x12 e12 => ?_)
  subst e12
  refine mw_lshl C d_Gr_weakPlacesFor_15 ?_
  refine mw_eql (show _ = lN (four (S.2 0 4) (4 * (r - 2)) * 2 ^ (4 * (r - 2))) from by
    have h4 := four_lt (S.2 0 4) (4 * (r - 1 - 1))
    rw [nI_l (by omega), wb_shl _ (by omega), show 4 * (r - 1 - 1) + 0 = 4 * (r - 2) from by omega, show 4 * (r - 1 - 1) = 4 * (r - 2) from by omega]) ?_
  refine mw_lstore_n C 2 d_Gr_weakPlacesFor_16 rfl (by decide) ?_
  refine mw_aload_n C 0 d_Gr_weakPlacesFor_17 rfl rfl ?_
  refine mw_getr C f_Gr_15 d_Gr_weakPlacesFor_18 (by decide) rfl rfl ?_
  refine mw_lload_n C 2 d_Gr_weakPlacesFor_21 rfl rfl ?_
  refine mw_run0l C ix_L1_Gr2 (mw_invS C (m_Gr_follow l D cA _ _) ix_L1_Gr2 kb_Gr_59 ws_Gr_follow d_Gr_weakPlacesFor_22 rfl rfl (Nat.le_of_ble_eq_true rfl) rfl rfl ⟨by decide, by decide⟩ ⟨Nat.zero_le _, Nat.zero_le _⟩) (fun x22 e22 => ?_)
  subst e22
  refine mw_lstore C d_Gr_weakPlacesFor_25 (by decide) ?_
  refine mw_lconst C (v := 0) d_Gr_weakPlacesFor_27 (by decide) ?_
  refine mw_lstore C d_Gr_weakPlacesFor_28 (by decide) ?_
  refine mw_iload_n C 1 d_Gr_weakPlacesFor_30 rfl rfl ?_
  refine mw_iconst C (v := nI 2) d_Gr_weakPlacesFor_31 (by decide) ?_
  refine mw_isubN C d_Gr_weakPlacesFor_32 (by omega) ?_
  refine mw_istore C d_Gr_weakPlacesFor_33 (by decide) ?_
  exact mw_to _ (by exact And.intro rfl (And.intro rfl (And.intro rfl (And.intro rfl (And.intro rfl (And.intro rfl (trivial))))))) (L (r - 2) 0 _ (by omega) rfl _)

def sh_Bo : Nat → mw_H := fun k => [.inr (0, [.inr 1, .inr 2, .inl 1, .inl 0]), .inl (0, 48, .inl 0), .inl (0, 4, .inl 0)].getD k (.inr (0, []))
def bo_bal (bal : Nat → Nat) (t : Nat) (j : Nat) : Nat := if t / 1000 ≤ bal (t % 1000 / 10) then (if j = t % 10 then (if t % 10 = t % 1000 / 10 then bal (t % 1000 / 10) - t / 1000 else bal (t % 10)) + t / 1000 else if j = t % 1000 / 10 then bal (t % 1000 / 10) - t / 1000 else bal j) else bal j
set_option maxHeartbeats 4000000 in
set_option maxRecDepth 100000 in
theorem m_Bo_enter (l : Launch) (D : va_G) (cA : Nat → ClassId) (q t cn : Nat) (bal : Nat → Nat) (S : mw_S) (hq : q < 48) (ht : t < 2 ^ 31) (hf : t % 1000 / 10 < 4) (hg : t % 10 < 4) (hc : cn < 48) (h0 : S.1 0 3 = nI cn) (hb : ∀ j, j < 4 → S.1 2 j = nI (bal j) ∧ bal j < 2 ^ 20) : mw_M true l lw_tbl y_Bo_enter b_Bo_enter 4 none { frames := 1, cells := 0, slots := 0, locals := 20 } D vCl cA sh_Bo 3 [.inr (.inr 0), .inl (nI q), .inl (nI t)] (S) (mw_Pv (fun S' => S'.1 0 3 = nI (cn + 1) ∧ S'.2 0 2 = S.2 0 2 ||| lN (2 ^ q) ∧ S'.1 1 = upd (S.1 1) cn (nI q) ∧ ∀ j, j < 4 → S'.1 2 j = nI (bo_bal bal t j))) := by
  refine mw_M_of (by decide) (Nat.le_of_ble_eq_true rfl) ?_
  intro p e s m args below meth c A ad C hR
  refine mw_aload_n C 0 d_Bo_enter_0 rfl rfl ?_
  refine mw_getr C f_Bo_9 d_Bo_enter_1 (by decide) rfl rfl ?_
  refine mw_aload_n C 0 d_Bo_enter_4 rfl rfl ?_
  refine mw_geti C f_Bo_18 d_Bo_enter_5 (by decide) rfl rfl ?_
  refine mw_eqi h0 ?_
  refine mw_iload_n C 1 d_Bo_enter_8 rfl rfl ?_
  refine mw_iastN C rfl d_Bo_enter_9 (by decide) rfl (by omega) (by decide) ?_
  refine mw_aload_n C 0 d_Bo_enter_10 rfl rfl ?_
  refine mw_dup C d_Bo_enter_11 rfl ?_
  refine mw_geti C f_Bo_18 d_Bo_enter_12 (by decide) rfl rfl ?_
  refine mw_eqi (show _ = nI cn from h0) ?_
  refine mw_iconst C (v := nI 1) d_Bo_enter_15 (by decide) ?_
  refine mw_iaddN C d_Bo_enter_16 ?_
  refine mw_puti C rfl f_Bo_18 p_Bo_3 d_Bo_enter_17 (by decide) rfl rfl ?_
  refine mw_aload_n C 0 d_Bo_enter_20 rfl rfl ?_
  refine mw_dup C d_Bo_enter_21 rfl ?_
  refine mw_getl C f_Bo_22 d_Bo_enter_22 (by decide) rfl rfl ?_
  refine mw_iload_n C 1 d_Bo_enter_25 rfl rfl ?_
  refine mw_run0l C (ix0 _ _) (mw_invS C (m_Wl_bitOf l D cA q (by omega) _) (ix0 _ _) kb_Bo_26 ws_Wl_bitOf d_Bo_enter_26 rfl rfl (Nat.le_of_ble_eq_true rfl) rfl rfl ⟨by decide, by decide⟩ ⟨Nat.zero_le _, Nat.zero_le _⟩) (fun x26 e26 => ?_)
  subst e26
  refine mw_lor C d_Bo_enter_29 ?_
  refine mw_putl C rfl f_Bo_22 p_Bo_2 d_Bo_enter_30 (by decide) rfl rfl ?_
  refine mw_iload_n C 2 d_Bo_enter_33 rfl rfl ?_
  refine mw_sipush C (v := nI 1000) d_Bo_enter_34 (by decide) ?_
  refine mw_idivN C d_Bo_enter_37 (by omega) (by decide) (by decide) ?_
  refine mw_istore_n C 3 d_Bo_enter_38 rfl (by decide) ?_
  refine mw_aload_n C 0 d_Bo_enter_39 rfl rfl ?_
  refine mw_getr C f_Bo_15 d_Bo_enter_40 (by decide) rfl rfl ?_
  refine mw_iload_n C 2 d_Bo_enter_43 rfl rfl ?_
  refine mw_run0i C (ix0 _ _) (mw_invS C (m_Wl_payerOf l D cA t ht _) (ix0 _ _) kb_Bo_30 ws_Wl_payerOf d_Bo_enter_44 rfl rfl (Nat.le_of_ble_eq_true rfl) rfl rfl ⟨by decide, by decide⟩ ⟨Nat.zero_le _, Nat.zero_le _⟩) (fun x44 e44 => ?_)
  subst e44
  refine mw_ialdN C d_Bo_enter_47 (by decide) rfl (by omega) (by decide) ?_
  refine mw_eqi (show _ = nI (bal (t % 1000 / 10)) from (hb _ hf).1) ?_
  have hbf := (hb _ hf).2
  refine mw_iload_n C 3 d_Bo_enter_48 rfl rfl ?_
  refine mw_icmp_ltN C 78 d_Bo_enter_49 (by decide) (by omega) (by omega) (fun h49 => ?_) (fun h49 => ?_)
  ·
    refine mw_vret C hR d_Bo_enter_78 ?_
    refine ⟨rfl, rfl, rfl, fun j hj => ?_⟩
    unfold bo_bal
    rw [if_neg (by omega)]
    exact (hb j hj).1
  ·
    refine mw_aload_n C 0 d_Bo_enter_52 rfl rfl ?_
    refine mw_getr C f_Bo_15 d_Bo_enter_53 (by decide) rfl rfl ?_
    refine mw_iload_n C 2 d_Bo_enter_56 rfl rfl ?_
    refine mw_run0i C (ix0 _ _) (mw_invS C (m_Wl_payerOf l D cA t ht _) (ix0 _ _) kb_Bo_30 ws_Wl_payerOf d_Bo_enter_57 rfl rfl (Nat.le_of_ble_eq_true rfl) rfl rfl ⟨by decide, by decide⟩ ⟨Nat.zero_le _, Nat.zero_le _⟩) (fun x57 e57 => ?_)
    subst e57
    refine mw_dup2_11 C d_Bo_enter_60 rfl rfl ?_
    refine mw_ialdN C d_Bo_enter_61 (by decide) rfl (by omega) (by decide) ?_
    refine mw_eqi (show _ = nI (bal (t % 1000 / 10)) from (hb _ hf).1) ?_
    refine mw_iload_n C 3 d_Bo_enter_62 rfl rfl ?_
    refine mw_isubN C d_Bo_enter_63 (by omega) ?_
    refine mw_iastN C rfl d_Bo_enter_64 (by decide) rfl (by omega) (by decide) ?_
    refine mw_aload_n C 0 d_Bo_enter_65 rfl rfl ?_
    refine mw_getr C f_Bo_15 d_Bo_enter_66 (by decide) rfl rfl ?_
    refine mw_iload_n C 2 d_Bo_enter_69 rfl rfl ?_
    refine mw_run0i C (ix0 _ _) (mw_invS C (m_Wl_payeeOf l D cA t ht _) (ix0 _ _) kb_Bo_34 ws_Wl_payeeOf d_Bo_enter_70 rfl rfl (Nat.le_of_ble_eq_true rfl) rfl rfl ⟨by decide, by decide⟩ ⟨Nat.zero_le _, Nat.zero_le _⟩) (fun x70 e70 => ?_)
    subst e70
    refine mw_dup2_11 C d_Bo_enter_73 rfl rfl ?_
    refine mw_ialdN C d_Bo_enter_74 (by decide) rfl (by omega) (by decide) ?_
    refine mw_eqi (show _ = nI (if t % 10 = t % 1000 / 10 then bal (t % 1000 / 10) - t / 1000 else bal (t % 10)) from by
      show upd (S.1 2) (t % 1000 / 10) (nI (bal (t % 1000 / 10) - t / 1000)) (t % 10) = _
      unfold upd
      by_cases e0 : t % 10 = t % 1000 / 10
      · rw [if_pos e0, if_pos e0]
      · rw [if_neg e0, if_neg e0]; exact (hb _ hg).1) ?_
    refine mw_iload_n C 3 d_Bo_enter_75 rfl rfl ?_
    refine mw_iaddN C d_Bo_enter_76 ?_
    refine mw_iastN C rfl d_Bo_enter_77 (by decide) rfl (by omega) (by decide) ?_
    refine mw_vret C hR d_Bo_enter_78 ?_
    refine ⟨rfl, rfl, rfl, fun j hj => ?_⟩
    show upd (upd (S.1 2) (t % 1000 / 10) (nI (bal (t % 1000 / 10) - t / 1000))) (t % 10) (nI ((if t % 10 = t % 1000 / 10 then bal (t % 1000 / 10) - t / 1000 else bal (t % 10)) + t / 1000)) j = _
    unfold bo_bal
    rw [if_pos (c := t / 1000 ≤ bal (t % 1000 / 10)) h49]
    unfold upd
    by_cases e0 : j = t % 10
    · rw [if_pos e0, if_pos e0]
    · rw [if_neg e0, if_neg e0]
      by_cases e1 : j = t % 1000 / 10
      · rw [if_pos e1, if_pos e1]
      · rw [if_neg e1, if_neg e1]; exact (hb j hj).1
end
section
/-! methods that throw; a caller that catches -/
section MTF
variable {Q : Handler → Pre} {E : CtlPost} {e : Env} {d : Bool} {acts : List Action} {s : State} {f : JFrame} {a : Addr}
/-- one row of the table, its class not looked up before -/
theorem mt_entry {x : ExceptionTableEntry} {t : List ExceptionTableEntry} {k : ClassId} {ce : Cell} (hx : covers x f.pc = true) (h0 : x.catchType ≠ 0) (hl : s.vm.ClassLinks e.platform f.method.cls x.catchType k) (hc : s.heap[a]? = some ce) (ho : ∀ z, ce.vm ≠ .statics z)
    (h1 : ∃ z, s.vm.classes[ce.cls]? = some z) (h2 : ∃ z, s.vm.classes[k]? = some z) {b : Bool} (hb : s.vm.assignable ce.cls k = b) :
    wp (findHandler.go f a (x :: t)) Q E e d acts s ↔ if b = true then Q (.found x.handlerPc) d acts (s.setVm (s.vm.noted f.method.cls x.catchType (.cls k))) else wp (findHandler.go f a t) Q E e d acts (s.setVm (s.vm.noted f.method.cls x.catchType (.cls k))) := by
  have hcov : (decide (x.startPc ≤ f.pc) && decide (f.pc < x.endPc)) = true := hx
  have hA : s.vm.Alike (s.vm.noted f.method.cls x.catchType (.cls k)) := (Vm.Alike.refl s.vm).noted _ _ _
  obtain ⟨o1, o2⟩ := (resolveClass_links e.toSetting hl).op (op := VmOp.resolveClass f.method.cls x.catchType) rfl
  obtain ⟨z1, e1⟩ := h1
  obtain ⟨z2, e2⟩ := h2
  obtain ⟨y1, e1', -⟩ := hA.2.2 _ _ e1
  obtain ⟨y2, e2', -⟩ := hA.2.2 _ _ e2
  have hb' : (s.vm.noted f.method.cls x.catchType (.cls k)).assignable ce.cls k = b := by rw [hA.assignable]; exact hb
  cases b <;> simp [findHandler.go, hcov, h0, o1, o2, hc, ho, e1', e2', hb', VmOp.dirties, VmOp.acts]
end MTF
/-- the search through the rows tbl ends at hpc, for an object of the class kc, whatever was linked meanwhile -/
def mt_Go (e : Env) (s : State) (f : JFrame) (tbl : List ExceptionTableEntry) (kc : ClassId) (hpc : Nat) : Prop := ∀ (S0 : State) (a : Addr) (ce : Cell), s.WarmedH S0.vm → S0.heap[a]? = some ce → (∀ z, ce.vm ≠ .statics z) → ce.cls = kc →
  ∃ vm', s.WarmedH vm' ∧ ∀ (Q : Handler → Pre) (E : CtlPost) (d : Bool) (acts : List Action), wp (findHandler.go f a tbl) Q E e d acts S0 ↔ Q (.found hpc) d acts (S0.setVm vm')
theorem mt_Go_row {e : Env} {s : State} {f : JFrame} {x : ExceptionTableEntry} {t : List ExceptionTableEntry} {k kc : ClassId} {hpc : Nat} {b : Bool} (hx : covers x f.pc = true) (h0 : x.catchType ≠ 0) (hl : s.vm.ClassLinks e.platform f.method.cls x.catchType k) (hk : ∃ z, s.vm.classes[kc]? = some z) (hb : s.vm.assignable kc k = b)
    (h : if b = true then hpc = x.handlerPc else mt_Go e s f t kc hpc) : mt_Go e s f (x :: t) kc hpc := by
  intro S0 a ce hW hc ho hcl
  subst hcl
  obtain ⟨z1, e1⟩ := hk
  obtain ⟨y1, e1', -⟩ := hW.alike.2.2 _ _ e1
  obtain ⟨dk, -, -, kt, hd, -, -, -, -, hkt, -, hopen⟩ := hl.here
  obtain ⟨kt', hkt', -⟩ := hW.alike.2.2 _ _ hkt
  have hW2 : s.WarmedH (S0.vm.noted f.method.cls x.catchType (.cls k)) := hW.noted hd hopen (State.rightAt_cls hl)
  have hb' : S0.vm.assignable ce.cls k = b := by rw [hW.alike.assignable]; exact hb
  cases b with
  | true =>
    rw [if_pos rfl] at h
    subst h
    refine ⟨_, hW2, fun Q E d acts => ?_⟩
    rw [mt_entry hx h0 (hW.classLinks hl) hc ho ⟨y1, e1'⟩ ⟨kt', hkt'⟩ hb', if_pos rfl]
  | false =>
    rw [if_neg (by decide)] at h
    obtain ⟨vm', hW3, hq⟩ := h (S0.setVm (S0.vm.noted f.method.cls x.catchType (.cls k))) a ce hW2 hc ho rfl
    refine ⟨vm', hW3, fun Q E d acts => ?_⟩
    rw [mt_entry hx h0 (hW.classLinks hl) hc ho ⟨y1, e1'⟩ ⟨kt', hkt'⟩ hb', if_neg (by decide)]
    exact hq Q E d acts
theorem mt_caught {tb : Tables} {e : Env} {s target : State} {g : JFrame} {c : Code} {below : List Frame} {a : Addr} (h : At s g.method c below) {pc : Nat} {vm' : Vm}
    (hf : ∀ (Q : Handler → Pre) (E : CtlPost) (d : Bool) (acts : List Action), wp (findHandler g a) Q E e d acts ((s.setTop g).pushFrame (.throwing a)) ↔ Q (.found pc) d acts (((s.setTop g).pushFrame (.throwing a)).setVm vm'))
    (hr : Steps tb e below ((s.setVm vm').setTop { g with pc := pc, stack := [.ref a] }) target) : Steps tb e below ((s.setTop g).pushFrame (.throwing a)) target := by
  obtain ⟨go1, go2⟩ := h.throwing a
  have one : (stepThrowing e ((s.setTop g).pushFrame (.throwing a)) a (.java g :: s.frames.tail)).Is ((((s.setTop g).pushFrame (.throwing a)).setVm vm').setFrames (.java { g with pc := pc, stack := [.ref a] } :: s.frames.tail)) [] := by
    simp only [stepThrowing, searchFrame, vmDo]
    generalize hres : Sem.go _ e false [] _ = res
    obtain ⟨as, rfl, ha⟩ := Sem.eq_ok_of hres (a := Handler.found pc) (s' := ((s.setTop g).pushFrame (.throwing a)).setVm vm') (acts' := []) (by simp [hf _ _ _ _])
    exact ⟨rfl, ha⟩
  refine Steps.head go1 go2 ?_
  rw [stepThread_throwing (frames_entered h.top _), one.1]
  obtain ⟨g0, hg0⟩ := Option.isSome_iff_exists.mp h.top
  obtain ⟨r, hfr⟩ := State.topJava?_eq_some.mp hg0
  have e1 : (((s.setTop g).pushFrame (.throwing a)).setVm vm').setFrames (.java { g with pc := pc, stack := [.ref a] } :: s.frames.tail) = (s.setVm vm').setTop { g with pc := pc, stack := [.ref a] } := by
    have hfr' : (s.setVm vm').frames = .java g0 :: r := hfr
    rw [State.setTop_of_frames _ hfr', hfr, List.tail_cons, State.pushFrame, State.setTop_of_frames _ hfr]
    show (((s.setVm vm').setFrames _).setFrames _).setFrames _ = _
    rw [State.setFrames_setFrames, State.setFrames_setFrames]
  rw [e1]
  exact hr
-- the contract of a method that throws
def mt_End (first : State) (o : Outcome) (t : State) (L : List Loc) (k n : Nat) : Prop := (∃ x, o = .threw x) ∧ first.WarmedH t.vm ∧ first.sameButNew ({ t with vm := first.vm } : State) L k n
def mt_Met (l : Launch) (y : MethodName) (ws : List Cond) (rm : Room) (Pc : Array Value → State → Prop) (Qc : Array Value → State → Outcome → State → Prop) (mc ms : Nat) (free : Addr → Prop) : Prop :=
  MetFree l y (headSpec ws rm) Pc (fun _ _ _ _ _ => True) (fun a st o t => Qc a st o t ∧ ∃ L, mt_End st o t L mc ms ∧ ∀ q ∈ L, free q.base)
def mt_MQ (below : List Frame) (Qc : Array Value → State → Outcome → State → Prop) (a : Array Value) (s : State) (mc ms : Nat) (free : Addr → Prop) : State → Prop := fun t =>
  ∃ o, t.status = .running ∧ Ended t below o ∧ Qc a s o t ∧ ∃ L, mt_End s o t L mc ms ∧ ∀ q ∈ L, free q.base
theorem mt_ofW {l : Launch} {y : MethodName} {ws ws' : List Cond} {rm : Room} {Pc : Array Value → State → Prop} {Qc : Array Value → State → Outcome → State → Prop} {mc ms : Nat} {free : Addr → Prop} {cc : ByteArray} {maxL : Nat} {ret : Option FieldType}
    (hy : plainName y.cls = true) (hw : ws = Cond.code y cc maxL ret :: ws')
    (body : ∀ p e s m args below meth c s₁, BodyLoose p l y (headSpec ws rm) cc maxL ret e s m args below meth c s₁ → c.maxLocals = maxL → Pc args s →
      W p l e (headSpec ws rm).room s m args below meth c s.heap [] 0 0 (mt_MQ below Qc args s mc ms free) (entryFrame m args maxL)) : mt_Met l y ws rm Pc Qc mc ms free := by
  refine MetFree.of_bodyS (code := cc) (maxLocals := maxL) (ret := ret) hy ?_ ?_
  · intro args s m h hn
    obtain ⟨meth, c, h1, h2, h3, h4, h5, h6, -, -⟩ := Cond.code_spec hn (atoms_spec (ws := ws) h _ (by rw [hw]; exact List.mem_cons_self))
    exact ⟨meth, c, h1, h2, h3, h4, h5, h6⟩
  · intro p e s m args below meth c s₁ B hml hP _
    have hh0 : s₁.heap = s.heap := by rw [B.state]; rfl
    obtain ⟨t, a1, o, b1, b2, b3⟩ := body p e s m args below meth c s₁ B hml hP s₁ hh0 (Stand.of_body B)
    exact ⟨t, o, a1, b1, b2, ⟨b3.1, b3.2⟩⟩
/-- a call of such a method, up to where the note lies over the caller's frame -/
theorem mt_thrown {l : Launch} {R : Room} {p : Program} {e : Env} {below : List Frame} {s U : State} {m : MethodId} {sargs : Array Value} {meth : Method} {c : Code} {locs : List Loc} {cells slots : Nat} (X : Stand p l e R s m sargs below meth c U locs cells slots)
    {y : MethodName} {ws : List Cond} {rm : Room} {Pc : Array Value → State → Prop} {Qc : Array Value → State → Outcome → State → Prop} {mc ms : Nat} {free : Addr → Prop} {bytes : ByteArray} {maxL W : Nat} {ret : Option FieldType}
    (hM : mt_Met l y ws rm Pc Qc mc ms free) (hblind : FrameBlind Pc) (hrc : rm.cells = mc) (hrs : rm.slots = ms) (hframes : rm.frames + 1 ≤ R.frames) (hlocals : W + (maxL + 11) + rm.locals ≤ R.locals)
    (hws : ∀ w ∈ ws, ∀ (a' : Array Value) (U' : State), s.WarmedH U'.vm → w.before a' U' = true) (hcode : Cond.code y bytes maxL ret ∈ ws) (hinit : ∀ (a' : Array Value) (U' : State), s.WarmedH U'.vm → (Cond.initialized y.cls).before a' U' = true)
    {g : JFrame} (hg : g.method = m) (hsize : g.locals.size = c.maxLocals) {ig : Instr} {len : Nat} (hdg : decode c.code g.pc = .ok (ig, len)) (hW : 2 * g.monitorRoom + (g.stack.map fun v => v.category).sum ≤ W) {mk : MethodId} {a : Array Value} (hn : U.methodNamed? y = some mk)
    (hcells : cells + mc ≤ R.cells) (hslots : slots + ms ≤ R.slots) (hPc : Pc a U) :
    ∃ (x : Addr) (t T' : State) (L : List Loc), Stand p l e R s m sargs below meth c T' (locs ++ L) (cells + mc) (slots + ms) ∧ (∀ q ∈ L, free q.base) ∧ T'.heap = t.heap ∧ T'.vm = t.vm ∧ Qc a (U.calling g mk a) (.threw x) t ∧
      Steps p.tables e below (doInvoke e (U.setTop g) [] mk a).1 ((T'.setTop g).pushFrame (.throwing x)) := by
  have hwm : s.WarmedH U.vm := X.warmed
  have c1 : (Cond.code y bytes maxL ret).before a U = true := hws _ hcode _ _ hwm
  obtain ⟨mY, cY, hmY, hcY, -, hlY, -, -, -, -⟩ := Cond.code_spec hn c1
  obtain ⟨kY, hkY, -⟩ := className_of_methodNamed hn
  have hiY : kY.init = .initialized := Cond.initialized_spec (findClass_of_methodNamed hn) hkY (hinit a _ hwm)
  have hat : At U g.method c below := by rw [hg]; exact X.here
  have happ : (headSpec ws rm).appliesLoose y e.platform (U.calling g mk a) = true :=
    Spec.appliesLoose_calling (g := g) hat hdg hn hkY hiY (X.room_calling (g := g) (R' := rm) hsize hmY hcY hframes (by rw [hlY]; omega) (by rw [hrc]; exact hcells) (by rw [hrs]; exact hslots)) (atoms_intro fun w hw => hws w hw _ _ hwm)
  obtain ⟨mid, hmid⟩ := hat.above
  have hfr : (U.setTop g).frames = (.java g :: mid) ++ below := by rw [State.frames_setTop' g hat.top, hmid]; rfl
  obtain ⟨o, s₂, hsteps, -, hend, hq, L, ⟨⟨x, rfl⟩, hW2, q1, q2, q3, q4, q5, q6⟩, hL⟩ := Steps.callFree hM p X.admits X.cas X.clock (acts := []) hfr happ (hblind _ _ g mk hPc) trivial
  rw [State.frames_setTop' g hat.top] at hend
  have hfr2 : s₂.frames = .throwing x :: .java g :: U.frames.tail := hend
  have hWU : U.WarmedH s₂.vm := hW2
  obtain ⟨g0, hg0⟩ := Option.isSome_iff_exists.mp hat.top
  obtain ⟨r, hr⟩ := State.topJava?_eq_some.mp hg0
  have hr2 : (({ U with heap := s₂.heap, slotsUsed := s₂.slotsUsed } : State).setVm s₂.vm).frames = .java g0 :: r := hr
  have whole : s₂ = ((({ U with heap := s₂.heap, slotsUsed := s₂.slotsUsed } : State).setVm s₂.vm).setTop g).pushFrame (.throwing x) := by
    have w1 : s₂ = ({ (U.calling g mk a).setFrames s₂.frames with heap := s₂.heap, slotsUsed := s₂.slotsUsed } : State).setVm s₂.vm := by
      have w0 : s₂ = ({ s₂ with vm := (U.calling g mk a).vm } : State).setVm s₂.vm := rfl
      exact w0.trans (congrArg (fun z : State => z.setVm s₂.vm) q1)
    refine w1.trans ?_
    rw [hfr2, State.calling_eq hat.top, State.setFrames_setFrames, State.pushFrame, State.frames_setTop _ hr2, State.setTop_of_frames _ hr2, State.setFrames_setFrames, hr]
    rfl
  have same : U.sameButNew ({ U with heap := s₂.heap, slotsUsed := s₂.slotsUsed } : State) L mc ms := by
    refine ⟨?_, q2, q3, q4, q5, q6⟩
    obtain ⟨th, hth, -⟩ := State.frames_cons hr
    show ({ U with heap := s₂.heap, slotsUsed := s₂.slotsUsed } : State) = { U.setFrames U.frames with heap := s₂.heap, slotsUsed := s₂.slotsUsed }
    rw [State.setFrames_self hth]
  subst hg
  refine ⟨x, s₂, ({ U with heap := s₂.heap, slotsUsed := s₂.slotsUsed } : State).setVm s₂.vm, L,
    ⟨X.admits, X.cas, X.clock, X.frames, X.room, X.hears, X.method, X.code, (X.here.setHeapUsed s₂.heap s₂.slotsUsed).setVm hWU.alike, X.tail, State.WarmedH.trans X.warmed hWU, X.limits, X.bytes, X.same.trans (same.setVm s.vm)⟩, hL, rfl, rfl, hq, ?_⟩
  rw [← whole]
  exact hsteps
end
section
/-! what a throw needs of the state; 'new E(text); athrow' -/
/-- a static field that holds a reference or null, in a cell below bd -/
def mt_S (C n d : String) (bd : Nat) (U : State) (H : Heap) : Prop := ∃ (c : ClassId) (k : Class) (i : Nat) (f : Field) (a : Nat) (cell : Cell) (v : Value), U.vm.findClass C = some c ∧ U.fieldFound? C n d = some (c, k, i, f) ∧ f.isStatic = true ∧ k.statics = some a ∧ H[a]? = some cell ∧ cell.vm.isStatics = true ∧ cell.cls = c ∧ f.slot < cell.slots.size ∧ k.staticTypes[f.slot]? = some f.type ∧ cell.slots[f.slot]? = some v ∧ v.isRef = true ∧ a < bd
theorem mt_S.moved {C n d : String} {bd : Nat} {u U : State} {H : Heap} (hvm : u.vm.Alike U.vm) (h : mt_S C n d bd u H) : mt_S C n d bd U H := by
  obtain ⟨c, k, i, f, a, cell, v, h1, h2, h3, h4, h5, h6, h7, h8, h9, h10⟩ := h
  obtain ⟨k', hi', he⟩ := State.fieldFound?_setVm hvm h2
  exact ⟨c, k', i, f, a, cell, v, by rw [hvm.findClass]; exact h1, hi', h3, by rw [he]; exact h4, h5, h6, h7, h8, by rw [he]; exact h9, h10⟩
theorem mt_S.kept {C n d : String} {bd : Nat} {U : State} {H H1 : Heap} (h : mt_S C n d bd U H) (hq : ∀ q, q < bd → H1[q]? = H[q]?) : mt_S C n d bd U H1 := by
  obtain ⟨c, k, i, f, a, cell, v, h1, h2, h3, h4, h5, h6, h7, h8, h9, h10, h11, h12⟩ := h
  exact ⟨c, k, i, f, a, cell, v, h1, h2, h3, h4, by rw [hq a h12]; exact h5, h6, h7, h8, h9, h10, h11, h12⟩
theorem mt_S.of {C n d : String} {args : Array Value} {s : State} (h1 : (Cond.laysStatic C n d).before args s = true) (h2 : (Cond.isRef (.static C n d)).before args s = true) : mt_S C n d s.heap.size s s.heap := by
  obtain ⟨c, k, i, f, a, cell, g1, g2, g3, g4, g5, g6, g7, g8, g9⟩ := Cond.laysStatic_spec h1
  cases hv : (Term.static C n d).eval args s none [] s with
  | none => simp [Cond.before, Cond.holds, Cond.value, hv] at h2
  | some v =>
    obtain ⟨-, a', cell', ha', hcell', -, hslot⟩ := Term.static_spec g2 hv
    cases g4.symm.trans ha'
    cases g5.symm.trans hcell'
    refine ⟨c, k, i, f, a, cell, v, g1, g2, g3, g4, g5, g6, g7, g8, g9, hslot, ?_, (Array.getElem?_eq_some_iff.mp g5).1⟩
    simp only [Cond.before, Cond.holds, Cond.value, hv] at h2
    cases v <;> first | rfl | (simp at h2; done)
theorem mt_S.lays {C n d : String} {bd : Nat} {args : Array Value} {s : State} (h : mt_S C n d bd s s.heap) : (Cond.laysStatic C n d).before args s = true := by
  obtain ⟨c, k, i, f, a, cell, v, h1, h2, h3, h4, h5, h6, h7, h8, h9, h10⟩ := h
  exact Cond.laysStatic_of h1 h2 h3 h4 h5 h6 h7 h8 h9
theorem mt_S.isRef {C n d : String} {bd : Nat} {args : Array Value} {s : State} (h : mt_S C n d bd s s.heap) : (Cond.isRef (.static C n d)).before args s = true := by
  obtain ⟨c, k, i, f, a, cell, v, h1, h2, h3, h4, h5, h6, h7, h8, h9, h10, h11, h12⟩ := h
  have hv : (Term.static C n d).eval args s none [] s = some v := Term.static_eval h2 h3 h4 h5 h6 h10
  simp only [Cond.before, Cond.holds, Cond.value, hv]
  cases v <;> first | rfl | (simp [Value.isRef] at h11; done)
def mt_str : List (Nat × String) := [(53, "no such node or account"), (58, "amount is not 1 .. 99"), (72, "12 transfers wait"), (88, "n is not 0 .. 100"), (98, "no such round or nodes"), (105, "no such places or transfer"), (110, "no node is faulty, or 24 were forged"), (121, "no such kind, node or vertex"), (123, "no node is faulty")]
/-- what the class's throws need of the state, beside the words: two statics of Throwable's, the texts -/
def mt_X (bd : Nat) (U : State) : Prop := mt_S Bundle.tN "UNASSIGNED_STACK" Bundle.steD bd U U.heap ∧ mt_S Bundle.tN "SUPPRESSED_SENTINEL" Bundle.listD bd U U.heap ∧ ∀ q ∈ mt_str, ∃ a, vk_R "WaveLedger" q.1 q.2 a U
theorem mt_X.same {bd : Nat} {u U : State} (hv : U.vm = u.vm) (hh : U.heap = u.heap) (h : mt_X bd u) : mt_X bd U := by
  refine ⟨?_, ?_, fun q hq => ?_⟩
  · rw [hh]; exact h.1.moved (by rw [hv]; exact Vm.Alike.refl _)
  · rw [hh]; exact h.2.1.moved (by rw [hv]; exact Vm.Alike.refl _)
  · obtain ⟨a, ha⟩ := h.2.2 q hq
    exact ⟨a, ha.same hv⟩
theorem mt_X.warm {bd : Nat} {s U : State} (hW : s.WarmedH U.vm) (hh : ∀ q, q < bd → U.heap[q]? = s.heap[q]?) (h : mt_X bd s) : mt_X bd U := by
  refine ⟨(h.1.moved hW.alike).kept hh, (h.2.1.moved hW.alike).kept hh, fun q hq => ?_⟩
  obtain ⟨a, ha⟩ := h.2.2 q hq
  exact ⟨a, ha.warm hW⟩
abbrev mt_up : List String := ["java/lang/RuntimeException", "java/lang/Exception"]
/-- which words 'new E(text); athrow' stands on, and where they are -/
def mt_At (tb : List Cond) (own : String) (ic : Nat) (X : String) : Prop := ∀ w ∈ Bundle.ownAtoms own ic X mt_up, w ∈ mw_G tb ∨ w ∈ mw_N tb ∨ w = .laysStatic Bundle.tN "UNASSIGNED_STACK" Bundle.steD ∨ w = .laysStatic Bundle.tN "SUPPRESSED_SENTINEL" Bundle.listD ∨ w = .isRef (.static Bundle.tN "UNASSIGNED_STACK" Bundle.steD) ∨ w = .isRef (.static Bundle.tN "SUPPRESSED_SENTINEL" Bundle.listD)
/-- a method's end by a throw of an X: nothing old has changed; the object is new -/
def mt_Qc (X : String) : Array Value → State → Outcome → State → Prop := fun _ st oc t => (∃ x, oc = .threw x ∧ st.heap.size ≤ x ∧ ∃ ce : Cell, t.heap[x]? = some ce ∧ st.vm.findClass X = some ce.cls ∧ ce.vm = .none) ∧ st.heap.size ≤ t.heap.size ∧ ∀ q, q < st.heap.size → t.heap[q]? = st.heap[q]?
theorem mt_old {s U : State} {locs : List Loc} {k n : Nat} (h : s.sameButNew ({ U with vm := s.vm } : State) locs k n) (hl : ∀ q ∈ locs, s.heap.size ≤ q.base) : s.heap.size ≤ U.heap.size ∧ ∀ q, q < s.heap.size → U.heap[q]? = s.heap[q]? := by
  obtain ⟨-, h2, -, -, -, h6⟩ := h
  refine ⟨h2, fun q hq => ?_⟩
  have e0 : s.heap[q]? = some s.heap[q] := Array.getElem?_eq_getElem hq
  obtain ⟨c', g1, g2, g3, g4⟩ := h6 q _ e0
  have g1 : U.heap[q]? = some c' := g1
  rw [g1, e0, g2]
  congr 1
  have es : c'.slots = (s.heap[q]).slots := by
    apply Array.ext_getElem?
    intro i
    exact g4 i (fun hm => absurd (hl _ hm) (Nat.not_le.mpr hq))
  rw [es]
section MTT
variable {p : Program} {l : Launch} {e : Env} {R : Room} {s : State} {m : MethodId} {args : Array Value} {below : List Frame} {meth : Method} {c : Code}
variable {cc : ByteArray} {nL : Nat} {own : String} {b0 : Cond} {tb : List Cond} {D : va_G} {cl : List vw_C} {cA : Nat → ClassId} {A : Nat → Prop} {ad : Nat → Nat} {sh : Nat → mw_H} {n : Nat}
variable {pc : Nat} {lv : List (Nat × mw_V)} {S : mw_S}
set_option maxHeartbeats 4000000 in
theorem mt_throw (C : mw_C p m c s args cc nL own b0 tb D cl cA A ad n false) {X tx : String} {inew ic is bd : Nat} (htr : l.stackTraces = false) (hAe : ∀ q, A q → s.heap.size ≤ q) (hlk : meth.locks = false) (hex : c.exceptionTable.isEmpty = true) (hZ : mt_X bd s) (hown : own = "WaveLedger") (htx : (is, tx) ∈ mt_str)
    (hcl : Cond.classLink own inew X ∈ mw_G tb) (hin : Cond.instantiable X 6 ∈ mw_G tb) (hini : Cond.initialized X ∈ mw_G tb) (hat : mt_At tb own ic X) (hfx : Bundle.fit X = true)
    (d0 : decode cc pc = .ok (.new inew, 3)) (d3 : decode cc (pc + 3) = .ok (.dup, 1)) (d4 : decode cc (pc + 4) = .ok (.ldc is, 2)) (d6 : decode cc (pc + 6) = .ok (.invokespecial ic, 3)) (d9 : decode cc (pc + 9) = .ok (.athrow, 1))
    (hRc : 1 ≤ R.cells) (hRs : 6 ≤ R.slots) (hRf : 5 < R.frames) (hRl : 82 ≤ R.locals) :
    mw p l e R s m args below meth c (mt_MQ below (mt_Qc X) args s 1 6 A) 0 0 D cl cA A ad sh n nL pc lv [] S := by
  intro H locs ls hP hS hl T hT Y
  have hx := C.1.1
  have hb := C.1.2.1
  have how := C.1.2.2.2.1
  have hmem : ∀ w, w ∈ mw_G tb → w.before args s = true := fun w h => C.1.2.2.2.2 w (List.mem_cons_of_mem _ h)
  have hats : ∀ w ∈ Bundle.ownAtoms own ic X mt_up, w.before args s = true := by
    intro w hw
    rcases hat w hw with h | h | rfl | rfl | rfl | rfl
    · exact hmem w h
    · exact va_Nw.use (mw_nk_tabs (List.mem_filter.mp h).2) (C.2.1 w h)
    · exact hZ.1.lays
    · exact hZ.2.1.lays
    · exact hZ.1.isRef
    · exact hZ.2.1.isRef
  have htrE : e.platform.stackTraces = false := by rw [show e.platform.stackTraces = l.stackTraces from by rw [Y.admits.platform]]; exact htr
  obtain ⟨qa, hqa⟩ := hZ.2.2 _ htx
  have hstr : (Cond.stringRef own is tx).before args s = true := by
    rw [hown]
    have h9 := hqa.1
    first
      | exact h9
      | simpa only [Cond.before, Cond.holds, Cond.value] using h9
  obtain ⟨-, -, -, a', -, -, -, -, -, hev⟩ := Cond.stringRef_spec how hstr
  obtain ⟨vm1, cX, kX, hfX, hkX, -, -, Y1, st1⟩ := Y.newCold hx (own := own) (C := X) (index := inew) (n := 6) how (hmem _ hcl) (hmem _ hin) (hmem _ hini) (g := F0 m pc ls []) rfl (by rw [hb]; exact d0) (by simpa using hRc) (by simpa using hRs)
  have hsz : s.heap.size ≤ T.heap.size := by rw [hT]; exact hS.1
  generalize hT1 : (T.setVm vm1).pushCell { cls := cX, slots := kX.instanceTypes.map defaultValue, vm := .none } = T1 at Y1 st1
  have hcA : T1.heap[T.heap.size]? = some (freshCell cX kX) := by rw [← hT1]; exact State.heap_pushCell_size _ _
  obtain ⟨U, hsteps, hrun, hend, hW, hsame, ce, hce, K⟩ := Y1.ctorThrowS hx htrE (own := own) (cls := X) (names := mt_up) (ic := ic) how hfx (by decide +kernel) hats
    (fun x hx' cell hc' => by
      have h9 : x.base < s.heap.size := (Array.getElem?_eq_some_iff.mp hc').1
      exact absurd (hAe _ (hS.2.2 x hx')) (Nat.not_le.mpr h9))
    hfX hkX hcA hsz (msg := .ref a') rfl (g := F0 m (pc + 6) ls [.ref a', .ref T.heap.size, .ref T.heap.size]) rfl (by rw [C.1.2.2.1]; exact hl.1) rfl rfl (rest := []) rfl (by rw [hb]; exact d6) (by rw [hb]; exact d9)
    (covers_of_empty hex _) hRf (by
      show 2 * 0 + (1 + 0) + (13 * (2 + 1) + 42) ≤ R.locals
      omega) hlk
  obtain ⟨o1, o2⟩ := mt_old hsame (fun q hq => hAe _ (hS.2.2 q hq))
  refine ⟨U, ?_, .threw T.heap.size, hrun, hend, ⟨⟨T.heap.size, rfl, hsz, ce, hce, K.cls, K.vm⟩, o1, o2⟩, locs, ⟨⟨_, rfl⟩, hW, by simpa using hsame⟩, hS.2.2⟩
  refine st1 _ ?_
  show Steps p.tables e below (T1.setTop (F0 m (pc + 3) ls [.ref T.heap.size])) _
  jvm_step Y1.here [Y1.here.top, hx, hb, d3, Value.category]
  refine Y1.ldcString hx how hstr hev (g := F0 m (pc + 4) ls [.ref T.heap.size, .ref T.heap.size]) rfl (by rw [hb]; exact d4) _ ?_
  exact hsteps
end MTT
end
section
/-! the worlds of a node and of the ledger -/
def sh_No : Nat → mw_H := fun k => [.inr (3, [.inl 0, .inl 0, .inr 15, .inr 20, .inr 1, .inr 5, .inr 8, .inr 10, .inr 12, .inr 14, .inl 1, .inl 1, .inl 0, .inl 0, .inl 0]), .inr (1, [.inr 15, .inr 2, .inr 3, .inr 4, .inl 1]), .inl (0, 48, .inl 0), .inl (1, 48, .inl 1), .inl (1, 48, .inl 1), .inr (0, [.inr 6, .inr 7, .inl 1, .inl 0]), .inl (0, 48, .inl 0), .inl (0, 4, .inl 0), .inr (4, [.inr 9, .inl 0]), .inl (0, 12, .inl 0), .inr (6, [.inr 11]), .inl (0, 192, .inl 0), .inr (6, [.inr 13]), .inl (0, 192, .inl 0), .inl (0, 3, .inl 0), .inr (5, [.inr 16, .inr 17, .inr 18, .inr 19, .inl 0]), .inl (0, 73, .inl 0), .inl (0, 73, .inl 0), .inl (1, 73, .inl 1), .inl (0, 73, .inl 0), .inr (2, [.inl 0, .inr 21, .inl 0]), .inl (0, 2240, .inl 0)].getD k (.inr (0, []))
def sh_Wl : Nat → mw_H := fun k => [.inr (7, [.inl 0, .inr 2, .inr 7, .inr 1, .inl 0, .inl 0, .inl 0]), .inl (3, 4, .inr [9, 24, 39, 54]), .inr (5, [.inr 3, .inr 4, .inr 5, .inr 6, .inl 0]), .inl (0, 73, .inl 0), .inl (0, 73, .inl 0), .inl (1, 73, .inl 1), .inl (0, 73, .inl 0), .inr (2, [.inl 0, .inr 8, .inl 0]), .inl (0, 2240, .inl 0), .inr (3, [.inl 0, .inl 0, .inr 2, .inr 7, .inr 10, .inr 14, .inr 17, .inr 19, .inr 21, .inr 23, .inl 1, .inl 1, .inl 0, .inl 0, .inl 0]), .inr (1, [.inr 2, .inr 11, .inr 12, .inr 13, .inl 1]), .inl (0, 48, .inl 0), .inl (1, 48, .inl 1), .inl (1, 48, .inl 1), .inr (0, [.inr 15, .inr 16, .inl 1, .inl 0]), .inl (0, 48, .inl 0), .inl (0, 4, .inl 0), .inr (4, [.inr 18, .inl 0]), .inl (0, 12, .inl 0), .inr (6, [.inr 20]), .inl (0, 192, .inl 0), .inr (6, [.inr 22]), .inl (0, 192, .inl 0), .inl (0, 3, .inl 0), .inr (3, [.inl 0, .inl 0, .inr 2, .inr 7, .inr 25, .inr 29, .inr 32, .inr 34, .inr 36, .inr 38, .inl 1, .inl 1, .inl 0, .inl 0, .inl 0]), .inr (1, [.inr 2, .inr 26, .inr 27, .inr 28, .inl 1]), .inl (0, 48, .inl 0), .inl (1, 48, .inl 1), .inl (1, 48, .inl 1), .inr (0, [.inr 30, .inr 31, .inl 1, .inl 0]), .inl (0, 48, .inl 0), .inl (0, 4, .inl 0), .inr (4, [.inr 33, .inl 0]), .inl (0, 12, .inl 0), .inr (6, [.inr 35]), .inl (0, 192, .inl 0), .inr (6, [.inr 37]), .inl (0, 192, .inl 0), .inl (0, 3, .inl 0), .inr (3, [.inl 0, .inl 0, .inr 2, .inr 7, .inr 40, .inr 44, .inr 47, .inr 49, .inr 51, .inr 53, .inl 1, .inl 1, .inl 0, .inl 0, .inl 0]), .inr (1, [.inr 2, .inr 41, .inr 42, .inr 43, .inl 1]), .inl (0, 48, .inl 0), .inl (1, 48, .inl 1), .inl (1, 48, .inl 1), .inr (0, [.inr 45, .inr 46, .inl 1, .inl 0]), .inl (0, 48, .inl 0), .inl (0, 4, .inl 0), .inr (4, [.inr 48, .inl 0]), .inl (0, 12, .inl 0), .inr (6, [.inr 50]), .inl (0, 192, .inl 0), .inr (6, [.inr 52]), .inl (0, 192, .inl 0), .inl (0, 3, .inl 0), .inr (3, [.inl 0, .inl 0, .inr 2, .inr 7, .inr 55, .inr 59, .inr 62, .inr 64, .inr 66, .inr 68, .inl 1, .inl 1, .inl 0, .inl 0, .inl 0]), .inr (1, [.inr 2, .inr 56, .inr 57, .inr 58, .inl 1]), .inl (0, 48, .inl 0), .inl (1, 48, .inl 1), .inl (1, 48, .inl 1), .inr (0, [.inr 60, .inr 61, .inl 1, .inl 0]), .inl (0, 48, .inl 0), .inl (0, 4, .inl 0), .inr (4, [.inr 63, .inl 0]), .inl (0, 12, .inl 0), .inr (6, [.inr 65]), .inl (0, 192, .inl 0), .inr (6, [.inr 67]), .inl (0, 192, .inl 0), .inl (0, 3, .inl 0)].getD k (.inr (0, []))
theorem ix_Ve_No : mw_ix sh_Ve 5 sh_No 22 [15, 16, 17, 18, 19] := mw_ix_of (by decide +kernel)
theorem ix_Ma_No : mw_ix sh_Ma 2 sh_No 22 [20, 21] := mw_ix_of (by decide +kernel)
theorem ix_Gr_No : mw_ix sh_Gr 9 sh_No 22 [1, 2, 3, 4, 15, 16, 17, 18, 19] := mw_ix_of (by decide +kernel)
theorem ix_Bo_No : mw_ix sh_Bo 3 sh_No 22 [5, 6, 7] := mw_ix_of (by decide +kernel)
theorem ix_Tq_No : mw_ix sh_Tq 2 sh_No 22 [8, 9] := mw_ix_of (by decide +kernel)
theorem ix_Ve1_No : mw_ix sh_Vo 2 sh_No 22 [10, 11] := mw_ix_of (by decide +kernel)
theorem ix_Ve2_No : mw_ix sh_Vo 2 sh_No 22 [12, 13] := mw_ix_of (by decide +kernel)
theorem ix_No_No : mw_ix sh_No 22 sh_No 22 [0, 1, 2, 3, 4, 5, 6, 7, 8, 9, 10, 11, 12, 13, 14, 15, 16, 17, 18, 19, 20, 21] := mw_ix_of (by decide +kernel)
theorem ix_Ve_Wl : mw_ix sh_Ve 5 sh_Wl 69 [2, 3, 4, 5, 6] := mw_ix_of (by decide +kernel)
theorem ix_Ma_Wl : mw_ix sh_Ma 2 sh_Wl 69 [7, 8] := mw_ix_of (by decide +kernel)
theorem ix_Wl_Wl : mw_ix sh_Wl 69 sh_Wl 69 [0, 1, 2, 3, 4, 5, 6, 7, 8, 9, 10, 11, 12, 13, 14, 15, 16, 17, 18, 19, 20, 21, 22, 23, 24, 25, 26, 27, 28, 29, 30, 31, 32, 33, 34, 35, 36, 37, 38, 39, 40, 41, 42, 43, 44, 45, 46, 47, 48, 49, 50, 51, 52, 53, 54, 55, 56, 57, 58, 59, 60, 61, 62, 63, 64, 65, 66, 67, 68] := mw_ix_of (by decide +kernel)
theorem ix_No0_Wl : mw_ix sh_No 22 sh_Wl 69 [9, 10, 11, 12, 13, 14, 15, 16, 17, 18, 19, 20, 21, 22, 23, 2, 3, 4, 5, 6, 7, 8] := mw_ix_of (by decide +kernel)
theorem ix_Tq0_Wl : mw_ix sh_Tq 2 sh_Wl 69 [17, 18] := mw_ix_of (by decide +kernel)
theorem ix_Gr0_Wl : mw_ix sh_Gr 9 sh_Wl 69 [10, 11, 12, 13, 2, 3, 4, 5, 6] := mw_ix_of (by decide +kernel)
theorem ix_No1_Wl : mw_ix sh_No 22 sh_Wl 69 [24, 25, 26, 27, 28, 29, 30, 31, 32, 33, 34, 35, 36, 37, 38, 2, 3, 4, 5, 6, 7, 8] := mw_ix_of (by decide +kernel)
theorem ix_Tq1_Wl : mw_ix sh_Tq 2 sh_Wl 69 [32, 33] := mw_ix_of (by decide +kernel)
theorem ix_Gr1_Wl : mw_ix sh_Gr 9 sh_Wl 69 [25, 26, 27, 28, 2, 3, 4, 5, 6] := mw_ix_of (by decide +kernel)
theorem ix_No2_Wl : mw_ix sh_No 22 sh_Wl 69 [39, 40, 41, 42, 43, 44, 45, 46, 47, 48, 49, 50, 51, 52, 53, 2, 3, 4, 5, 6, 7, 8] := mw_ix_of (by decide +kernel)
theorem ix_Tq2_Wl : mw_ix sh_Tq 2 sh_Wl 69 [47, 48] := mw_ix_of (by decide +kernel)
theorem ix_Gr2_Wl : mw_ix sh_Gr 9 sh_Wl 69 [40, 41, 42, 43, 2, 3, 4, 5, 6] := mw_ix_of (by decide +kernel)
theorem ix_No3_Wl : mw_ix sh_No 22 sh_Wl 69 [54, 55, 56, 57, 58, 59, 60, 61, 62, 63, 64, 65, 66, 67, 68, 2, 3, 4, 5, 6, 7, 8] := mw_ix_of (by decide +kernel)
theorem ix_Tq3_Wl : mw_ix sh_Tq 2 sh_Wl 69 [62, 63] := mw_ix_of (by decide +kernel)
theorem ix_Gr3_Wl : mw_ix sh_Gr 9 sh_Wl 69 [55, 56, 57, 58, 2, 3, 4, 5, 6] := mw_ix_of (by decide +kernel)
end
section
/-! the ledger's small methods -/
set_option maxHeartbeats 4000000 in
set_option maxRecDepth 100000 in
theorem m_Wl_isActive (l : Launch) (D : va_G) (cA : Nat → ClassId) (x : Int32) (S : mw_S) : mw_M false l lw_tbl y_Wl_isActive b_Wl_isActive 2 (some .boolean) { frames := 1, cells := 0, slots := 0, locals := 20 } D vCl cA sh_Wl 69 [.inr (.inr 0), .inl x] (S) (mw_Pi (fun r _ => (r = nI 1 ∧ ∃ k, k < 4 ∧ x = nI k ∧ ¬ x = S.1 0 0) ∨ (r = nI 0 ∧ ¬ ∃ k, k < 4 ∧ x = nI k ∧ ¬ x = S.1 0 0))) := by
  refine mw_M_of (by decide) (Nat.le_of_ble_eq_true rfl) ?_
  intro p e s m args below meth c A ad C hR
  refine mw_iload_n C 1 d_Wl_isActive_0 rfl rfl ?_
  refine mw_run0i C (ix0 _ _) (mw_invS C (m_Wl_isNode l D cA x _) (ix0 _ _) kb_Wl_9 ws_Wl_isNode d_Wl_isActive_1 rfl rfl (Nat.le_of_ble_eq_true rfl) rfl rfl ⟨by decide, by decide⟩ ⟨Nat.zero_le _, Nat.zero_le _⟩) (fun x1 e1 => ?_)
  rcases e1 with ⟨rfl, hk⟩ | ⟨rfl, hk⟩
  ·
    refine mw_if_eqN C 19 d_Wl_isActive_4 (by decide) (by omega) (fun h4 => ?_) (fun h4 => ?_)
    · exact absurd h4 (by decide)
    ·
      refine mw_iload_n C 1 d_Wl_isActive_7 rfl rfl ?_
      refine mw_aload_n C 0 d_Wl_isActive_8 rfl rfl ?_
      refine mw_geti C f_Wl_26 d_Wl_isActive_9 (by decide) rfl rfl ?_
      refine mw_icmp_eq C 19 d_Wl_isActive_12 (by decide) (fun h12 => ?_) (fun h12 => ?_)
      ·
        refine mw_iconst C (v := nI 0) d_Wl_isActive_19 (by decide) ?_
        refine mw_zret C hR d_Wl_isActive_20 (by decide) ?_
        exact Or.inr ⟨rfl, fun ⟨k, _, _, h⟩ => h h12⟩
      ·
        refine mw_iconst C (v := nI 1) d_Wl_isActive_15 (by decide) ?_
        refine mw_goto C 20 d_Wl_isActive_16 (by decide) ?_
        refine mw_zret C hR d_Wl_isActive_20 (by decide) ?_
        obtain ⟨k, hk1, hk2⟩ := hk
        exact Or.inl ⟨rfl, k, hk1, hk2, h12⟩
  ·
    refine mw_if_eqN C 19 d_Wl_isActive_4 (by decide) (by omega) (fun h4 => ?_) (fun h4 => ?_)
    ·
      refine mw_iconst C (v := nI 0) d_Wl_isActive_19 (by decide) ?_
      refine mw_zret C hR d_Wl_isActive_20 (by decide) ?_
      exact Or.inr ⟨rfl, fun ⟨k, h1, h2, _⟩ => hk ⟨k, h1, h2⟩⟩
    · exact absurd h4 (by decide)
def tOK (x : Int32) : Prop := x = 0 ∨ ∃ t, x = nI t ∧ 1000 ≤ t ∧ t < 100000 ∧ t % 1000 / 10 < 4 ∧ t % 10 < 4
theorem neg_div {x : Int32} (h : x < 0) : x / nI 1000 < nI 1 := by
  rw [Int32.lt_iff_toInt_lt] at h ⊢
  have h1 := Int32.le_toInt x
  have e0 : (0 : Int32).toInt = 0 := by decide
  have e1 : (nI 1).toInt = 1 := by decide
  have e2 : (nI 1000).toInt = 1000 := by decide
  rw [e0] at h
  rw [e1, Int32.toInt_div, e2]
  have h2 : (-2147483648 : Int) ≤ x.toInt := h1
  have h3 : x.toInt.tdiv 1000 = -((-x.toInt) / 1000) := by
    rw [← Int.neg_neg x.toInt, Int.neg_tdiv, Int.tdiv_eq_ediv_of_nonneg (by omega), Int.neg_neg]
  rw [h3, Int.bmod_def]
  omega
set_option maxHeartbeats 4000000 in
set_option maxRecDepth 100000 in
theorem m_Wl_isTransferOrNone (l : Launch) (D : va_G) (cA : Nat → ClassId) (x : Int32) (S : mw_S) : mw_M false l lw_tbl y_Wl_isTransferOrNone b_Wl_isTransferOrNone 2 (some .boolean) { frames := 1, cells := 0, slots := 0, locals := 20 } D vCl cA sh0 0 [.inl x] (S) (mw_Pi (fun r _ => (r = nI 1 ∧ tOK x) ∨ (r = nI 0 ∧ ¬ tOK x))) := by
  refine mw_M_of (by decide) (Nat.le_of_ble_eq_true rfl) ?_
  intro p e s m args below meth c A ad C hR
  refine mw_iload_n C 0 d_Wl_isTransferOrNone_0 rfl rfl ?_
  refine mw_if_ne C 6 d_Wl_isTransferOrNone_1 (by decide) (fun h1 => ?_) (fun h1 => ?_)
  ·
    by_cases hx : x < 0
    ·
      have hno : ¬ tOK x := by
        rintro (h | ⟨t, h, -, ht, -⟩)
        · exact h1 h
        · rw [h] at hx; exact nI_pos (by omega) hx
      refine mw_iload_n C 0 d_Wl_isTransferOrNone_6 rfl rfl ?_
      refine mw_sipush C (v := nI 1000) d_Wl_isTransferOrNone_7 (by decide) ?_
      refine mw_idiv C d_Wl_isTransferOrNone_10 (by decide) ?_
      refine mw_istore_n C 1 d_Wl_isTransferOrNone_11 rfl (by decide) ?_
      refine mw_iload_n C 1 d_Wl_isTransferOrNone_12 rfl rfl ?_
      refine mw_iconst C (v := nI 1) d_Wl_isTransferOrNone_13 (by decide) ?_
      refine mw_icmp_lt C 47 d_Wl_isTransferOrNone_14 (by decide) (fun h14 => ?_) (fun h14 => ?_)
      ·
        refine mw_iconst C (v := nI 0) d_Wl_isTransferOrNone_47 (by decide) ?_
        refine mw_zret C hR d_Wl_isTransferOrNone_48 (by decide) ?_
        exact Or.inr ⟨rfl, hno⟩
      · exact absurd (neg_div hx) h14
    ·
      obtain ⟨t, ht, rfl⟩ := nI_of hx
      have hcon : ¬ (1000 ≤ t ∧ t < 100000 ∧ t % 1000 / 10 < 4 ∧ t % 10 < 4) → ¬ tOK (nI t) := by
        rintro h (h0 | ⟨t', h0, h2, h3, h4, h5⟩)
        · exact h1 h0
        · rw [(nI_eq ht (by omega)).mp h0] at h
          exact h ⟨h2, h3, h4, h5⟩
      refine mw_iload_n C 0 d_Wl_isTransferOrNone_6 rfl rfl ?_
      refine mw_sipush C (v := nI 1000) d_Wl_isTransferOrNone_7 (by decide) ?_
      refine mw_idivN C d_Wl_isTransferOrNone_10 (by omega) (by decide) (by decide) ?_
      refine mw_istore_n C 1 d_Wl_isTransferOrNone_11 rfl (by decide) ?_
      refine mw_iload_n C 1 d_Wl_isTransferOrNone_12 rfl rfl ?_
      refine mw_iconst C (v := nI 1) d_Wl_isTransferOrNone_13 (by decide) ?_
      refine mw_icmp_ltN C 47 d_Wl_isTransferOrNone_14 (by decide) (by omega) (by omega) (fun h14 => ?_) (fun h14 => ?_)
      ·
        refine mw_iconst C (v := nI 0) d_Wl_isTransferOrNone_47 (by decide) ?_
        refine mw_zret C hR d_Wl_isTransferOrNone_48 (by decide) ?_
        exact Or.inr ⟨rfl, hcon (by omega)⟩
      ·
        refine mw_iload_n C 1 d_Wl_isTransferOrNone_17 rfl rfl ?_
        refine mw_bipush C (v := nI 99) d_Wl_isTransferOrNone_18 (by decide) ?_
        refine mw_icmp_gtN C 47 d_Wl_isTransferOrNone_20 (by decide) (by omega) (by omega) (fun h20 => ?_) (fun h20 => ?_)
        ·
          refine mw_iconst C (v := nI 0) d_Wl_isTransferOrNone_47 (by decide) ?_
          refine mw_zret C hR d_Wl_isTransferOrNone_48 (by decide) ?_
          exact Or.inr ⟨rfl, hcon (by omega)⟩
        ·
          refine mw_iload_n C 0 d_Wl_isTransferOrNone_23 rfl rfl ?_
          refine mw_run0i C (ix0 _ _) (mw_invS C (m_Wl_payerOf l D cA t ht _) (ix0 _ _) kb_Wl_211 ws_Wl_payerOf d_Wl_isTransferOrNone_24 rfl rfl (Nat.le_of_ble_eq_true rfl) rfl rfl ⟨by decide, by decide⟩ ⟨Nat.zero_le _, Nat.zero_le _⟩) (fun x24 e24 => ?_)
          subst e24
          refine mw_run0i C (ix0 _ _) (mw_invS C (m_Wl_isAccount l D cA _ _) (ix0 _ _) kb_Wl_48 ws_Wl_isAccount d_Wl_isTransferOrNone_27 rfl rfl (Nat.le_of_ble_eq_true rfl) rfl rfl ⟨by decide, by decide⟩ ⟨Nat.zero_le _, Nat.zero_le _⟩) (fun x27 e27 => ?_)
          rcases e27 with ⟨rfl, k, hk, hke⟩ | ⟨rfl, hk⟩
          ·
            have hk2 := (nI_eq (by omega) (by omega)).mp hke
            refine mw_if_eqN C 47 d_Wl_isTransferOrNone_30 (by decide) (by omega) (fun h30 => ?_) (fun h30 => ?_)
            · exact absurd h30 (by decide)
            ·
              refine mw_iload_n C 0 d_Wl_isTransferOrNone_33 rfl rfl ?_
              refine mw_run0i C (ix0 _ _) (mw_invS C (m_Wl_payeeOf l D cA t ht _) (ix0 _ _) kb_Wl_214 ws_Wl_payeeOf d_Wl_isTransferOrNone_34 rfl rfl (Nat.le_of_ble_eq_true rfl) rfl rfl ⟨by decide, by decide⟩ ⟨Nat.zero_le _, Nat.zero_le _⟩) (fun x34 e34 => ?_)
              subst e34
              refine mw_run0i C (ix0 _ _) (mw_invS C (m_Wl_isAccount l D cA _ _) (ix0 _ _) kb_Wl_48 ws_Wl_isAccount d_Wl_isTransferOrNone_37 rfl rfl (Nat.le_of_ble_eq_true rfl) rfl rfl ⟨by decide, by decide⟩ ⟨Nat.zero_le _, Nat.zero_le _⟩) (fun x37 e37 => ?_)
              rcases e37 with ⟨rfl, k3, hk3, hke3⟩ | ⟨rfl, hk3⟩
              ·
                have hk4 := (nI_eq (by omega) (by omega)).mp hke3
                refine mw_if_eqN C 47 d_Wl_isTransferOrNone_40 (by decide) (by omega) (fun h40 => ?_) (fun h40 => ?_)
                · exact absurd h40 (by decide)
                ·
                  refine mw_iconst C (v := nI 1) d_Wl_isTransferOrNone_43 (by decide) ?_
                  refine mw_goto C 48 d_Wl_isTransferOrNone_44 (by decide) ?_
                  refine mw_zret C hR d_Wl_isTransferOrNone_48 (by decide) ?_
                  exact Or.inl ⟨rfl, Or.inr ⟨t, rfl, by omega, by omega, by omega, by omega⟩⟩
              ·
                refine mw_if_eqN C 47 d_Wl_isTransferOrNone_40 (by decide) (by omega) (fun h40 => ?_) (fun h40 => ?_)
                ·
                  refine mw_iconst C (v := nI 0) d_Wl_isTransferOrNone_47 (by decide) ?_
                  refine mw_zret C hR d_Wl_isTransferOrNone_48 (by decide) ?_
                  exact Or.inr ⟨rfl, hcon (fun h => hk3 ⟨t % 10, h.2.2.2, rfl⟩)⟩
                · exact absurd h40 (by decide)
          ·
            refine mw_if_eqN C 47 d_Wl_isTransferOrNone_30 (by decide) (by omega) (fun h30 => ?_) (fun h30 => ?_)
            ·
              refine mw_iconst C (v := nI 0) d_Wl_isTransferOrNone_47 (by decide) ?_
              refine mw_zret C hR d_Wl_isTransferOrNone_48 (by decide) ?_
              exact Or.inr ⟨rfl, hcon (fun h => hk ⟨t % 1000 / 10, h.2.2.1, rfl⟩)⟩
            · exact absurd h30 (by decide)
  ·
    refine mw_iconst C (v := nI 1) d_Wl_isTransferOrNone_4 (by decide) ?_
    refine mw_zret C hR d_Wl_isTransferOrNone_5 (by decide) ?_
    exact Or.inl ⟨rfl, Or.inl h1⟩
end
section
/-! words for the throws -/
theorem wl_51 : Cond.classLink "WaveLedger" 51 "java/lang/IllegalArgumentException" ∈ mw_G lw_tbl := mw_G_in 507 (by decide +kernel) rfl
theorem wl_70 : Cond.classLink "WaveLedger" 70 "java/lang/IllegalStateException" ∈ mw_G lw_tbl := mw_G_in 579 (by decide +kernel) rfl
theorem wn_IAE : Cond.instantiable "java/lang/IllegalArgumentException" 6 ∈ mw_G lw_tbl := mw_G_in 508 (by decide +kernel) rfl
theorem wn_ISE : Cond.instantiable "java/lang/IllegalStateException" 6 ∈ mw_G lw_tbl := mw_G_in 580 (by decide +kernel) rfl
theorem wz_IAE : Cond.initialized "java/lang/IllegalArgumentException" ∈ mw_G lw_tbl := mw_G_in 49 (by decide +kernel) rfl
theorem wz_ISE : Cond.initialized "java/lang/IllegalStateException" ∈ mw_G lw_tbl := mw_G_in 50 (by decide +kernel) rfl
theorem wlL_13 : Cond.classLink "WaveLedgerLaw" 13 "java/lang/IllegalArgumentException" ∈ mw_G lw_tbl := mw_G_in 498 (by decide +kernel) rfl
theorem wlL_15 : Cond.classLink "WaveLedgerLaw" 15 "java/lang/IllegalStateException" ∈ mw_G lw_tbl := mw_G_in 499 (by decide +kernel) rfl
theorem wca_IAE : Cond.castable "java/lang/IllegalArgumentException" "java/lang/IllegalArgumentException" ∈ mw_N lw_tbl := mw_N_in 509 (by decide +kernel) rfl
theorem wca_ISE : Cond.castable "java/lang/IllegalStateException" "java/lang/IllegalStateException" ∈ mw_N lw_tbl := mw_N_in 581 (by decide +kernel) rfl
set_option maxRecDepth 100000 in
theorem wcw_La_transfer : Cond.codeWith y_La_transfer b_La_transfer 7 (some .int) [(0, 14, 17, 13), (0, 14, 21, 15)] ∈ mw_G lw_tbl := mw_G_in 497 (by rfl) rfl
set_option maxRecDepth 100000 in
theorem wcw_La_run : Cond.codeWith y_La_run b_La_run 4 (some .int) [(0, 9, 12, 13)] ∈ mw_G lw_tbl := mw_G_in 601 (by rfl) rfl
set_option maxRecDepth 100000 in
theorem wcw_La_forge : Cond.codeWith y_La_forge b_La_forge 8 (some .int) [(0, 14, 17, 13), (0, 14, 21, 15)] ∈ mw_G lw_tbl := mw_G_in 610 (by rfl) rfl
set_option maxRecDepth 100000 in
theorem wcw_La_whisper : Cond.codeWith y_La_whisper b_La_whisper 6 (some .int) [(0, 12, 15, 13), (0, 12, 19, 15)] ∈ mw_G lw_tbl := mw_G_in 628 (by rfl) rfl
set_option maxRecDepth 100000 in
theorem at_IAE : mt_At lw_tbl "WaveLedger" 55 "java/lang/IllegalArgumentException" := by unfold mt_At; decide +kernel
set_option maxRecDepth 100000 in
theorem at_ISE : mt_At lw_tbl "WaveLedger" 74 "java/lang/IllegalStateException" := by unfold mt_At; decide +kernel
end
section
/-! the class's calls that are refused -/
def mt_M (l : Launch) (tb : List Cond) (y : MethodName) (cc : ByteArray) (maxL : Nat) (ret : Option FieldType) (rm : Room) (D : va_G) (cl : List vw_C) (cA : Nat → ClassId) (sh : Nat → mw_H) (n : Nat) (as : List mw_V) (S : mw_S) (bd : Nat) (X : String) : Prop :=
  ∀ (ad : Nat → Nat) (sz : Nat), mt_Met l y (Cond.code y cc maxL ret :: mw_G tb) rm (fun v U => mw_Pc D cl cA tb ad sh n sz as S v U ∧ mt_X bd U) (mt_Qc X) 1 6 (mw_fr false (mw_W cA ad sh n S) sz)
theorem mt_M_of {l : Launch} {y : MethodName} {tb : List Cond} {rm : Room} {D : va_G} {cl : List vw_C} {cA : Nat → ClassId} {sh : Nat → mw_H} {n : Nat} {as : List mw_V} {S : mw_S} {cc : ByteArray} {maxL bd : Nat} {ret : Option FieldType} {X : String}
    (hy : plainName y.cls = true) (hlen : mw_words as ≤ maxL)
    (body : ∀ (p : Program) (e : Env) (s : State) (m : MethodId) (args : Array Value) (below : List Frame) (meth : Method) (c : Code) (A : Nat → Prop) (ad : Nat → Nat), mw_C p m c s args cc maxL y.cls (Cond.code y cc maxL ret) tb D cl cA A ad n false → (meth.locks = false ∧ c.exceptionTable.isEmpty = true ∧ mt_X bd s ∧ ∀ q, A q → s.heap.size ≤ q) →
      mw p l e rm s m args below meth c (mt_MQ below (mt_Qc X) args s 1 6 A) 0 0 D cl cA A ad sh n maxL 0 (mw_args 0 as) [] S) : mt_M l tb y cc maxL ret rm D cl cA sh n as S bd X := by
  intro ad sz
  refine mt_ofW (cc := cc) (maxL := maxL) (ret := ret) hy rfl ?_
  intro p e s m args below meth c s₁ B hml hv
  obtain ⟨⟨rfl, hsz, hP, hK, hN, hi⟩, hX⟩ := hv
  subst hsz
  have hts := atoms_spec (ws := Cond.code y cc maxL ret :: mw_G tb) B.pre
  have hown : s.vm.findClass y.cls = some m.cls := findClass_of_methodNamed B.named
  have hl := lv_entry (as.map (mw_tv ad)) (n := maxL) (by rw [mw_words_len]; exact hlen)
  rw [mw_args_map] at hl
  rw [lg_entry_eq]
  exact body p e s m _ below meth c _ ad ⟨⟨B.exec, B.bytes, hml, hown, hts⟩, hN, hK, fun q h => Or.inr h, hi, fun hw => by cases hw⟩ ⟨B.notSynchronized, B.noHandlers (hts _ List.mem_cons_self), hX, fun q h => by
    rcases h with ⟨h, -⟩ | h
    · cases h
    · exact h⟩ s.heap [] _ hP va_S.rf hl
def wIsN (x : Int32) : Prop := ∃ k, k < 4 ∧ x = nI k
def wAct (S : mw_S) (x : Int32) : Prop := ∃ k, k < 4 ∧ x = nI k ∧ ¬ x = S.1 0 0
def wIn (lo hi : Nat) (x : Int32) : Prop := ∃ a, lo ≤ a ∧ a ≤ hi ∧ x = nI a
theorem wIn_of {x : Int32} {hi : Nat} (hh : hi < 2 ^ 31) (h1 : ¬ x < nI 1) (h2 : x ≤ nI hi) : wIn 1 hi x := by
  have h0 : ¬ x < 0 := fun h => h1 (Int32.lt_trans h (by decide))
  obtain ⟨j, hj, rfl⟩ := nI_of2 (nI_toInt hh) h0 h2
  exact ⟨j, Nat.not_lt.mp (fun h => h1 (nI_lt h (by decide))), hj, rfl⟩
theorem wIn0_of {x : Int32} {hi : Nat} (hh : hi < 2 ^ 31) (h1 : ¬ x < 0) (h2 : x ≤ nI hi) : wIn 0 hi x := by
  obtain ⟨j, hj, rfl⟩ := nI_of2 (nI_toInt hh) h1 h2
  exact ⟨j, Nat.zero_le _, hj, rfl⟩
set_option maxHeartbeats 4000000 in
set_option maxRecDepth 100000 in
theorem mt_Wl_transfer_IAE (l : Launch) (htr : l.stackTraces = false) (D : va_G) (cA : Nat → ClassId) (bd : Nat) (x1 x2 x3 x4 : Int32) (S : mw_S) (h : ¬ (wAct S x1 ∧ wIsN x2 ∧ wIsN x3 ∧ wIn 1 99 x4)) : mt_M l lw_tbl y_Wl_transfer b_Wl_transfer 6 (some .int) { frames := 6, cells := 1, slots := 6, locals := 82 } D vCl cA sh_Wl 69 [.inr (.inr 0), .inl x1, .inl x2, .inl x3, .inl x4] (S) bd "java/lang/IllegalArgumentException" := by
  refine mt_M_of (by decide) (Nat.le_of_ble_eq_true rfl) ?_
  intro p e s m args below meth c A ad C hE
  refine mw_aload_n C 0 d_Wl_transfer_0 rfl rfl ?_
  refine mw_iload_n C 1 d_Wl_transfer_1 rfl rfl ?_
  refine mw_run0i C ix_Wl_Wl (mw_invV C (kk := 0) (m_Wl_isActive l D cA x1 _) ix_Wl_Wl kb_Wl_45 wm_Wl_isActive wv_Wl_isActive (by decide) rfl rfl d_Wl_transfer_2 rfl rfl (Nat.le_of_ble_eq_true rfl) rfl rfl ⟨by decide, by decide⟩ ⟨Nat.zero_le _, Nat.zero_le _⟩) (fun x2 e2 => ?_)
  rcases e2 with ⟨rfl, hk1⟩ | ⟨rfl, hk1⟩
  ·
    refine mw_if_eqN C 22 d_Wl_transfer_5 (by decide) (by omega) (fun h5 => ?_) (fun h5 => ?_)
    · exact absurd h5 (by decide)
    ·
      refine mw_iload_n C 2 d_Wl_transfer_8 rfl rfl ?_
      refine mw_run0i C (ix0 _ _) (mw_invS C (m_Wl_isAccount l D cA x2 _) (ix0 _ _) kb_Wl_48 ws_Wl_isAccount d_Wl_transfer_9 rfl rfl (Nat.le_of_ble_eq_true rfl) rfl rfl ⟨by decide, by decide⟩ ⟨Nat.zero_le _, Nat.zero_le _⟩) (fun x9 e9 => ?_)
      rcases e9 with ⟨rfl, hk2⟩ | ⟨rfl, hk2⟩
      ·
        refine mw_if_eqN C 22 d_Wl_transfer_12 (by decide) (by omega) (fun h12 => ?_) (fun h12 => ?_)
        · exact absurd h12 (by decide)
        ·
          refine mw_iload_n C 3 d_Wl_transfer_15 rfl rfl ?_
          refine mw_run0i C (ix0 _ _) (mw_invS C (m_Wl_isAccount l D cA x3 _) (ix0 _ _) kb_Wl_48 ws_Wl_isAccount d_Wl_transfer_16 rfl rfl (Nat.le_of_ble_eq_true rfl) rfl rfl ⟨by decide, by decide⟩ ⟨Nat.zero_le _, Nat.zero_le _⟩) (fun x16 e16 => ?_)
          rcases e16 with ⟨rfl, hk3⟩ | ⟨rfl, hk3⟩
          ·
            refine mw_if_neN C 32 d_Wl_transfer_19 (by decide) (by omega) (fun h19 => ?_) (fun h19 => ?_)
            ·
              refine mw_iload C d_Wl_transfer_32 rfl ?_
              refine mw_iconst C (v := nI 1) d_Wl_transfer_34 (by decide) ?_
              refine mw_icmp_lt C 45 d_Wl_transfer_35 (by decide) (fun h35 => ?_) (fun h35 => ?_)
              ·
                exact mt_throw C (X := "java/lang/IllegalArgumentException") (is := 58) htr hE.2.2.2 hE.1 hE.2.1 hE.2.2.1 rfl (List.mem_of_getElem? (i := 1) rfl) wl_51 wn_IAE wz_IAE at_IAE (by decide +kernel) d_Wl_transfer_45 d_Wl_transfer_48 d_Wl_transfer_49 d_Wl_transfer_51 d_Wl_transfer_54 (by decide) (by decide) (by decide) (by decide)
              ·
                refine mw_iload C d_Wl_transfer_38 rfl ?_
                refine mw_bipush C (v := nI 99) d_Wl_transfer_40 (by decide) ?_
                refine mw_icmp_le C 55 d_Wl_transfer_42 (by decide) (fun h42 => ?_) (fun h42 => ?_)
                · exact absurd ⟨hk1, hk2, hk3, wIn_of (by decide) h35 h42⟩ h
                ·
                  exact mt_throw C (X := "java/lang/IllegalArgumentException") (is := 58) htr hE.2.2.2 hE.1 hE.2.1 hE.2.2.1 rfl (List.mem_of_getElem? (i := 1) rfl) wl_51 wn_IAE wz_IAE at_IAE (by decide +kernel) d_Wl_transfer_45 d_Wl_transfer_48 d_Wl_transfer_49 d_Wl_transfer_51 d_Wl_transfer_54 (by decide) (by decide) (by decide) (by decide)
            · exact absurd h19 (by decide)
          ·
            refine mw_if_neN C 32 d_Wl_transfer_19 (by decide) (by omega) (fun h19 => ?_) (fun h19 => ?_)
            · exact absurd h19 (by decide)
            ·
              exact mt_throw C (X := "java/lang/IllegalArgumentException") (is := 53) htr hE.2.2.2 hE.1 hE.2.1 hE.2.2.1 rfl (List.mem_of_getElem? (i := 0) rfl) wl_51 wn_IAE wz_IAE at_IAE (by decide +kernel) d_Wl_transfer_22 d_Wl_transfer_25 d_Wl_transfer_26 d_Wl_transfer_28 d_Wl_transfer_31 (by decide) (by decide) (by decide) (by decide)
      ·
        refine mw_if_eqN C 22 d_Wl_transfer_12 (by decide) (by omega) (fun h12 => ?_) (fun h12 => ?_)
        ·
          exact mt_throw C (X := "java/lang/IllegalArgumentException") (is := 53) htr hE.2.2.2 hE.1 hE.2.1 hE.2.2.1 rfl (List.mem_of_getElem? (i := 0) rfl) wl_51 wn_IAE wz_IAE at_IAE (by decide +kernel) d_Wl_transfer_22 d_Wl_transfer_25 d_Wl_transfer_26 d_Wl_transfer_28 d_Wl_transfer_31 (by decide) (by decide) (by decide) (by decide)
        · exact absurd h12 (by decide)
  ·
    refine mw_if_eqN C 22 d_Wl_transfer_5 (by decide) (by omega) (fun h5 => ?_) (fun h5 => ?_)
    ·
      exact mt_throw C (X := "java/lang/IllegalArgumentException") (is := 53) htr hE.2.2.2 hE.1 hE.2.1 hE.2.2.1 rfl (List.mem_of_getElem? (i := 0) rfl) wl_51 wn_IAE wz_IAE at_IAE (by decide +kernel) d_Wl_transfer_22 d_Wl_transfer_25 d_Wl_transfer_26 d_Wl_transfer_28 d_Wl_transfer_31 (by decide) (by decide) (by decide) (by decide)
    · exact absurd h5 (by decide)
set_option maxHeartbeats 4000000 in
set_option maxRecDepth 100000 in
theorem mt_Wl_transfer_ISE (l : Launch) (htr : l.stackTraces = false) (D : va_G) (cA : Nat → ClassId) (bd : Nat) (x1 x2 x3 x4 : Int32) (S : mw_S) (k1 cn : Nat) (hk : k1 < 4) (he : x1 = nI k1) (hne : ¬ x1 = S.1 0 0) (h2 : wIsN x2) (h3 : wIsN x3) (h4 : wIn 1 99 x4) (hc : S.1 (9 + 15 * k1 + 8) 1 = nI cn) (hc1 : 12 ≤ cn) (hc2 : cn < 2 ^ 31) : mt_M l lw_tbl y_Wl_transfer b_Wl_transfer 6 (some .int) { frames := 6, cells := 1, slots := 6, locals := 82 } D vCl cA sh_Wl 69 [.inr (.inr 0), .inl x1, .inl x2, .inl x3, .inl x4] (S) bd "java/lang/IllegalStateException" := by
  refine mt_M_of (by decide) (Nat.le_of_ble_eq_true rfl) ?_
  intro p e s m args below meth c A ad C hE
  refine mw_aload_n C 0 d_Wl_transfer_0 rfl rfl ?_
  refine mw_iload_n C 1 d_Wl_transfer_1 rfl rfl ?_
  refine mw_run0i C ix_Wl_Wl (mw_invV C (kk := 0) (m_Wl_isActive l D cA x1 _) ix_Wl_Wl kb_Wl_45 wm_Wl_isActive wv_Wl_isActive (by decide) rfl rfl d_Wl_transfer_2 rfl rfl (Nat.le_of_ble_eq_true rfl) rfl rfl ⟨by decide, by decide⟩ ⟨Nat.zero_le _, Nat.zero_le _⟩) (fun x2 e2 => ?_)
  rcases e2 with ⟨rfl, hk1⟩ | ⟨rfl, hk1⟩
  ·
    refine mw_if_eqN C 22 d_Wl_transfer_5 (by decide) (by omega) (fun h5 => ?_) (fun h5 => ?_)
    · exact absurd h5 (by decide)
    ·
      refine mw_iload_n C 2 d_Wl_transfer_8 rfl rfl ?_
      refine mw_run0i C (ix0 _ _) (mw_invS C (m_Wl_isAccount l D cA x2 _) (ix0 _ _) kb_Wl_48 ws_Wl_isAccount d_Wl_transfer_9 rfl rfl (Nat.le_of_ble_eq_true rfl) rfl rfl ⟨by decide, by decide⟩ ⟨Nat.zero_le _, Nat.zero_le _⟩) (fun x9 e9 => ?_)
      rcases e9 with ⟨rfl, hk2⟩ | ⟨rfl, hk2⟩
      ·
        refine mw_if_eqN C 22 d_Wl_transfer_12 (by decide) (by omega) (fun h12 => ?_) (fun h12 => ?_)
        · exact absurd h12 (by decide)
        ·
          refine mw_iload_n C 3 d_Wl_transfer_15 rfl rfl ?_
          refine mw_run0i C (ix0 _ _) (mw_invS C (m_Wl_isAccount l D cA x3 _) (ix0 _ _) kb_Wl_48 ws_Wl_isAccount d_Wl_transfer_16 rfl rfl (Nat.le_of_ble_eq_true rfl) rfl rfl ⟨by decide, by decide⟩ ⟨Nat.zero_le _, Nat.zero_le _⟩) (fun x16 e16 => ?_)
          rcases e16 with ⟨rfl, hk3⟩ | ⟨rfl, hk3⟩
          ·
            refine mw_if_neN C 32 d_Wl_transfer_19 (by decide) (by omega) (fun h19 => ?_) (fun h19 => ?_)
            ·
              obtain ⟨a, ha1, ha2, rfl⟩ := h4
              refine mw_iload C d_Wl_transfer_32 rfl ?_
              refine mw_iconst C (v := nI 1) d_Wl_transfer_34 (by decide) ?_
              refine mw_icmp_ltN C 45 d_Wl_transfer_35 (by decide) (by omega) (by omega) (fun h35 => ?_) (fun h35 => ?_)
              · exfalso; omega
              ·
                refine mw_iload C d_Wl_transfer_38 rfl ?_
                refine mw_bipush C (v := nI 99) d_Wl_transfer_40 (by decide) ?_
                refine mw_icmp_leN C 55 d_Wl_transfer_42 (by decide) (by omega) (by omega) (fun h42 => ?_) (fun h42 => ?_)
                ·
                  subst he
                  obtain rfl | rfl | rfl | rfl : k1 = 0 ∨ k1 = 1 ∨ k1 = 2 ∨ k1 = 3 := by omega
                  ·
                    refine mw_aload_n C 0 d_Wl_transfer_55 rfl rfl ?_
                    refine mw_getr C f_Wl_38 d_Wl_transfer_56 (by decide) rfl rfl ?_
                    refine mw_iload_n C 1 d_Wl_transfer_59 rfl rfl ?_
                    refine mw_aaldN C d_Wl_transfer_60 (by decide) rfl (by omega) (by decide) rfl ?_
                    refine mw_getr C f_Wl_60 d_Wl_transfer_61 (by decide) rfl rfl ?_
                    refine mw_astore C d_Wl_transfer_64 (by decide) ?_
                    refine mw_aload C d_Wl_transfer_66 rfl ?_
                    refine mw_run0i C ix_Tq0_Wl (mw_invV C (kk := 0) (m_Tq_isFull l D cA _ cn hc2 hc) ix_Tq0_Wl kb_Wl_64 wm_Tq_isFull wv_Tq_isFull (by decide) rfl rfl d_Wl_transfer_68 rfl rfl (Nat.le_of_ble_eq_true rfl) rfl rfl ⟨by decide, by decide⟩ ⟨Nat.zero_le _, Nat.zero_le _⟩) (fun x68 e68 => ?_)
                    rcases e68 with ⟨rfl, hf⟩ | ⟨rfl, hf⟩
                    ·
                      refine mw_if_eqN C 84 d_Wl_transfer_71 (by decide) (by omega) (fun h71 => ?_) (fun h71 => ?_)
                      · exact absurd h71 (by decide)
                      ·
                        exact mt_throw C (X := "java/lang/IllegalStateException") (is := 72) htr hE.2.2.2 hE.1 hE.2.1 hE.2.2.1 rfl (List.mem_of_getElem? (i := 2) rfl) wl_70 wn_ISE wz_ISE at_ISE (by decide +kernel) d_Wl_transfer_74 d_Wl_transfer_77 d_Wl_transfer_78 d_Wl_transfer_80 d_Wl_transfer_83 (by decide) (by decide) (by decide) (by decide)
                    · exfalso; omega
                  ·
                    refine mw_aload_n C 0 d_Wl_transfer_55 rfl rfl ?_
                    refine mw_getr C f_Wl_38 d_Wl_transfer_56 (by decide) rfl rfl ?_
                    refine mw_iload_n C 1 d_Wl_transfer_59 rfl rfl ?_
                    refine mw_aaldN C d_Wl_transfer_60 (by decide) rfl (by omega) (by decide) rfl ?_
                    refine mw_getr C f_Wl_60 d_Wl_transfer_61 (by decide) rfl rfl ?_
                    refine mw_astore C d_Wl_transfer_64 (by decide) ?_
                    refine mw_aload C d_Wl_transfer_66 rfl ?_
                    refine mw_run0i C ix_Tq1_Wl (mw_invV C (kk := 0) (m_Tq_isFull l D cA _ cn hc2 hc) ix_Tq1_Wl kb_Wl_64 wm_Tq_isFull wv_Tq_isFull (by decide) rfl rfl d_Wl_transfer_68 rfl rfl (Nat.le_of_ble_eq_true rfl) rfl rfl ⟨by decide, by decide⟩ ⟨Nat.zero_le _, Nat.zero_le _⟩) (fun x68 e68 => ?_)
                    rcases e68 with ⟨rfl, hf⟩ | ⟨rfl, hf⟩
                    ·
                      refine mw_if_eqN C 84 d_Wl_transfer_71 (by decide) (by omega) (fun h71 => ?_) (fun h71 => ?_)
                      · exact absurd h71 (by decide)
                      ·
                        exact mt_throw C (X := "java/lang/IllegalStateException") (is := 72) htr hE.2.2.2 hE.1 hE.2.1 hE.2.2.1 rfl (List.mem_of_getElem? (i := 2) rfl) wl_70 wn_ISE wz_ISE at_ISE (by decide +kernel) d_Wl_transfer_74 d_Wl_transfer_77 d_Wl_transfer_78 d_Wl_transfer_80 d_Wl_transfer_83 (by decide) (by decide) (by decide) (by decide)
                    · exfalso; omega
                  ·
                    refine mw_aload_n C 0 d_Wl_transfer_55 rfl rfl ?_
                    refine mw_getr C f_Wl_38 d_Wl_transfer_56 (by decide) rfl rfl ?_
                    refine mw_iload_n C 1 d_Wl_transfer_59 rfl rfl ?_
                    refine mw_aaldN C d_Wl_transfer_60 (by decide) rfl (by omega) (by decide) rfl ?_
                    refine mw_getr C f_Wl_60 d_Wl_transfer_61 (by decide) rfl rfl ?_
                    refine mw_astore C d_Wl_transfer_64 (by decide) ?_
                    refine mw_aload C d_Wl_transfer_66 rfl ?_
                    refine mw_run0i C ix_Tq2_Wl (mw_invV C (kk := 0) (m_Tq_isFull l D cA _ cn hc2 hc) ix_Tq2_Wl kb_Wl_64 wm_Tq_isFull wv_Tq_isFull (by decide) rfl rfl d_Wl_transfer_68 rfl rfl (Nat.le_of_ble_eq_true rfl) rfl rfl ⟨by decide, by decide⟩ ⟨Nat.zero_le _, Nat.zero_le _⟩) (fun x68 e68 => ?_)
                    rcases e68 with ⟨rfl, hf⟩ | ⟨rfl, hf⟩
                    ·
                      refine mw_if_eqN C 84 d_Wl_transfer_71 (by decide) (by omega) (fun h71 => ?_) (fun h71 => ?_)
                      · exact absurd h71 (by decide)
                      ·
                        exact mt_throw C (X := "java/lang/IllegalStateException") (is := 72) htr hE.2.2.2 hE.1 hE.2.1 hE.2.2.1 rfl (List.mem_of_getElem? (i := 2) rfl) wl_70 wn_ISE wz_ISE at_ISE (by decide +kernel) d_Wl_transfer_74 d_Wl_transfer_77 d_Wl_transfer_78 d_Wl_transfer_80 d_Wl_transfer_83 (by decide) (by decide) (by decide) (by decide)
                    · exfalso; omega
                  ·
                    refine mw_aload_n C 0 d_Wl_transfer_55 rfl rfl ?_
                    refine mw_getr C f_Wl_38 d_Wl_transfer_56 (by decide) rfl rfl ?_
                    refine mw_iload_n C 1 d_Wl_transfer_59 rfl rfl ?_
                    refine mw_aaldN C d_Wl_transfer_60 (by decide) rfl (by omega) (by decide) rfl ?_
                    refine mw_getr C f_Wl_60 d_Wl_transfer_61 (by decide) rfl rfl ?_
                    refine mw_astore C d_Wl_transfer_64 (by decide) ?_
                    refine mw_aload C d_Wl_transfer_66 rfl ?_
                    refine mw_run0i C ix_Tq3_Wl (mw_invV C (kk := 0) (m_Tq_isFull l D cA _ cn hc2 hc) ix_Tq3_Wl kb_Wl_64 wm_Tq_isFull wv_Tq_isFull (by decide) rfl rfl d_Wl_transfer_68 rfl rfl (Nat.le_of_ble_eq_true rfl) rfl rfl ⟨by decide, by decide⟩ ⟨Nat.zero_le _, Nat.zero_le _⟩) (fun x68 e68 => ?_)
                    rcases e68 with ⟨rfl, hf⟩ | ⟨rfl, hf⟩
                    ·
                      refine mw_if_eqN C 84 d_Wl_transfer_71 (by decide) (by omega) (fun h71 => ?_) (fun h71 => ?_)
                      · exact absurd h71 (by decide)
                      ·
                        exact mt_throw C (X := "java/lang/IllegalStateException") (is := 72) htr hE.2.2.2 hE.1 hE.2.1 hE.2.2.1 rfl (List.mem_of_getElem? (i := 2) rfl) wl_70 wn_ISE wz_ISE at_ISE (by decide +kernel) d_Wl_transfer_74 d_Wl_transfer_77 d_Wl_transfer_78 d_Wl_transfer_80 d_Wl_transfer_83 (by decide) (by decide) (by decide) (by decide)
                    · exfalso; omega
                · exfalso; omega
            · exact absurd h19 (by decide)
          · exact absurd h3 hk3
      · exact absurd h2 hk2
  · exact absurd ⟨k1, hk, he, hne⟩ hk1
set_option maxHeartbeats 4000000 in
set_option maxRecDepth 100000 in
theorem mt_Wl_run_IAE (l : Launch) (htr : l.stackTraces = false) (D : va_G) (cA : Nat → ClassId) (bd : Nat) (x1 : Int32) (S : mw_S) (h : ¬ wIn 0 100 x1) : mt_M l lw_tbl y_Wl_run b_Wl_run 3 (some .int) { frames := 6, cells := 1, slots := 6, locals := 148 } D vCl cA sh_Wl 69 [.inr (.inr 0), .inl x1] (S) bd "java/lang/IllegalArgumentException" := by
  refine mt_M_of (by decide) (Nat.le_of_ble_eq_true rfl) ?_
  intro p e s m args below meth c A ad C hE
  refine mw_iload_n C 1 d_Wl_run_0 rfl rfl ?_
  refine mw_if_lt C 10 d_Wl_run_1 (by decide) (fun h1 => ?_) (fun h1 => ?_)
  ·
    exact mt_throw C (X := "java/lang/IllegalArgumentException") (is := 88) htr hE.2.2.2 hE.1 hE.2.1 hE.2.2.1 rfl (List.mem_of_getElem? (i := 3) rfl) wl_51 wn_IAE wz_IAE at_IAE (by decide +kernel) d_Wl_run_10 d_Wl_run_13 d_Wl_run_14 d_Wl_run_16 d_Wl_run_19 (by decide) (by decide) (by decide) (by decide)
  ·
    refine mw_iload_n C 1 d_Wl_run_4 rfl rfl ?_
    refine mw_bipush C (v := nI 100) d_Wl_run_5 (by decide) ?_
    refine mw_icmp_le C 20 d_Wl_run_7 (by decide) (fun h7 => ?_) (fun h7 => ?_)
    · exact absurd (wIn0_of (by decide) h1 h7) h
    ·
      exact mt_throw C (X := "java/lang/IllegalArgumentException") (is := 88) htr hE.2.2.2 hE.1 hE.2.1 hE.2.2.1 rfl (List.mem_of_getElem? (i := 3) rfl) wl_51 wn_IAE wz_IAE at_IAE (by decide +kernel) d_Wl_run_10 d_Wl_run_13 d_Wl_run_14 d_Wl_run_16 d_Wl_run_19 (by decide) (by decide) (by decide) (by decide)
set_option maxHeartbeats 4000000 in
set_option maxRecDepth 100000 in
theorem mt_Wl_forge_IAE (l : Launch) (htr : l.stackTraces = false) (D : va_G) (cA : Nat → ClassId) (bd : Nat) (x1 x2 x4 : Int32) (x3 : Int64) (S : mw_S) (h : ¬ (wIn 1 12 x1 ∧ wIn 0 15 x2 ∧ x3 &&& (-281474976710656) = 0 ∧ tOK x4)) : mt_M l lw_tbl y_Wl_forge b_Wl_forge 6 (some .int) { frames := 6, cells := 1, slots := 6, locals := 82 } D vCl cA sh_Wl 69 [.inr (.inr 0), .inl x1, .inl x2, .inr (.inl x3), .inl x4] (S) bd "java/lang/IllegalArgumentException" := by
  refine mt_M_of (by decide) (Nat.le_of_ble_eq_true rfl) ?_
  intro p e s m args below meth c A ad C hE
  refine mw_iload_n C 1 d_Wl_forge_0 rfl rfl ?_
  refine mw_iconst C (v := nI 1) d_Wl_forge_1 (by decide) ?_
  refine mw_icmp_lt C 21 d_Wl_forge_2 (by decide) (fun h2 => ?_) (fun h2 => ?_)
  ·
    exact mt_throw C (X := "java/lang/IllegalArgumentException") (is := 98) htr hE.2.2.2 hE.1 hE.2.1 hE.2.2.1 rfl (List.mem_of_getElem? (i := 4) rfl) wl_51 wn_IAE wz_IAE at_IAE (by decide +kernel) d_Wl_forge_21 d_Wl_forge_24 d_Wl_forge_25 d_Wl_forge_27 d_Wl_forge_30 (by decide) (by decide) (by decide) (by decide)
  ·
    refine mw_iload_n C 1 d_Wl_forge_5 rfl rfl ?_
    refine mw_bipush C (v := nI 12) d_Wl_forge_6 (by decide) ?_
    refine mw_icmp_gt C 21 d_Wl_forge_8 (by decide) (fun h8 => ?_) (fun h8 => ?_)
    ·
      exact mt_throw C (X := "java/lang/IllegalArgumentException") (is := 98) htr hE.2.2.2 hE.1 hE.2.1 hE.2.2.1 rfl (List.mem_of_getElem? (i := 4) rfl) wl_51 wn_IAE wz_IAE at_IAE (by decide +kernel) d_Wl_forge_21 d_Wl_forge_24 d_Wl_forge_25 d_Wl_forge_27 d_Wl_forge_30 (by decide) (by decide) (by decide) (by decide)
    ·
      refine mw_iload_n C 2 d_Wl_forge_11 rfl rfl ?_
      refine mw_if_lt C 21 d_Wl_forge_12 (by decide) (fun h12 => ?_) (fun h12 => ?_)
      ·
        exact mt_throw C (X := "java/lang/IllegalArgumentException") (is := 98) htr hE.2.2.2 hE.1 hE.2.1 hE.2.2.1 rfl (List.mem_of_getElem? (i := 4) rfl) wl_51 wn_IAE wz_IAE at_IAE (by decide +kernel) d_Wl_forge_21 d_Wl_forge_24 d_Wl_forge_25 d_Wl_forge_27 d_Wl_forge_30 (by decide) (by decide) (by decide) (by decide)
      ·
        refine mw_iload_n C 2 d_Wl_forge_15 rfl rfl ?_
        refine mw_bipush C (v := nI 15) d_Wl_forge_16 (by decide) ?_
        refine mw_icmp_le C 31 d_Wl_forge_18 (by decide) (fun h18 => ?_) (fun h18 => ?_)
        ·
          refine mw_lload_n C 3 d_Wl_forge_31 rfl rfl ?_
          refine mw_ldc2 C kc_Wl_100 d_Wl_forge_32 ?_
          refine mw_land C d_Wl_forge_35 ?_
          refine mw_lconst C (v := 0) d_Wl_forge_36 (by decide) ?_
          refine mw_lcmp C d_Wl_forge_37 ?_
          refine mw_if_ne C 49 d_Wl_forge_38 (by decide) (fun h38 => ?_) (fun h38 => ?_)
          ·
            exact mt_throw C (X := "java/lang/IllegalArgumentException") (is := 105) htr hE.2.2.2 hE.1 hE.2.1 hE.2.2.1 rfl (List.mem_of_getElem? (i := 5) rfl) wl_51 wn_IAE wz_IAE at_IAE (by decide +kernel) d_Wl_forge_49 d_Wl_forge_52 d_Wl_forge_53 d_Wl_forge_55 d_Wl_forge_58 (by decide) (by decide) (by decide) (by decide)
          ·
            refine mw_iload C d_Wl_forge_41 rfl ?_
            refine mw_run0i C (ix0 _ _) (mw_invS C (m_Wl_isTransferOrNone l D cA x4 _) (ix0 _ _) kb_Wl_102 ws_Wl_isTransferOrNone d_Wl_forge_43 rfl rfl (Nat.le_of_ble_eq_true rfl) rfl rfl ⟨by decide, by decide⟩ ⟨Nat.zero_le _, Nat.zero_le _⟩) (fun x43 e43 => ?_)
            rcases e43 with ⟨rfl, hk⟩ | ⟨rfl, hk⟩
            ·
              refine mw_if_neN C 59 d_Wl_forge_46 (by decide) (by omega) (fun h46 => ?_) (fun h46 => ?_)
              · exact absurd ⟨wIn_of (by decide) h2 (Int32.not_lt.mp h8), wIn0_of (by decide) h12 h18, (lg_cmp_eq _ _).mp h38, hk⟩ h
              · exact absurd h46 (by decide)
            ·
              refine mw_if_neN C 59 d_Wl_forge_46 (by decide) (by omega) (fun h46 => ?_) (fun h46 => ?_)
              · exact absurd h46 (by decide)
              ·
                exact mt_throw C (X := "java/lang/IllegalArgumentException") (is := 105) htr hE.2.2.2 hE.1 hE.2.1 hE.2.2.1 rfl (List.mem_of_getElem? (i := 5) rfl) wl_51 wn_IAE wz_IAE at_IAE (by decide +kernel) d_Wl_forge_49 d_Wl_forge_52 d_Wl_forge_53 d_Wl_forge_55 d_Wl_forge_58 (by decide) (by decide) (by decide) (by decide)
        ·
          exact mt_throw C (X := "java/lang/IllegalArgumentException") (is := 98) htr hE.2.2.2 hE.1 hE.2.1 hE.2.2.1 rfl (List.mem_of_getElem? (i := 4) rfl) wl_51 wn_IAE wz_IAE at_IAE (by decide +kernel) d_Wl_forge_21 d_Wl_forge_24 d_Wl_forge_25 d_Wl_forge_27 d_Wl_forge_30 (by decide) (by decide) (by decide) (by decide)
set_option maxHeartbeats 4000000 in
set_option maxRecDepth 100000 in
theorem mt_Wl_forge_ISE (l : Launch) (htr : l.stackTraces = false) (D : va_G) (cA : Nat → ClassId) (bd : Nat) (x1 x2 x4 : Int32) (x3 : Int64) (S : mw_S) (fg : Nat) (h1 : wIn 1 12 x1) (h2 : wIn 0 15 x2) (h3 : x3 &&& (-281474976710656) = 0) (h4 : tOK x4) (hf : S.1 0 5 = nI fg) (hfl : fg < 2 ^ 31) (h : S.1 0 0 = -1 ∨ 24 ≤ fg) : mt_M l lw_tbl y_Wl_forge b_Wl_forge 6 (some .int) { frames := 6, cells := 1, slots := 6, locals := 82 } D vCl cA sh_Wl 69 [.inr (.inr 0), .inl x1, .inl x2, .inr (.inl x3), .inl x4] (S) bd "java/lang/IllegalStateException" := by
  refine mt_M_of (by decide) (Nat.le_of_ble_eq_true rfl) ?_
  intro p e s m args below meth c A ad C hE
  obtain ⟨a, ha1, ha2, rfl⟩ := h1
  obtain ⟨b, hb1, hb2, rfl⟩ := h2
  refine mw_iload_n C 1 d_Wl_forge_0 rfl rfl ?_
  refine mw_iconst C (v := nI 1) d_Wl_forge_1 (by decide) ?_
  refine mw_icmp_ltN C 21 d_Wl_forge_2 (by decide) (by omega) (by omega) (fun h2 => ?_) (fun h2 => ?_)
  · exfalso; omega
  ·
    refine mw_iload_n C 1 d_Wl_forge_5 rfl rfl ?_
    refine mw_bipush C (v := nI 12) d_Wl_forge_6 (by decide) ?_
    refine mw_icmp_gtN C 21 d_Wl_forge_8 (by decide) (by omega) (by omega) (fun h8 => ?_) (fun h8 => ?_)
    · exfalso; omega
    ·
      refine mw_iload_n C 2 d_Wl_forge_11 rfl rfl ?_
      refine mw_if_ltN C 21 d_Wl_forge_12 (by decide) (by omega) ?_
      refine mw_iload_n C 2 d_Wl_forge_15 rfl rfl ?_
      refine mw_bipush C (v := nI 15) d_Wl_forge_16 (by decide) ?_
      refine mw_icmp_leN C 31 d_Wl_forge_18 (by decide) (by omega) (by omega) (fun h18 => ?_) (fun h18 => ?_)
      ·
        refine mw_lload_n C 3 d_Wl_forge_31 rfl rfl ?_
        refine mw_ldc2 C kc_Wl_100 d_Wl_forge_32 ?_
        refine mw_land C d_Wl_forge_35 ?_
        refine mw_lconst C (v := 0) d_Wl_forge_36 (by decide) ?_
        refine mw_lcmp C d_Wl_forge_37 ?_
        refine mw_if_ne C 49 d_Wl_forge_38 (by decide) (fun h38 => ?_) (fun h38 => ?_)
        · exact absurd ((lg_cmp_eq _ _).mpr h3) h38
        ·
          refine mw_iload C d_Wl_forge_41 rfl ?_
          refine mw_run0i C (ix0 _ _) (mw_invS C (m_Wl_isTransferOrNone l D cA x4 _) (ix0 _ _) kb_Wl_102 ws_Wl_isTransferOrNone d_Wl_forge_43 rfl rfl (Nat.le_of_ble_eq_true rfl) rfl rfl ⟨by decide, by decide⟩ ⟨Nat.zero_le _, Nat.zero_le _⟩) (fun x43 e43 => ?_)
          rcases e43 with ⟨rfl, hk⟩ | ⟨rfl, hk⟩
          ·
            refine mw_if_neN C 59 d_Wl_forge_46 (by decide) (by omega) (fun h46 => ?_) (fun h46 => ?_)
            ·
              refine mw_aload_n C 0 d_Wl_forge_59 rfl rfl ?_
              refine mw_geti C f_Wl_26 d_Wl_forge_60 (by decide) rfl rfl ?_
              refine mw_iconst C (v := (-1)) d_Wl_forge_63 (by decide) ?_
              refine mw_icmp_eq C 76 d_Wl_forge_64 (by decide) (fun h64 => ?_) (fun h64 => ?_)
              ·
                exact mt_throw C (X := "java/lang/IllegalStateException") (is := 110) htr hE.2.2.2 hE.1 hE.2.1 hE.2.2.1 rfl (List.mem_of_getElem? (i := 6) rfl) wl_70 wn_ISE wz_ISE at_ISE (by decide +kernel) d_Wl_forge_76 d_Wl_forge_79 d_Wl_forge_80 d_Wl_forge_82 d_Wl_forge_85 (by decide) (by decide) (by decide) (by decide)
              ·
                refine mw_aload_n C 0 d_Wl_forge_67 rfl rfl ?_
                refine mw_geti C f_Wl_107 d_Wl_forge_68 (by decide) rfl rfl ?_
                refine mw_eqi hf ?_
                refine mw_bipush C (v := nI 24) d_Wl_forge_71 (by decide) ?_
                refine mw_icmp_ltN C 86 d_Wl_forge_73 (by decide) (by omega) (by omega) (fun h73 => ?_) (fun h73 => ?_)
                ·
                  rcases h with h | h
                  · exact absurd h h64
                  · exfalso; omega
                ·
                  exact mt_throw C (X := "java/lang/IllegalStateException") (is := 110) htr hE.2.2.2 hE.1 hE.2.1 hE.2.2.1 rfl (List.mem_of_getElem? (i := 6) rfl) wl_70 wn_ISE wz_ISE at_ISE (by decide +kernel) d_Wl_forge_76 d_Wl_forge_79 d_Wl_forge_80 d_Wl_forge_82 d_Wl_forge_85 (by decide) (by decide) (by decide) (by decide)
            · exact absurd h46 (by decide)
          · exact absurd h4 hk
      · exfalso; omega
set_option maxHeartbeats 4000000 in
set_option maxRecDepth 100000 in
theorem mt_Wl_whisper_IAE (l : Launch) (htr : l.stackTraces = false) (D : va_G) (cA : Nat → ClassId) (bd : Nat) (x1 x2 x3 : Int32) (S : mw_S) (nv : Nat) (hv : S.1 2 4 = nI nv) (hvl : nv < 2 ^ 30) (h : ¬ (wIn 0 2 x1 ∧ wAct S x2 ∧ wIn 1 nv x3)) : mt_M l lw_tbl y_Wl_whisper b_Wl_whisper 4 (some .int) { frames := 6, cells := 1, slots := 6, locals := 82 } D vCl cA sh_Wl 69 [.inr (.inr 0), .inl x1, .inl x2, .inl x3] (S) bd "java/lang/IllegalArgumentException" := by
  refine mt_M_of (by decide) (Nat.le_of_ble_eq_true rfl) ?_
  intro p e s m args below meth c A ad C hE
  refine mw_iload_n C 1 d_Wl_whisper_0 rfl rfl ?_
  refine mw_if_lt C 28 d_Wl_whisper_1 (by decide) (fun h1 => ?_) (fun h1 => ?_)
  ·
    exact mt_throw C (X := "java/lang/IllegalArgumentException") (is := 121) htr hE.2.2.2 hE.1 hE.2.1 hE.2.2.1 rfl (List.mem_of_getElem? (i := 7) rfl) wl_51 wn_IAE wz_IAE at_IAE (by decide +kernel) d_Wl_whisper_28 d_Wl_whisper_31 d_Wl_whisper_32 d_Wl_whisper_34 d_Wl_whisper_37 (by decide) (by decide) (by decide) (by decide)
  ·
    refine mw_iload_n C 1 d_Wl_whisper_4 rfl rfl ?_
    refine mw_iconst C (v := nI 2) d_Wl_whisper_5 (by decide) ?_
    refine mw_icmp_gt C 28 d_Wl_whisper_6 (by decide) (fun h6 => ?_) (fun h6 => ?_)
    ·
      exact mt_throw C (X := "java/lang/IllegalArgumentException") (is := 121) htr hE.2.2.2 hE.1 hE.2.1 hE.2.2.1 rfl (List.mem_of_getElem? (i := 7) rfl) wl_51 wn_IAE wz_IAE at_IAE (by decide +kernel) d_Wl_whisper_28 d_Wl_whisper_31 d_Wl_whisper_32 d_Wl_whisper_34 d_Wl_whisper_37 (by decide) (by decide) (by decide) (by decide)
    ·
      refine mw_aload_n C 0 d_Wl_whisper_9 rfl rfl ?_
      refine mw_iload_n C 2 d_Wl_whisper_10 rfl rfl ?_
      refine mw_run0i C ix_Wl_Wl (mw_invV C (kk := 0) (m_Wl_isActive l D cA x2 _) ix_Wl_Wl kb_Wl_45 wm_Wl_isActive wv_Wl_isActive (by decide) rfl rfl d_Wl_whisper_11 rfl rfl (Nat.le_of_ble_eq_true rfl) rfl rfl ⟨by decide, by decide⟩ ⟨Nat.zero_le _, Nat.zero_le _⟩) (fun x11 e11 => ?_)
      rcases e11 with ⟨rfl, hk1⟩ | ⟨rfl, hk1⟩
      ·
        refine mw_if_eqN C 28 d_Wl_whisper_14 (by decide) (by omega) (fun h14 => ?_) (fun h14 => ?_)
        · exact absurd h14 (by decide)
        ·
          refine mw_aload_n C 0 d_Wl_whisper_17 rfl rfl ?_
          refine mw_getr C f_Wl_30 d_Wl_whisper_18 (by decide) rfl rfl ?_
          refine mw_iload_n C 3 d_Wl_whisper_21 rfl rfl ?_
          refine mw_run0i C ix_Ve_Wl (mw_invV C (kk := 0) (m_Ve_has l D cA x3 _ nv hvl hv) ix_Ve_Wl kb_Wl_120 wm_Ve_has wv_Ve_has (by decide) rfl rfl d_Wl_whisper_22 rfl rfl (Nat.le_of_ble_eq_true rfl) rfl rfl ⟨by decide, by decide⟩ ⟨Nat.zero_le _, Nat.zero_le _⟩) (fun x22 e22 => ?_)
          rcases e22 with ⟨rfl, hk2⟩ | ⟨rfl, hk2⟩
          ·
            refine mw_if_neN C 38 d_Wl_whisper_25 (by decide) (by omega) (fun h25 => ?_) (fun h25 => ?_)
            · exact absurd ⟨wIn0_of (by decide) h1 (Int32.not_lt.mp h6), hk1, hk2⟩ h
            · exact absurd h25 (by decide)
          ·
            refine mw_if_neN C 38 d_Wl_whisper_25 (by decide) (by omega) (fun h25 => ?_) (fun h25 => ?_)
            · exact absurd h25 (by decide)
            ·
              exact mt_throw C (X := "java/lang/IllegalArgumentException") (is := 121) htr hE.2.2.2 hE.1 hE.2.1 hE.2.2.1 rfl (List.mem_of_getElem? (i := 7) rfl) wl_51 wn_IAE wz_IAE at_IAE (by decide +kernel) d_Wl_whisper_28 d_Wl_whisper_31 d_Wl_whisper_32 d_Wl_whisper_34 d_Wl_whisper_37 (by decide) (by decide) (by decide) (by decide)
      ·
        refine mw_if_eqN C 28 d_Wl_whisper_14 (by decide) (by omega) (fun h14 => ?_) (fun h14 => ?_)
        ·
          exact mt_throw C (X := "java/lang/IllegalArgumentException") (is := 121) htr hE.2.2.2 hE.1 hE.2.1 hE.2.2.1 rfl (List.mem_of_getElem? (i := 7) rfl) wl_51 wn_IAE wz_IAE at_IAE (by decide +kernel) d_Wl_whisper_28 d_Wl_whisper_31 d_Wl_whisper_32 d_Wl_whisper_34 d_Wl_whisper_37 (by decide) (by decide) (by decide) (by decide)
        · exact absurd h14 (by decide)
set_option maxHeartbeats 4000000 in
set_option maxRecDepth 100000 in
theorem mt_Wl_whisper_ISE (l : Launch) (htr : l.stackTraces = false) (D : va_G) (cA : Nat → ClassId) (bd : Nat) (x1 x2 x3 : Int32) (S : mw_S) (nv : Nat) (hv : S.1 2 4 = nI nv) (hvl : nv < 2 ^ 30) (h1 : wIn 0 2 x1) (h2 : wAct S x2) (h3 : wIn 1 nv x3) (h : S.1 0 0 = -1) : mt_M l lw_tbl y_Wl_whisper b_Wl_whisper 4 (some .int) { frames := 6, cells := 1, slots := 6, locals := 82 } D vCl cA sh_Wl 69 [.inr (.inr 0), .inl x1, .inl x2, .inl x3] (S) bd "java/lang/IllegalStateException" := by
  refine mt_M_of (by decide) (Nat.le_of_ble_eq_true rfl) ?_
  intro p e s m args below meth c A ad C hE
  obtain ⟨a, ha1, ha2, rfl⟩ := h1
  refine mw_iload_n C 1 d_Wl_whisper_0 rfl rfl ?_
  refine mw_if_ltN C 28 d_Wl_whisper_1 (by decide) (by omega) ?_
  refine mw_iload_n C 1 d_Wl_whisper_4 rfl rfl ?_
  refine mw_iconst C (v := nI 2) d_Wl_whisper_5 (by decide) ?_
  refine mw_icmp_gtN C 28 d_Wl_whisper_6 (by decide) (by omega) (by omega) (fun h6 => ?_) (fun h6 => ?_)
  · exfalso; omega
  ·
    refine mw_aload_n C 0 d_Wl_whisper_9 rfl rfl ?_
    refine mw_iload_n C 2 d_Wl_whisper_10 rfl rfl ?_
    refine mw_run0i C ix_Wl_Wl (mw_invV C (kk := 0) (m_Wl_isActive l D cA x2 _) ix_Wl_Wl kb_Wl_45 wm_Wl_isActive wv_Wl_isActive (by decide) rfl rfl d_Wl_whisper_11 rfl rfl (Nat.le_of_ble_eq_true rfl) rfl rfl ⟨by decide, by decide⟩ ⟨Nat.zero_le _, Nat.zero_le _⟩) (fun x11 e11 => ?_)
    rcases e11 with ⟨rfl, hk1⟩ | ⟨rfl, hk1⟩
    ·
      refine mw_if_eqN C 28 d_Wl_whisper_14 (by decide) (by omega) (fun h14 => ?_) (fun h14 => ?_)
      · exact absurd h14 (by decide)
      ·
        refine mw_aload_n C 0 d_Wl_whisper_17 rfl rfl ?_
        refine mw_getr C f_Wl_30 d_Wl_whisper_18 (by decide) rfl rfl ?_
        refine mw_iload_n C 3 d_Wl_whisper_21 rfl rfl ?_
        refine mw_run0i C ix_Ve_Wl (mw_invV C (kk := 0) (m_Ve_has l D cA x3 _ nv hvl hv) ix_Ve_Wl kb_Wl_120 wm_Ve_has wv_Ve_has (by decide) rfl rfl d_Wl_whisper_22 rfl rfl (Nat.le_of_ble_eq_true rfl) rfl rfl ⟨by decide, by decide⟩ ⟨Nat.zero_le _, Nat.zero_le _⟩) (fun x22 e22 => ?_)
        rcases e22 with ⟨rfl, hk2⟩ | ⟨rfl, hk2⟩
        ·
          refine mw_if_neN C 38 d_Wl_whisper_25 (by decide) (by omega) (fun h25 => ?_) (fun h25 => ?_)
          ·
            refine mw_aload_n C 0 d_Wl_whisper_38 rfl rfl ?_
            refine mw_geti C f_Wl_26 d_Wl_whisper_39 (by decide) rfl rfl ?_
            refine mw_iconst C (v := (-1)) d_Wl_whisper_42 (by decide) ?_
            refine mw_icmp_ne C 56 d_Wl_whisper_43 (by decide) (fun h43 => ?_) (fun h43 => ?_)
            · exact absurd h h43
            ·
              exact mt_throw C (X := "java/lang/IllegalStateException") (is := 123) htr hE.2.2.2 hE.1 hE.2.1 hE.2.2.1 rfl (List.mem_of_getElem? (i := 8) rfl) wl_70 wn_ISE wz_ISE at_ISE (by decide +kernel) d_Wl_whisper_46 d_Wl_whisper_49 d_Wl_whisper_50 d_Wl_whisper_52 d_Wl_whisper_55 (by decide) (by decide) (by decide) (by decide)
          · exact absurd h25 (by decide)
        · exact absurd h3 hk2
    · exact absurd h2 hk1
end
section
/-! the law's helpers: a call that is refused is caught -/
def sh_He : Nat → mw_H := fun k => if k = 69 then .inl (1, 1, .inl 1) else sh_Wl k
theorem ix_Wl_He : mw_ix sh_Wl 69 sh_He 70 [0, 1, 2, 3, 4, 5, 6, 7, 8, 9, 10, 11, 12, 13, 14, 15, 16, 17, 18, 19, 20, 21, 22, 23, 24, 25, 26, 27, 28, 29, 30, 31, 32, 33, 34, 35, 36, 37, 38, 39, 40, 41, 42, 43, 44, 45, 46, 47, 48, 49, 50, 51, 52, 53, 54, 55, 56, 57, 58, 59, 60, 61, 62, 63, 64, 65, 66, 67, 68] := mw_ix_of (by decide +kernel)
abbrev nIAE : String := "java/lang/IllegalArgumentException"
abbrev nISE : String := "java/lang/IllegalStateException"
/-- what the law's helpers need of the state beside their words and their world -/
def mh_X (bd : Nat) (U : State) : Prop := mt_X bd U ∧ (Cond.not (.castable nISE nIAE)).before #[] U = true
/-- the world's cells, and all that come, lie above bd -/
def mh_B (bd : Nat) (ad : Nat → Nat) (n sz : Nat) : Prop := bd ≤ sz ∧ ∀ k, k < n → bd ≤ ad k
def mh_M (l : Launch) (tb : List Cond) (y : MethodName) (cc : ByteArray) (maxL : Nat) (ret : Option FieldType) (hh : List (Nat × Nat × Nat × Nat)) (rm : Room) (D : va_G) (cl : List vw_C) (cA : Nat → ClassId) (sh : Nat → mw_H) (n : Nat) (as : List mw_V) (S : mw_S) (bd : Nat) (post : Option mw_V → mw_S → Prop) : Prop :=
  ∀ (ad : Nat → Nat) (sz : Nat), mh_B bd ad n sz → Met l y (Cond.codeWith y cc maxL ret hh :: mw_G tb) rm (fun v U => mw_Pc D cl cA tb ad sh n sz as S v U ∧ mh_X bd U) (mw_Qc true D cl cA ad sh n sz S post) 1 6 (mw_fr true (mw_W cA ad sh n S) sz)
theorem mh_M_of {l : Launch} {y : MethodName} {tb : List Cond} {rm : Room} {D : va_G} {cl : List vw_C} {cA : Nat → ClassId} {sh : Nat → mw_H} {n : Nat} {as : List mw_V} {S : mw_S} {post : Option mw_V → mw_S → Prop} {cc : ByteArray} {maxL bd : Nat} {ret : Option FieldType} {hh : List (Nat × Nat × Nat × Nat)}
    (hy : plainName y.cls = true) (hlen : mw_words as ≤ maxL)
    (body : ∀ (p : Program) (e : Env) (s : State) (m : MethodId) (args : Array Value) (below : List Frame) (meth : Method) (c : Code) (A : Nat → Prop) (ad : Nat → Nat), mw_C p m c s args cc maxL y.cls (Cond.codeWith y cc maxL ret hh) tb D cl cA A ad n true → (meth.sig.returnType = ret ∧ meth.locks = false ∧ A = mw_fr true (mw_W cA ad sh n S) s.heap.size) → (c.exceptionTable.toList = hh.map (fun q => ⟨q.1, q.2.1, q.2.2.1, q.2.2.2⟩) ∧ mh_X bd s ∧ bd ≤ s.heap.size ∧ ∀ q, A q → bd ≤ q) →
      mw p l e rm s m args below meth c (MQ below (mw_Qc true D cl cA ad sh n s.heap.size S post) args s 1 6 A) 0 0 D cl cA A ad sh n maxL 0 (mw_args 0 as) [] S) : mh_M l tb y cc maxL ret hh rm D cl cA sh n as S bd post := by
  intro ad sz hB
  refine va_MetW (cc := cc) (maxL := maxL) (ret := ret) (hh := hh) hy rfl ?_
  intro p e s m args below meth c s₁ B hml hv
  obtain ⟨⟨rfl, hsz, hP, hK, hN, hi⟩, hX⟩ := hv
  subst hsz
  have hts := atoms_spec (ws := Cond.codeWith y cc maxL ret hh :: mw_G tb) B.pre
  have hown : s.vm.findClass y.cls = some m.cls := findClass_of_methodNamed B.named
  have hl := lv_entry (as.map (mw_tv ad)) (n := maxL) (by rw [mw_words_len]; exact hlen)
  rw [mw_args_map] at hl
  rw [lg_entry_eq]
  obtain ⟨m', meth', c', hn', hm', hc', -, -, htab, -, -, -⟩ := Cond.codeWith_spec (hts _ List.mem_cons_self)
  cases hn'.symm.trans B.named
  cases B.method.symm.trans hm'
  cases (Stand.of_body B).code.symm.trans hc'
  exact body p e s m _ below meth c _ ad ⟨⟨B.exec, B.bytes, hml, hown, hts⟩, hN, hK, fun q h => Or.inr h, hi, fun hw k hk => Or.inl ⟨hw, k, _, mw_W_get hk⟩⟩ ⟨B.returns, B.notSynchronized, rfl⟩ ⟨by rw [← htab, List.map_map]; exact (List.map_id _).symm, hX, hB.1, fun q h => by
    rcases h with ⟨-, k, z, hz⟩ | h
    · obtain ⟨hk, hz⟩ := mw_W_some hz
      have e9 : q = ad k := congrArg Prod.fst hz
      rw [e9]
      exact hB.2 k hk
    · exact Nat.le_trans hB.1 h⟩ s.heap [] _ hP va_S.rf hl

/-- at the helper's call: which row of its table takes an X -/
theorem mh_cl {s : State} {args : Array Value} {own X : String} {index : Nat} {m : MethodId} {e : Env} {p : Program} {l : Launch} {R : Room} {below : List Frame} {meth : Method} {c : Code} {T : State} {locs : List Loc} {cells slots : Nat} (Y : Stand p l e R s m args below meth c T locs cells slots) (hown : s.vm.findClass own = some m.cls) (h : (Cond.classLink own index X).before args s = true) : ∃ k, s.vm.findClass X = some k ∧ s.vm.ClassLinks e.platform m.cls index k :=
  Cond.classLink_spec hown h e.platform (by rw [Y.admits.platform])
theorem mh_yes {s : State} {X : String} {k : ClassId} (h : va_Nw (.castable X X) s) (hk : s.vm.findClass X = some k) : s.vm.assignable k k = true := by
  have h1 := h
  simp only [va_Nw, Cond.before, Cond.holds, Cond.value, hk] at h1
  simpa using h1
theorem mh_not {s : State} {X Y : String} {k j : ClassId} (h : (Cond.not (.castable X Y)).before #[] s = true) (hk : s.vm.findClass X = some k) (hj : s.vm.findClass Y = some j) : s.vm.assignable k j = false := by
  have hv := Cond.holds_not_iff.mp h
  simp only [Cond.value, hk, hj] at hv
  exact Option.some.inj hv
section MHC
variable {p : Program} {l : Launch} {e : Env} {R : Room} {s : State} {m : MethodId} {args : Array Value} {below : List Frame} {meth : Method} {c : Code} {Q : State → Prop}
variable {cc : ByteArray} {nL : Nat} {own : String} {b0 : Cond} {tb : List Cond} {D : va_G} {cl : List vw_C} {cA : Nat → ClassId} {A : Nat → Prop} {ad : Nat → Nat} {sh : Nat → mw_H} {n : Nat}
variable {pc : Nat} {lv : List (Nat × mw_V)} {st : List mw_V} {S : mw_S}
theorem mh_goI (C : mw_C p m c s args cc nL own b0 tb D cl cA A ad n true) {T : State} {locs : List Loc} {cells slots : Nat} (Y : Stand p l e R s m args below meth c T locs cells slots) {x : ExceptionTableEntry} {t : List ExceptionTableEntry} {g : JFrame} (hg : g.method = m) (hx : covers x g.pc = true) (h0 : x.catchType ≠ 0) (hl : Cond.classLink own x.catchType nIAE ∈ mw_G tb) (hca : Cond.castable nIAE nIAE ∈ mw_N tb) :
    ∃ kc, s.vm.findClass nIAE = some kc ∧ mt_Go e s g (x :: t) kc x.handlerPc := by
  obtain ⟨k, hk, hkl⟩ := mh_cl Y C.1.2.2.2.1 (C.1.2.2.2.2 _ (List.mem_cons_of_mem _ hl))
  subst hg
  exact ⟨k, hk, mt_Go_row hx h0 hkl (Vm.classAt_of_findClass hk) (mh_yes (C.2.1 _ hca) hk) (by rw [if_pos rfl])⟩
theorem mh_goS (C : mw_C p m c s args cc nL own b0 tb D cl cA A ad n true) {T : State} {locs : List Loc} {cells slots : Nat} (Y : Stand p l e R s m args below meth c T locs cells slots) (hno : (Cond.not (.castable nISE nIAE)).before #[] s = true) {x x2 : ExceptionTableEntry} {t : List ExceptionTableEntry} {g : JFrame} (hg : g.method = m) (hx : covers x g.pc = true) (h0 : x.catchType ≠ 0) (hx2 : covers x2 g.pc = true) (h02 : x2.catchType ≠ 0) (hl : Cond.classLink own x.catchType nIAE ∈ mw_G tb) (hl2 : Cond.classLink own x2.catchType nISE ∈ mw_G tb) (hca : Cond.castable nISE nISE ∈ mw_N tb) :
    ∃ kc, s.vm.findClass nISE = some kc ∧ mt_Go e s g (x :: x2 :: t) kc x2.handlerPc := by
  obtain ⟨k, hk, hkl⟩ := mh_cl Y C.1.2.2.2.1 (C.1.2.2.2.2 _ (List.mem_cons_of_mem _ hl))
  obtain ⟨k2, hk2, hkl2⟩ := mh_cl Y C.1.2.2.2.1 (C.1.2.2.2.2 _ (List.mem_cons_of_mem _ hl2))
  subst hg
  refine ⟨k2, hk2, mt_Go_row hx h0 hkl (Vm.classAt_of_findClass hk2) (mh_not hno hk2 hk) ?_⟩
  rw [if_neg (by decide)]
  exact mt_Go_row hx2 h02 hkl2 (Vm.classAt_of_findClass hk2) (mh_yes (C.2.1 _ hca) hk2) (by rw [if_pos rfl])
set_option maxHeartbeats 4000000 in
/-- invokevirtual of a method that throws an X, where a row of the caller's table takes it -/
theorem mh_invT (C : mw_C p m c s args cc nL own b0 tb D cl cA A ad n true) {index : Nat} {y : MethodName} {bytes : ByteArray} {maxL np bd hpc : Nat} {ret : Option FieldType} {rm : Room} {sh' : Nat → mw_H} {n' : Nat} {ix : List Nat} {kk : Nat} {as rest : List mw_V} {ci : Nat} {Tf : u_T} {N : Nat} {fk : List (Nat ⊕ Nat)} {X : String} {tbl : List ExceptionTableEntry}
    (hM : mt_M l tb y bytes maxL ret rm D cl cA sh' n' (.inr (.inr kk) :: as) (mw_rs S ix) bd X) (hx : mw_ix sh' n' sh n ix) (hc1 : Cond.code y bytes maxL ret ∈ mw_G tb) (hc2 : Cond.initialized y.cls ∈ mw_G tb) (hc3 : y.cls ≠ "java/lang/invoke/MethodHandle" ∧ y.cls ≠ "java/lang/invoke/VarHandle" ∧ (parseMethodDescriptor y.desc).map (fun d => d.parameters.length) = some np) (hc4 : Cond.methodLink own index y ∈ mw_G tb)
    (hin : Cond.instanceMethod y ∈ mw_G tb) (hse : Cond.selects y.cls y y ∈ mw_G tb) (hkk : kk < n') (hsh : sh' kk = .inr (ci, fk)) (hci : cl[ci]? = some (y.cls, Tf, N)) (hd : decode cc pc = .ok (.invokevirtual index, 3)) (hn : as.length = np) (hs : (as.map (mw_rv ix)).reverse ++ .inr (.inr (mw_ixf ix kk)) :: rest = st) (hrest : mw_words rest ≤ 8)
    (hrc : rm.cells = 1) (hrs : rm.slots = 6) (hR : rm.frames + 1 ≤ R.frames ∧ 8 + (maxL + 11) + rm.locals ≤ R.locals) (hRc : 1 ≤ R.cells) (hRs : 6 ≤ R.slots) (hZ : mt_X bd s) (hbs : bd ≤ s.heap.size) (hbA : ∀ q, A q → bd ≤ q) (htbl : c.exceptionTable.toList = tbl)
    (hgo : ∀ (T : State) (locs : List Loc) (g : JFrame), Stand p l e R s m args below meth c T locs 0 0 → g.method = m → g.pc = pc → ∃ kc, s.vm.findClass X = some kc ∧ mt_Go e s g tbl kc hpc)
    (k : ∀ (x : Nat) (H : Heap) (locs : List Loc) (ls : Array Slot), va_P D cl (mw_W cA ad sh n S) H → va_S A s.heap H locs → lv_has ls nL (mw_lm ad lv) → W p l e R s m args below meth c H locs 1 6 Q (F0 m hpc ls [.ref x])) :
    mw p l e R s m args below meth c Q 0 0 D cl cA A ad sh n nL pc lv st S := by
  subst hs
  intro H locs ls hP hS hl T hT Y
  have hmem : ∀ w, w ∈ mw_G tb → w.before args s = true := fun w h => C.1.2.2.2.2 w (List.mem_cons_of_mem _ h)
  obtain ⟨cellB, hcB, hoB, hclB⟩ := va_recv C.2.2.1 (mw_part hx hP) hci (show (mw_W cA (fun k => ad (mw_ixf ix k)) sh' n' (mw_rs S ix))[kk]? = some (ad (mw_ixf ix kk), .inr (ci, _)) by rw [mw_W_get hkk, hsh]; rfl)
  have hstk : (((as.map (mw_rv ix)).reverse ++ .inr (.inr (mw_ixf ix kk)) :: rest).map (mw_tv ad)) = (as.map (mw_tv (fun k => ad (mw_ixf ix k)))).reverse ++ .ref (ad (mw_ixf ix kk)) :: rest.map (mw_tv ad) := mw_asr ix as (.inr (.inr (mw_ixf ix kk)) :: rest)
  obtain ⟨mk, methM, hnamed, hmethM, hstM, habM⟩ := Cond.instanceMethod_spec (hmem _ hin)
  obtain ⟨methM', cM, hmethM', -, -, -, -, -, -, hsigM⟩ := Cond.code_spec hnamed (hmem _ hc1)
  cases hmethM.symm.trans hmethM'
  obtain ⟨c2, r2, m2, q1, q2, q3, q4, kP, hkP, hkPi⟩ := Cond.selects_spec (hmem _ hse)
  cases hclB.symm.trans q1
  cases (State.methodFound?_of_named hnamed ⟨hc3.1, hc3.2.1⟩).symm.trans q2
  cases hnamed.symm.trans q3
  have hselP : selectMethod e.platform s.vm cellB.cls mk = .method mk := by rw [Launch.admits_selectMethod Y.admits]; exact q4
  have hnp : (as.map (mw_tv (fun k => ad (mw_ixf ix k)))).length = methM.sig.parameters.length := by
    have h2 := hc3.2.2
    rw [hsigM] at h2
    rw [List.length_map, hn]
    exact (Option.some.inj h2).symm
  obtain ⟨vm1, Y1, st1⟩ := Y.invokevirtual C.1.1 C.1.2.2.2.1 (hmem _ hc4) hnamed hmethM hstM hkP hkPi ⟨hc3.1, hc3.2.1⟩ (a := ad (mw_ixf ix kk)) (cell := cellB) (by rw [hT]; exact hcB)
    (fun z h => by rw [h] at hoB; cases hoB) hselP hmethM habM hkP hkPi (g := F0 m pc ls (((as.map (mw_rv ix)).reverse ++ .inr (.inr (mw_ixf ix kk)) :: rest).map (mw_tv ad))) rfl (argsL := as.map (mw_tv (fun k => ad (mw_ixf ix k)))) (rest := rest.map (mw_tv ad)) hnp hstk (by rw [C.1.2.1]; exact hd)
  have hW1 : s.WarmedH vm1 := Y1.warmed
  have hold : ∀ q, q < bd → H[q]? = s.heap[q]? := fun q hq => hS.2.1 q (Nat.lt_of_lt_of_le hq hbs) (fun h => absurd (hbA q h) (Nat.not_le.mpr hq))
  obtain ⟨x, t, T', L, Y2, hL, e1, e2, ⟨⟨x', hx', hxs, ce, hce, hcc, hvm⟩, hsz, hsame⟩, hsteps⟩ := mt_thrown Y1 (hM (fun k => ad (mw_ixf ix k)) H.size) (fun a U g mk q => ⟨mw_blind _ _ g mk q.1, mt_X.same (u := U) (U := U.calling g mk a) rfl rfl q.2⟩) hrc hrs hR.1 hR.2
    (pay_in C.1.2.2.2.2 (mw_good hc1)) List.mem_cons_self (fun a' U' hW' => word_at hW' (good_of_word (List.mem_filter.mp hc2).2) (hmem _ hc2))
    (g := F0 m pc ls (rest.map (mw_tv ad))) rfl (hl.1.trans C.1.2.2.1.symm) (by rw [C.1.2.1]; exact hd) (lv_room (mw_sum_le hrest)) (mk := mk) (a := ((.inr (.inr kk) :: as).map (mw_tv (fun k => ad (mw_ixf ix k)))).toArray) (Y1.named hnamed) (by simpa using hRc) (by simpa using hRs)
    ⟨mw_pre C hx hP (T.setVm vm1) hT hW1, hZ.warm hW1 (fun q hq => by rw [show (T.setVm vm1).heap = H from hT]; exact hold q hq)⟩
  cases hx'
  have hh0 : ((T.setVm vm1).calling (F0 m pc ls (rest.map (mw_tv ad))) mk ((.inr (.inr kk) :: as).map (mw_tv (fun k => ad (mw_ixf ix k)))).toArray).heap = H := hT
  rw [hh0] at hsz hsame hxs
  obtain ⟨kc, hkc, hgo1⟩ := hgo T locs (F0 m pc ls (rest.map (mw_tv ad))) Y rfl rfl
  have hcc1 : s.vm.findClass X = some ce.cls := by
    have h9 : vm1.findClass X = some ce.cls := hcc
    rw [hW1.alike.findClass] at h9
    exact h9
  have ekc : ce.cls = kc := Option.some.inj (hcc1.symm.trans hkc)
  obtain ⟨vm', hWv, hq⟩ := hgo1 ((T'.setTop (F0 m pc ls (rest.map (mw_tv ad)))).pushFrame (.throwing x)) x ce Y2.warmed (show T'.heap[x]? = some ce by rw [e1]; exact hce) (fun z hz => by rw [hvm] at hz; cases hz) ekc
  have hP2 : va_P D cl (mw_W cA ad sh n S) T'.heap := hP.kept (fun i q hq' => by rw [e1]; exact hsame _ (hP i q hq').lt)
  have hS2 : va_S A s.heap T'.heap (locs ++ L) := by
    refine ⟨Nat.le_trans hS.1 (by rw [e1]; exact hsz), fun q h1 h2 => ?_, fun q hq' => ?_⟩
    · rw [e1, hsame q (Nat.lt_of_lt_of_le h1 hS.1)]
      exact hS.2.1 q h1 h2
    · rcases List.mem_append.mp hq' with h | h
      · exact hS.2.2 q h
      · rcases hL q h with ⟨h9, -⟩ | h9
        · cases h9
        · exact C.2.2.2.1 _ (Nat.le_trans hS.1 h9)
  obtain ⟨tt, a1, b1⟩ := k x T'.heap (locs ++ L) ls hP2 hS2 hl (T'.setVm vm') rfl (by simpa using Y2.noted hWv)
  refine ⟨tt, st1 tt (fun acts => ?_), b1⟩
  rw [doInvoke_state]
  refine hsteps.trans (mt_caught (vm' := vm') (pc := hpc) Y2.here (fun Q E d acts => ?_) a1)
  rw [W.findHandler_eq (meth := meth) (code := c) Y2.method' Y2.code, htbl]
  exact hq Q E d acts
end MHC
end
section
/-! the law's helpers, where the call is refused -/
set_option maxHeartbeats 4000000 in
set_option maxRecDepth 100000 in
theorem mh_La_transfer_1 (l : Launch) (htr : l.stackTraces = false) (D : va_G) (cA : Nat → ClassId) (bd : Nat) (x1 x2 x3 x4 : Int32) (S : mw_S) (h : ¬ (wAct S x1 ∧ wIsN x2 ∧ wIsN x3 ∧ wIn 1 99 x4)) : mh_M l lw_tbl y_La_transfer b_La_transfer 7 (some .int) [(0, 14, 17, 13), (0, 14, 21, 15)] { frames := 7, cells := 1, slots := 6, locals := 107 } D vCl cA sh_He 70 [.inr (.inr 0), .inl x1, .inl x2, .inl x3, .inl x4, .inr (.inr 69)] (S) bd (mw_Pi (fun r S' => r = nI 1 ∧ S' = S)) := by
  refine mh_M_of (by decide) (Nat.le_of_ble_eq_true rfl) ?_
  intro p e s m args below meth c A ad C hR hE
  refine mw_aload C d_La_transfer_0 rfl ?_
  refine mw_iconst C (v := nI 0) d_La_transfer_2 (by decide) ?_
  refine mw_aload_n C 0 d_La_transfer_3 rfl rfl ?_
  refine mw_iload_n C 1 d_La_transfer_4 rfl rfl ?_
  refine mw_iload_n C 2 d_La_transfer_5 rfl rfl ?_
  refine mw_iload_n C 3 d_La_transfer_6 rfl rfl ?_
  refine mw_iload C d_La_transfer_7 rfl ?_
  refine mh_invT C (kk := 0) (ix := [0, 1, 2, 3, 4, 5, 6, 7, 8, 9, 10, 11, 12, 13, 14, 15, 16, 17, 18, 19, 20, 21, 22, 23, 24, 25, 26, 27, 28, 29, 30, 31, 32, 33, 34, 35, 36, 37, 38, 39, 40, 41, 42, 43, 44, 45, 46, 47, 48, 49, 50, 51, 52, 53, 54, 55, 56, 57, 58, 59, 60, 61, 62, 63, 64, 65, 66, 67, 68]) (np := 4) (mt_Wl_transfer_IAE l htr D cA bd x1 x2 x3 x4 _ h) ix_Wl_He wc_Wl_transfer wi_Wl (by decide +kernel) (mw_G_in 500 (by decide +kernel) rfl) wm_Wl_transfer wv_Wl_transfer (by decide) rfl rfl d_La_transfer_9 rfl rfl (Nat.le_of_ble_eq_true rfl) rfl rfl ⟨by decide, by decide⟩ (by decide) (by decide) hE.2.1.1 hE.2.2.1 hE.2.2.2 hE.1 (fun T locs g Y hg hpc => mh_goI C Y hg (by rw [hpc]; decide) (by decide) wlL_13 wca_IAE) (fun x H locs ls hP hS hl => ?_)
  refine lv_astore C.1.1 C.1.2.1 d_La_transfer_17 hl (by decide) rfl (fun ls9 hl9 => ?_)
  refine lv_iconst (v := nI 1) C.1.1 C.1.2.1 d_La_transfer_19 (by decide) ?_
  exact W.iret C.1.1 C.1.2.1 hR.1 (fun t ht _ => ⟨⟨some (.inl (nI 1)), S, rfl, ⟨nI 1, rfl, ⟨rfl, rfl⟩⟩, by rw [ht]; exact hP⟩, by have h9 := hS.F ht; rw [hR.2.2] at h9; exact h9⟩) hS.2.2 d_La_transfer_20 hR.2.1
set_option maxHeartbeats 4000000 in
set_option maxRecDepth 100000 in
theorem mh_La_transfer_2 (l : Launch) (htr : l.stackTraces = false) (D : va_G) (cA : Nat → ClassId) (bd : Nat) (x1 x2 x3 x4 : Int32) (S : mw_S) (k1 cn : Nat) (hk : k1 < 4) (he : x1 = nI k1) (hne : ¬ x1 = S.1 0 0) (h2 : wIsN x2) (h3 : wIsN x3) (h4 : wIn 1 99 x4) (hc : S.1 (9 + 15 * k1 + 8) 1 = nI cn) (hc1 : 12 ≤ cn) (hc2 : cn < 2 ^ 31) : mh_M l lw_tbl y_La_transfer b_La_transfer 7 (some .int) [(0, 14, 17, 13), (0, 14, 21, 15)] { frames := 7, cells := 1, slots := 6, locals := 107 } D vCl cA sh_He 70 [.inr (.inr 0), .inl x1, .inl x2, .inl x3, .inl x4, .inr (.inr 69)] (S) bd (mw_Pi (fun r S' => r = nI 2 ∧ S' = S)) := by
  refine mh_M_of (by decide) (Nat.le_of_ble_eq_true rfl) ?_
  intro p e s m args below meth c A ad C hR hE
  have hc9 : (mw_rs S [0, 1, 2, 3, 4, 5, 6, 7, 8, 9, 10, 11, 12, 13, 14, 15, 16, 17, 18, 19, 20, 21, 22, 23, 24, 25, 26, 27, 28, 29, 30, 31, 32, 33, 34, 35, 36, 37, 38, 39, 40, 41, 42, 43, 44, 45, 46, 47, 48, 49, 50, 51, 52, 53, 54, 55, 56, 57, 58, 59, 60, 61, 62, 63, 64, 65, 66, 67, 68]).1 (9 + 15 * k1 + 8) 1 = nI cn := by
    obtain rfl | rfl | rfl | rfl : k1 = 0 ∨ k1 = 1 ∨ k1 = 2 ∨ k1 = 3 := by omega
    all_goals exact hc
  refine mw_aload C d_La_transfer_0 rfl ?_
  refine mw_iconst C (v := nI 0) d_La_transfer_2 (by decide) ?_
  refine mw_aload_n C 0 d_La_transfer_3 rfl rfl ?_
  refine mw_iload_n C 1 d_La_transfer_4 rfl rfl ?_
  refine mw_iload_n C 2 d_La_transfer_5 rfl rfl ?_
  refine mw_iload_n C 3 d_La_transfer_6 rfl rfl ?_
  refine mw_iload C d_La_transfer_7 rfl ?_
  refine mh_invT C (kk := 0) (ix := [0, 1, 2, 3, 4, 5, 6, 7, 8, 9, 10, 11, 12, 13, 14, 15, 16, 17, 18, 19, 20, 21, 22, 23, 24, 25, 26, 27, 28, 29, 30, 31, 32, 33, 34, 35, 36, 37, 38, 39, 40, 41, 42, 43, 44, 45, 46, 47, 48, 49, 50, 51, 52, 53, 54, 55, 56, 57, 58, 59, 60, 61, 62, 63, 64, 65, 66, 67, 68]) (np := 4) (mt_Wl_transfer_ISE l htr D cA bd x1 x2 x3 x4 _ k1 cn hk he hne h2 h3 h4 hc9 hc1 hc2) ix_Wl_He wc_Wl_transfer wi_Wl (by decide +kernel) (mw_G_in 500 (by decide +kernel) rfl) wm_Wl_transfer wv_Wl_transfer (by decide) rfl rfl d_La_transfer_9 rfl rfl (Nat.le_of_ble_eq_true rfl) rfl rfl ⟨by decide, by decide⟩ (by decide) (by decide) hE.2.1.1 hE.2.2.1 hE.2.2.2 hE.1 (fun T locs g Y hg hpc => mh_goS C Y hE.2.1.2 hg (by rw [hpc]; decide) (by decide) (by rw [hpc]; decide) (by decide) wlL_13 wlL_15 wca_ISE) (fun x H locs ls hP hS hl => ?_)
  refine lv_astore C.1.1 C.1.2.1 d_La_transfer_21 hl (by decide) rfl (fun ls9 hl9 => ?_)
  refine lv_iconst (v := nI 2) C.1.1 C.1.2.1 d_La_transfer_23 (by decide) ?_
  exact W.iret C.1.1 C.1.2.1 hR.1 (fun t ht _ => ⟨⟨some (.inl (nI 2)), S, rfl, ⟨nI 2, rfl, ⟨rfl, rfl⟩⟩, by rw [ht]; exact hP⟩, by have h9 := hS.F ht; rw [hR.2.2] at h9; exact h9⟩) hS.2.2 d_La_transfer_24 hR.2.1
set_option maxHeartbeats 4000000 in
set_option maxRecDepth 100000 in
theorem mh_La_run_1 (l : Launch) (htr : l.stackTraces = false) (D : va_G) (cA : Nat → ClassId) (bd : Nat) (x1 : Int32) (S : mw_S) (h : ¬ wIn 0 100 x1) : mh_M l lw_tbl y_La_run b_La_run 4 (some .int) [(0, 9, 12, 13)] { frames := 7, cells := 1, slots := 6, locals := 170 } D vCl cA sh_He 70 [.inr (.inr 0), .inl x1, .inr (.inr 69)] (S) bd (mw_Pi (fun r S' => r = nI 1 ∧ S' = S)) := by
  refine mh_M_of (by decide) (Nat.le_of_ble_eq_true rfl) ?_
  intro p e s m args below meth c A ad C hR hE
  refine mw_aload_n C 2 d_La_run_0 rfl rfl ?_
  refine mw_iconst C (v := nI 0) d_La_run_1 (by decide) ?_
  refine mw_aload_n C 0 d_La_run_2 rfl rfl ?_
  refine mw_iload_n C 1 d_La_run_3 rfl rfl ?_
  refine mh_invT C (kk := 0) (ix := [0, 1, 2, 3, 4, 5, 6, 7, 8, 9, 10, 11, 12, 13, 14, 15, 16, 17, 18, 19, 20, 21, 22, 23, 24, 25, 26, 27, 28, 29, 30, 31, 32, 33, 34, 35, 36, 37, 38, 39, 40, 41, 42, 43, 44, 45, 46, 47, 48, 49, 50, 51, 52, 53, 54, 55, 56, 57, 58, 59, 60, 61, 62, 63, 64, 65, 66, 67, 68]) (np := 1) (mt_Wl_run_IAE l htr D cA bd x1 _ h) ix_Wl_He wc_Wl_run wi_Wl (by decide +kernel) (mw_G_in 602 (by decide +kernel) rfl) wm_Wl_run wv_Wl_run (by decide) rfl rfl d_La_run_4 rfl rfl (Nat.le_of_ble_eq_true rfl) rfl rfl ⟨by decide, by decide⟩ (by decide) (by decide) hE.2.1.1 hE.2.2.1 hE.2.2.2 hE.1 (fun T locs g Y hg hpc => mh_goI C Y hg (by rw [hpc]; decide) (by decide) wlL_13 wca_IAE) (fun x H locs ls hP hS hl => ?_)
  refine lv_astore_n C.1.1 C.1.2.1 d_La_run_12 (i := 3) rfl hl (by decide) rfl (fun ls9 hl9 => ?_)
  refine lv_iconst (v := nI 1) C.1.1 C.1.2.1 d_La_run_13 (by decide) ?_
  exact W.iret C.1.1 C.1.2.1 hR.1 (fun t ht _ => ⟨⟨some (.inl (nI 1)), S, rfl, ⟨nI 1, rfl, ⟨rfl, rfl⟩⟩, by rw [ht]; exact hP⟩, by have h9 := hS.F ht; rw [hR.2.2] at h9; exact h9⟩) hS.2.2 d_La_run_14 hR.2.1
set_option maxHeartbeats 4000000 in
set_option maxRecDepth 100000 in
theorem mh_La_forge_1 (l : Launch) (htr : l.stackTraces = false) (D : va_G) (cA : Nat → ClassId) (bd : Nat) (x1 x2 x4 : Int32) (x3 : Int64) (S : mw_S) (h : ¬ (wIn 1 12 x1 ∧ wIn 0 15 x2 ∧ x3 &&& (-281474976710656) = 0 ∧ tOK x4)) : mh_M l lw_tbl y_La_forge b_La_forge 8 (some .int) [(0, 14, 17, 13), (0, 14, 21, 15)] { frames := 7, cells := 1, slots := 6, locals := 107 } D vCl cA sh_He 70 [.inr (.inr 0), .inl x1, .inl x2, .inr (.inl x3), .inl x4, .inr (.inr 69)] (S) bd (mw_Pi (fun r S' => r = nI 1 ∧ S' = S)) := by
  refine mh_M_of (by decide) (Nat.le_of_ble_eq_true rfl) ?_
  intro p e s m args below meth c A ad C hR hE
  refine mw_aload C d_La_forge_0 rfl ?_
  refine mw_iconst C (v := nI 0) d_La_forge_2 (by decide) ?_
  refine mw_aload_n C 0 d_La_forge_3 rfl rfl ?_
  refine mw_iload_n C 1 d_La_forge_4 rfl rfl ?_
  refine mw_iload_n C 2 d_La_forge_5 rfl rfl ?_
  refine mw_lload_n C 3 d_La_forge_6 rfl rfl ?_
  refine mw_iload C d_La_forge_7 rfl ?_
  refine mh_invT C (kk := 0) (ix := [0, 1, 2, 3, 4, 5, 6, 7, 8, 9, 10, 11, 12, 13, 14, 15, 16, 17, 18, 19, 20, 21, 22, 23, 24, 25, 26, 27, 28, 29, 30, 31, 32, 33, 34, 35, 36, 37, 38, 39, 40, 41, 42, 43, 44, 45, 46, 47, 48, 49, 50, 51, 52, 53, 54, 55, 56, 57, 58, 59, 60, 61, 62, 63, 64, 65, 66, 67, 68]) (np := 4) (mt_Wl_forge_IAE l htr D cA bd x1 x2 x4 x3 _ h) ix_Wl_He wc_Wl_forge wi_Wl (by decide +kernel) (mw_G_in 611 (by decide +kernel) rfl) wm_Wl_forge wv_Wl_forge (by decide) rfl rfl d_La_forge_9 rfl rfl (Nat.le_of_ble_eq_true rfl) rfl rfl ⟨by decide, by decide⟩ (by decide) (by decide) hE.2.1.1 hE.2.2.1 hE.2.2.2 hE.1 (fun T locs g Y hg hpc => mh_goI C Y hg (by rw [hpc]; decide) (by decide) wlL_13 wca_IAE) (fun x H locs ls hP hS hl => ?_)
  refine lv_astore C.1.1 C.1.2.1 d_La_forge_17 hl (by decide) rfl (fun ls9 hl9 => ?_)
  refine lv_iconst (v := nI 1) C.1.1 C.1.2.1 d_La_forge_19 (by decide) ?_
  exact W.iret C.1.1 C.1.2.1 hR.1 (fun t ht _ => ⟨⟨some (.inl (nI 1)), S, rfl, ⟨nI 1, rfl, ⟨rfl, rfl⟩⟩, by rw [ht]; exact hP⟩, by have h9 := hS.F ht; rw [hR.2.2] at h9; exact h9⟩) hS.2.2 d_La_forge_20 hR.2.1
set_option maxHeartbeats 4000000 in
set_option maxRecDepth 100000 in
theorem mh_La_forge_2 (l : Launch) (htr : l.stackTraces = false) (D : va_G) (cA : Nat → ClassId) (bd : Nat) (x1 x2 x4 : Int32) (x3 : Int64) (S : mw_S) (fg : Nat) (h1 : wIn 1 12 x1) (h2 : wIn 0 15 x2) (h3 : x3 &&& (-281474976710656) = 0) (h4 : tOK x4) (hf : S.1 0 5 = nI fg) (hfl : fg < 2 ^ 31) (h : S.1 0 0 = -1 ∨ 24 ≤ fg) : mh_M l lw_tbl y_La_forge b_La_forge 8 (some .int) [(0, 14, 17, 13), (0, 14, 21, 15)] { frames := 7, cells := 1, slots := 6, locals := 107 } D vCl cA sh_He 70 [.inr (.inr 0), .inl x1, .inl x2, .inr (.inl x3), .inl x4, .inr (.inr 69)] (S) bd (mw_Pi (fun r S' => r = nI 2 ∧ S' = S)) := by
  refine mh_M_of (by decide) (Nat.le_of_ble_eq_true rfl) ?_
  intro p e s m args below meth c A ad C hR hE
  refine mw_aload C d_La_forge_0 rfl ?_
  refine mw_iconst C (v := nI 0) d_La_forge_2 (by decide) ?_
  refine mw_aload_n C 0 d_La_forge_3 rfl rfl ?_
  refine mw_iload_n C 1 d_La_forge_4 rfl rfl ?_
  refine mw_iload_n C 2 d_La_forge_5 rfl rfl ?_
  refine mw_lload_n C 3 d_La_forge_6 rfl rfl ?_
  refine mw_iload C d_La_forge_7 rfl ?_
  refine mh_invT C (kk := 0) (ix := [0, 1, 2, 3, 4, 5, 6, 7, 8, 9, 10, 11, 12, 13, 14, 15, 16, 17, 18, 19, 20, 21, 22, 23, 24, 25, 26, 27, 28, 29, 30, 31, 32, 33, 34, 35, 36, 37, 38, 39, 40, 41, 42, 43, 44, 45, 46, 47, 48, 49, 50, 51, 52, 53, 54, 55, 56, 57, 58, 59, 60, 61, 62, 63, 64, 65, 66, 67, 68]) (np := 4) (mt_Wl_forge_ISE l htr D cA bd x1 x2 x4 x3 _ fg h1 h2 h3 h4 hf hfl h) ix_Wl_He wc_Wl_forge wi_Wl (by decide +kernel) (mw_G_in 611 (by decide +kernel) rfl) wm_Wl_forge wv_Wl_forge (by decide) rfl rfl d_La_forge_9 rfl rfl (Nat.le_of_ble_eq_true rfl) rfl rfl ⟨by decide, by decide⟩ (by decide) (by decide) hE.2.1.1 hE.2.2.1 hE.2.2.2 hE.1 (fun T locs g Y hg hpc => mh_goS C Y hE.2.1.2 hg (by rw [hpc]; decide) (by decide) (by rw [hpc]; decide) (by decide) wlL_13 wlL_15 wca_ISE) (fun x H locs ls hP hS hl => ?_)
  refine lv_astore C.1.1 C.1.2.1 d_La_forge_21 hl (by decide) rfl (fun ls9 hl9 => ?_)
  refine lv_iconst (v := nI 2) C.1.1 C.1.2.1 d_La_forge_23 (by decide) ?_
  exact W.iret C.1.1 C.1.2.1 hR.1 (fun t ht _ => ⟨⟨some (.inl (nI 2)), S, rfl, ⟨nI 2, rfl, ⟨rfl, rfl⟩⟩, by rw [ht]; exact hP⟩, by have h9 := hS.F ht; rw [hR.2.2] at h9; exact h9⟩) hS.2.2 d_La_forge_24 hR.2.1
set_option maxHeartbeats 4000000 in
set_option maxRecDepth 100000 in
theorem mh_La_whisper_1 (l : Launch) (htr : l.stackTraces = false) (D : va_G) (cA : Nat → ClassId) (bd : Nat) (x1 x2 x3 : Int32) (S : mw_S) (nv : Nat) (hv : S.1 2 4 = nI nv) (hvl : nv < 2 ^ 30) (h : ¬ (wIn 0 2 x1 ∧ wAct S x2 ∧ wIn 1 nv x3)) : mh_M l lw_tbl y_La_whisper b_La_whisper 6 (some .int) [(0, 12, 15, 13), (0, 12, 19, 15)] { frames := 7, cells := 1, slots := 6, locals := 105 } D vCl cA sh_He 70 [.inr (.inr 0), .inl x1, .inl x2, .inl x3, .inr (.inr 69)] (S) bd (mw_Pi (fun r S' => r = nI 1 ∧ S' = S)) := by
  refine mh_M_of (by decide) (Nat.le_of_ble_eq_true rfl) ?_
  intro p e s m args below meth c A ad C hR hE
  refine mw_aload C d_La_whisper_0 rfl ?_
  refine mw_iconst C (v := nI 0) d_La_whisper_2 (by decide) ?_
  refine mw_aload_n C 0 d_La_whisper_3 rfl rfl ?_
  refine mw_iload_n C 1 d_La_whisper_4 rfl rfl ?_
  refine mw_iload_n C 2 d_La_whisper_5 rfl rfl ?_
  refine mw_iload_n C 3 d_La_whisper_6 rfl rfl ?_
  refine mh_invT C (kk := 0) (ix := [0, 1, 2, 3, 4, 5, 6, 7, 8, 9, 10, 11, 12, 13, 14, 15, 16, 17, 18, 19, 20, 21, 22, 23, 24, 25, 26, 27, 28, 29, 30, 31, 32, 33, 34, 35, 36, 37, 38, 39, 40, 41, 42, 43, 44, 45, 46, 47, 48, 49, 50, 51, 52, 53, 54, 55, 56, 57, 58, 59, 60, 61, 62, 63, 64, 65, 66, 67, 68]) (np := 3) (mt_Wl_whisper_IAE l htr D cA bd x1 x2 x3 _ nv hv hvl h) ix_Wl_He wc_Wl_whisper wi_Wl (by decide +kernel) (mw_G_in 629 (by decide +kernel) rfl) wm_Wl_whisper wv_Wl_whisper (by decide) rfl rfl d_La_whisper_7 rfl rfl (Nat.le_of_ble_eq_true rfl) rfl rfl ⟨by decide, by decide⟩ (by decide) (by decide) hE.2.1.1 hE.2.2.1 hE.2.2.2 hE.1 (fun T locs g Y hg hpc => mh_goI C Y hg (by rw [hpc]; decide) (by decide) wlL_13 wca_IAE) (fun x H locs ls hP hS hl => ?_)
  refine lv_astore C.1.1 C.1.2.1 d_La_whisper_15 hl (by decide) rfl (fun ls9 hl9 => ?_)
  refine lv_iconst (v := nI 1) C.1.1 C.1.2.1 d_La_whisper_17 (by decide) ?_
  exact W.iret C.1.1 C.1.2.1 hR.1 (fun t ht _ => ⟨⟨some (.inl (nI 1)), S, rfl, ⟨nI 1, rfl, ⟨rfl, rfl⟩⟩, by rw [ht]; exact hP⟩, by have h9 := hS.F ht; rw [hR.2.2] at h9; exact h9⟩) hS.2.2 d_La_whisper_18 hR.2.1
set_option maxHeartbeats 4000000 in
set_option maxRecDepth 100000 in
theorem mh_La_whisper_2 (l : Launch) (htr : l.stackTraces = false) (D : va_G) (cA : Nat → ClassId) (bd : Nat) (x1 x2 x3 : Int32) (S : mw_S) (nv : Nat) (hv : S.1 2 4 = nI nv) (hvl : nv < 2 ^ 30) (h1 : wIn 0 2 x1) (h2 : wAct S x2) (h3 : wIn 1 nv x3) (h : S.1 0 0 = -1) : mh_M l lw_tbl y_La_whisper b_La_whisper 6 (some .int) [(0, 12, 15, 13), (0, 12, 19, 15)] { frames := 7, cells := 1, slots := 6, locals := 105 } D vCl cA sh_He 70 [.inr (.inr 0), .inl x1, .inl x2, .inl x3, .inr (.inr 69)] (S) bd (mw_Pi (fun r S' => r = nI 2 ∧ S' = S)) := by
  refine mh_M_of (by decide) (Nat.le_of_ble_eq_true rfl) ?_
  intro p e s m args below meth c A ad C hR hE
  refine mw_aload C d_La_whisper_0 rfl ?_
  refine mw_iconst C (v := nI 0) d_La_whisper_2 (by decide) ?_
  refine mw_aload_n C 0 d_La_whisper_3 rfl rfl ?_
  refine mw_iload_n C 1 d_La_whisper_4 rfl rfl ?_
  refine mw_iload_n C 2 d_La_whisper_5 rfl rfl ?_
  refine mw_iload_n C 3 d_La_whisper_6 rfl rfl ?_
  refine mh_invT C (kk := 0) (ix := [0, 1, 2, 3, 4, 5, 6, 7, 8, 9, 10, 11, 12, 13, 14, 15, 16, 17, 18, 19, 20, 21, 22, 23, 24, 25, 26, 27, 28, 29, 30, 31, 32, 33, 34, 35, 36, 37, 38, 39, 40, 41, 42, 43, 44, 45, 46, 47, 48, 49, 50, 51, 52, 53, 54, 55, 56, 57, 58, 59, 60, 61, 62, 63, 64, 65, 66, 67, 68]) (np := 3) (mt_Wl_whisper_ISE l htr D cA bd x1 x2 x3 _ nv hv hvl h1 h2 h3 h) ix_Wl_He wc_Wl_whisper wi_Wl (by decide +kernel) (mw_G_in 629 (by decide +kernel) rfl) wm_Wl_whisper wv_Wl_whisper (by decide) rfl rfl d_La_whisper_7 rfl rfl (Nat.le_of_ble_eq_true rfl) rfl rfl ⟨by decide, by decide⟩ (by decide) (by decide) hE.2.1.1 hE.2.2.1 hE.2.2.2 hE.1 (fun T locs g Y hg hpc => mh_goS C Y hE.2.1.2 hg (by rw [hpc]; decide) (by decide) (by rw [hpc]; decide) (by decide) wlL_13 wlL_15 wca_ISE) (fun x H locs ls hP hS hl => ?_)
  refine lv_astore C.1.1 C.1.2.1 d_La_whisper_19 hl (by decide) rfl (fun ls9 hl9 => ?_)
  refine lv_iconst (v := nI 2) C.1.1 C.1.2.1 d_La_whisper_21 (by decide) ?_
  exact W.iret C.1.1 C.1.2.1 hR.1 (fun t ht _ => ⟨⟨some (.inl (nI 2)), S, rfl, ⟨nI 2, rfl, ⟨rfl, rfl⟩⟩, by rw [ht]; exact hP⟩, by have h9 := hS.F ht; rw [hR.2.2] at h9; exact h9⟩) hS.2.2 d_La_whisper_22 hR.2.1
end
section
/-! THE LEDGER AS NUMBERS: what the reference's cells hold, and what each of its methods does to them. Field f of the reference is σ.1 f (0: its own numbers, by their slots: 0 refusal, 4 begun, 5 vertices, 10 forged, 12 many); the weak places of a vertex σ.2.1; what was drawn σ.2.2. -/
abbrev aS : Type := (Nat → Nat → Nat) × (Nat → Int64) × Int32
def a_up (σ : aS) (f j x : Nat) : aS := (fun f' j' => if f' = f ∧ j' = j then x else σ.1 f' j', σ.2)
def a_wk (σ : aS) (j : Nat) (x : Int64) : aS := (σ.1, fun i => if i = j then x else σ.2.1 i, σ.2.2)
def a_dr (σ : aS) (x : Int32) : aS := (σ.1, σ.2.1, x)
theorem a_up_at (σ : aS) (f j x f' j' : Nat) : (a_up σ f j x).1 f' j' = if f' = f ∧ j' = j then x else σ.1 f' j' := rfl
theorem a_up_s (σ : aS) (f j x : Nat) : (a_up σ f j x).1 f j = x := by simp [a_up]
theorem a_up_f (σ : aS) {f f' : Nat} (j x j' : Nat) (h : f' ≠ f) : (a_up σ f j x).1 f' j' = σ.1 f' j' := by simp [a_up, h]
theorem a_up_j (σ : aS) (f f' : Nat) {j j' : Nat} (x : Nat) (h : j' ≠ j) : (a_up σ f j x).1 f' j' = σ.1 f' j' := by simp [a_up, h]
theorem a_up_2 (σ : aS) (f j x : Nat) : (a_up σ f j x).2 = σ.2 := rfl
def a_msg (kind fr to v : Nat) : Nat := ((kind * 4 + fr) * 4 + to) * 80 + v
def a_send (fy : Nat) (σ : aS) (kind fr to v : Nat) : aS := if to = fy then σ else a_up (a_up σ 5 (σ.1 0 12) (a_msg kind fr to v)) 0 12 (σ.1 0 12 + 1)
def a_cast (fy kind fr v : Nat) : Nat → aS → aS
  | 0, σ => σ
  | k + 1, σ => a_send fy (a_cast fy kind fr v k σ) kind fr k v
def a_sendC (fy : Nat) (σ : aS) (fr to v at_ : Nat) : aS := if fr = σ.1 1 v % 4 ∧ σ.1 6 at_ = 0 then a_cast fy 1 to v 4 (a_up σ 6 at_ 1) else σ
def a_noted (f : Nat → Nat) (at_ v : Nat) : Nat → Nat
  | 0 => 0
  | k + 1 => a_noted f at_ v k + (if f (4 * at_ + k) = v then 1 else 0)
def a_ready (fy : Nat) (σ : aS) (to v at_ : Nat) : aS := if σ.1 7 at_ = 0 then a_cast fy 2 to v 4 (a_up σ 7 at_ 1) else σ
def a_echoC (fy : Nat) (σ : aS) (fr to v at_ : Nat) : aS := if σ.1 12 (4 * at_ + fr) = 0 then (if 3 ≤ a_noted ((a_up σ 12 (4 * at_ + fr) v).1 12) at_ v 4 then a_ready fy (a_up σ 12 (4 * at_ + fr) v) to v at_ else a_up σ 12 (4 * at_ + fr) v) else σ
def a_graphN (σ : aS) (node : Nat) : Nat → Int64
  | 0 => 0
  | q + 1 => if σ.1 9 (48 * node + q) = 0 then a_graphN σ node q else a_graphN σ node q ||| lN (2 ^ q)
def a_right (σ : aS) (v : Nat) : Bool := ve_right (σ.1 1 v) (σ.1 2 v) (σ.2.1 v)
def a_points (σ : aS) (v : Nat) (so : Bool) : Int64 := if so = true then ve_down (σ.1 1 v) (σ.1 2 v) else ve_down (σ.1 1 v) (σ.1 2 v) ||| σ.2.1 v
/-- the place q may be added to the node's graph, of which g is known -/
def a_can (σ : aS) (node : Nat) (g : Int64) (q : Nat) : Prop := 0 < σ.1 8 (48 * node + q) ∧ σ.1 9 (48 * node + q) = 0 ∧ a_right σ (σ.1 8 (48 * node + q)) = true ∧ a_points σ (σ.1 8 (48 * node + q)) false &&& (g ^^^ (-1)) = 0
def a_below (σ : aS) (node : Nat) (so : Bool) : Nat → Int64 → Int64
  | 0, x => x
  | q + 1, x => a_below σ node so q (if lb x q = true ∧ 0 < σ.1 8 (48 * node + q) then x ||| a_points σ (σ.1 8 (48 * node + q)) so else x)
def a_inR (σ : aS) (node r : Nat) : Nat → Nat
  | 0 => 0
  | k + 1 => a_inR σ node r k + (if σ.1 9 (48 * node + 4 * (r - 1) + k) = 0 then 0 else 2 ^ k)
def a_lead (cn : Int32) (w : Nat) : Nat := 16 * (w - 1) + cn.toBitVec.toNat / 2 ^ (2 * (w - 1)) % 4
end
section
/-! the reference's world, and rows over it -/
def sh_Mo : Nat → mw_H := fun k => [.inr (8, [.inl 0, .inl 0, .inl 0, .inl 0, .inl 0, .inl 0, .inr 1, .inr 2, .inr 3, .inr 4, .inl 0, .inr 5, .inl 0, .inr 6, .inr 7, .inr 8, .inr 9, .inr 10, .inr 11, .inr 12, .inr 13, .inr 14, .inr 15, .inr 16, .inr 17, .inr 18, .inr 19, .inr 20, .inr 21]),
  .inl (0, 80, .inl 0), .inl (0, 80, .inl 0), .inl (1, 80, .inl 1), .inl (0, 80, .inl 0), .inl (0, 2400, .inl 0), .inl (2, 192, .inl 0), .inl (2, 192, .inl 0), .inl (0, 192, .inl 0), .inl (2, 192, .inl 0), .inl (2, 192, .inl 0), .inl (0, 192, .inl 0), .inl (0, 768, .inl 0), .inl (0, 768, .inl 0), .inl (0, 4, .inl 0), .inl (2, 4, .inl 0), .inl (0, 4, .inl 0), .inl (0, 4, .inl 0), .inl (0, 16, .inl 0), .inl (0, 48, .inl 0), .inl (0, 4, .inl 0), .inl (0, 4, .inl 0)].getD k (.inr (0, []))
def sh_I768 : Nat → mw_H := fun k => [.inl (0, 768, .inl 0)].getD k (.inr (0, []))
theorem ix_Mo : mw_ix sh_Mo 22 sh_Mo 22 [0, 1, 2, 3, 4, 5, 6, 7, 8, 9, 10, 11, 12, 13, 14, 15, 16, 17, 18, 19, 20, 21] := mw_ix_of (by decide +kernel)
theorem ix_I_Mo12 : mw_ix sh_I768 1 sh_Mo 22 [12] := mw_ix_of (by decide +kernel)
theorem ix_I_Mo13 : mw_ix sh_I768 1 sh_Mo 22 [13] := mw_ix_of (by decide +kernel)
def mo_sc (j : Nat) : Bool := j == 0 || (j == 4 || (j == 5 || (j == 10 || j == 12)))
def mo_ar (f : Nat) : Bool := decide (1 ≤ f) && (decide (f ≤ 21) && decide (f ≠ 3))
def mR (cn fv : Int32) (σ : aS) (S : mw_S) : Prop := S.1 0 1 = σ.2.2 ∧ S.1 0 2 = cn ∧ S.1 0 3 = fv ∧ (∀ j, mo_sc j = true → S.1 0 j = nI (σ.1 0 j)) ∧ (∀ f j, mo_ar f = true → S.1 f j = nI (σ.1 f j)) ∧ ∀ j, S.2 3 j = σ.2.1 j
theorem mo_sc1 {j : Nat} (h : mo_sc j = true) : j ≠ 1 ∧ j ≠ 2 ∧ j ≠ 3 := by
  refine ⟨?_, ?_, ?_⟩ <;> (rintro rfl; cases h)
theorem mo_ar0 {f : Nat} (h : mo_ar f = true) : f ≠ 0 ∧ f ≠ 3 := by
  refine ⟨?_, ?_⟩ <;> (rintro rfl; cases h)
theorem mR_ar {cn fv : Int32} {σ : aS} {S : mw_S} (h : mR cn fv σ S) {f : Nat} (hf : mo_ar f = true) (j x : Nat) : mR cn fv (a_up σ f j x) (mw_uI S f j (nI x)) := by
  obtain ⟨h1, h2, h3, h4, h5, h6⟩ := h
  have h0 : (mw_uI S f j (nI x)).1 0 = S.1 0 := by rw [mw_uI_1, if_neg (Ne.symm (mo_ar0 hf).1)]
  refine ⟨by rw [h0]; exact h1, by rw [h0]; exact h2, by rw [h0]; exact h3, fun i hi => ?_, fun f' i hf' => ?_, h6⟩
  · rw [h0, a_up_f _ _ _ _ (Ne.symm (mo_ar0 hf).1)]; exact h4 i hi
  · rw [mw_uI_1]
    by_cases e : f' = f
    · subst e
      rw [if_pos rfl]
      unfold upd
      by_cases e2 : i = j
      · rw [if_pos e2, e2, a_up_s]
      · rw [if_neg e2, a_up_j _ _ _ _ e2]; exact h5 _ i hf'
    · rw [if_neg e, a_up_f _ _ _ _ e]; exact h5 f' i hf'
theorem mR_sc {cn fv : Int32} {σ : aS} {S : mw_S} (h : mR cn fv σ S) {j : Nat} (hj : mo_sc j = true) (x : Nat) : mR cn fv (a_up σ 0 j x) (mw_uI S 0 j (nI x)) := by
  obtain ⟨h1, h2, h3, h4, h5, h6⟩ := h
  obtain ⟨j1, j2, j3⟩ := mo_sc1 hj
  have e0 : ∀ i, i ≠ j → (mw_uI S 0 j (nI x)).1 0 i = S.1 0 i := fun i hi => by
    rw [mw_uI_1, if_pos rfl]; unfold upd; rw [if_neg hi]
  refine ⟨by rw [e0 1 (Ne.symm j1)]; exact h1, by rw [e0 2 (Ne.symm j2)]; exact h2, by rw [e0 3 (Ne.symm j3)]; exact h3, fun i hi => ?_, fun f' i hf' => ?_, h6⟩
  · by_cases e : i = j
    · subst e; rw [a_up_s, mw_uI_1, if_pos rfl]; unfold upd; rw [if_pos rfl]
    · rw [e0 i e, a_up_j _ _ _ _ e]; exact h4 i hi
  · rw [mw_uI_1, if_neg (mo_ar0 hf').1, a_up_f _ _ _ _ (mo_ar0 hf').1]; exact h5 f' i hf'
theorem mR_dr {cn fv : Int32} {σ : aS} {S : mw_S} (h : mR cn fv σ S) (x : Int32) : mR cn fv (a_dr σ x) (mw_uI S 0 1 x) := by
  obtain ⟨h1, h2, h3, h4, h5, h6⟩ := h
  have e0 : ∀ i, i ≠ 1 → (mw_uI S 0 1 x).1 0 i = S.1 0 i := fun i hi => by
    rw [mw_uI_1, if_pos rfl]; unfold upd; rw [if_neg hi]
  exact ⟨rfl, by rw [e0 2 (by decide)]; exact h2, by rw [e0 3 (by decide)]; exact h3, fun i hi => by rw [e0 i (mo_sc1 hi).1]; exact h4 i hi, fun f' i hf' => by rw [mw_uI_1, if_neg (mo_ar0 hf').1]; exact h5 f' i hf', h6⟩
theorem mR_wk {cn fv : Int32} {σ : aS} {S : mw_S} (h : mR cn fv σ S) (j : Nat) (x : Int64) : mR cn fv (a_wk σ j x) (mw_uL S 3 j x) := by
  obtain ⟨h1, h2, h3, h4, h5, h6⟩ := h
  refine ⟨h1, h2, h3, h4, h5, fun i => ?_⟩
  show vp_updL (S.2 3) j x i = if i = j then x else σ.2.1 i
  unfold vp_updL
  by_cases e : i = j
  · rw [if_pos e, if_pos e]
  · rw [if_neg e, if_neg e]; exact h6 i
theorem mR_mg {cn fv : Int32} {σ : aS} {S S1 : mw_S} (h : mR cn fv σ S1) : mR cn fv σ (mw_mg S [0, 1, 2, 3, 4, 5, 6, 7, 8, 9, 10, 11, 12, 13, 14, 15, 16, 17, 18, 19, 20, 21] S1) := by
  obtain ⟨h1, h2, h3, h4, h5, h6⟩ := h
  refine ⟨h1, h2, h3, h4, fun f j hf => ?_, h6⟩
  have hf2 : f < 22 := by
    unfold mo_ar at hf
    simp only [Bool.and_eq_true, decide_eq_true_eq] at hf
    omega
  rw [mw_mg_1 ix_Mo (k := f) (i := f) hf2 ?_]
  · exact h5 f j hf
  · have hall : ∀ k, k < 22 → mw_ixf [0, 1, 2, 3, 4, 5, 6, 7, 8, 9, 10, 11, 12, 13, 14, 15, 16, 17, 18, 19, 20, 21] k = k := by decide
    exact hall f hf2
section MO
variable {p : Program} {l : Launch} {e : Env} {R : Room} {s : State} {m : MethodId} {args : Array Value} {below : List Frame} {meth : Method} {c : Code} {Q : State → Prop} {cells slots : Nat}
variable {cc : ByteArray} {nL : Nat} {own : String} {b0 : Cond} {tb : List Cond} {D : va_G} {cl : List vw_C} {cA : Nat → ClassId} {A : Nat → Prop} {ad : Nat → Nat} {w : Bool}
variable {pc : Nat} {lv : List (Nat × mw_V)} {st : List mw_V} {S : mw_S} {cn fv : Int32} {σ : aS}
theorem mo_get (C : mw_C p m c s args cc nL own b0 tb D cl cA A ad 22 w) {index j : Nat} (h : mR cn fv σ S) (hF : mw_F own tb cl index 8 j) (hd : decode cc pc = .ok (.getfield index, 3)) (hj : mo_sc j = true) (hx : ([.inl 0, .inl 0, .inl 0, .inl 0, .inl 0, .inl 0, .inr 1, .inr 2, .inr 3, .inr 4, .inl 0, .inr 5, .inl 0, .inr 6, .inr 7, .inr 8, .inr 9, .inr 10, .inr 11, .inr 12, .inr 13, .inr 14, .inr 15, .inr 16, .inr 17, .inr 18, .inr 19, .inr 20, .inr 21] : List (Nat ⊕ Nat))[j]? = some (.inl 0)) (k : mw p l e R s m args below meth c Q cells slots D cl cA A ad sh_Mo 22 nL (pc + 3) (lv) (.inl (nI (σ.1 0 j)) :: st) (S)) : mw p l e R s m args below meth c Q cells slots D cl cA A ad sh_Mo 22 nL (pc) (lv) (.inr (.inr 0) :: st) (S) := mw_geti C hF hd (by decide) rfl hx (by rw [h.2.2.2.1 j hj]; exact k)
theorem mo_getD (C : mw_C p m c s args cc nL own b0 tb D cl cA A ad 22 w) {index : Nat} (h : mR cn fv σ S) (hF : mw_F own tb cl index 8 1) (hd : decode cc pc = .ok (.getfield index, 3)) (k : mw p l e R s m args below meth c Q cells slots D cl cA A ad sh_Mo 22 nL (pc + 3) (lv) (.inl σ.2.2 :: st) (S)) : mw p l e R s m args below meth c Q cells slots D cl cA A ad sh_Mo 22 nL (pc) (lv) (.inr (.inr 0) :: st) (S) := mw_geti C hF hd (by decide) rfl rfl (by rw [h.1]; exact k)
theorem mo_getC (C : mw_C p m c s args cc nL own b0 tb D cl cA A ad 22 w) {index : Nat} (h : mR cn fv σ S) (hF : mw_F own tb cl index 8 2) (hd : decode cc pc = .ok (.getfield index, 3)) (k : mw p l e R s m args below meth c Q cells slots D cl cA A ad sh_Mo 22 nL (pc + 3) (lv) (.inl cn :: st) (S)) : mw p l e R s m args below meth c Q cells slots D cl cA A ad sh_Mo 22 nL (pc) (lv) (.inr (.inr 0) :: st) (S) := mw_geti C hF hd (by decide) rfl rfl (by rw [h.2.1]; exact k)
theorem mo_getF (C : mw_C p m c s args cc nL own b0 tb D cl cA A ad 22 w) {index : Nat} (h : mR cn fv σ S) (hF : mw_F own tb cl index 8 3) (hd : decode cc pc = .ok (.getfield index, 3)) (k : mw p l e R s m args below meth c Q cells slots D cl cA A ad sh_Mo 22 nL (pc + 3) (lv) (.inl fv :: st) (S)) : mw p l e R s m args below meth c Q cells slots D cl cA A ad sh_Mo 22 nL (pc) (lv) (.inr (.inr 0) :: st) (S) := mw_geti C hF hd (by decide) rfl rfl (by rw [h.2.2.1]; exact k)
theorem mo_put (C : mw_C p m c s args cc nL own b0 tb D cl cA A ad 22 w) (hw0 : w = true) {index j x : Nat} (h : mR cn fv σ S) (hF : mw_F own tb cl index 8 j) (hW : mw_P cl 8 j .int) (hd : decode cc pc = .ok (.putfield index, 3)) (hj : mo_sc j = true) (hx : ([.inl 0, .inl 0, .inl 0, .inl 0, .inl 0, .inl 0, .inr 1, .inr 2, .inr 3, .inr 4, .inl 0, .inr 5, .inl 0, .inr 6, .inr 7, .inr 8, .inr 9, .inr 10, .inr 11, .inr 12, .inr 13, .inr 14, .inr 15, .inr 16, .inr 17, .inr 18, .inr 19, .inr 20, .inr 21] : List (Nat ⊕ Nat))[j]? = some (.inl 0)) (k : ∀ S', mR cn fv (a_up σ 0 j x) S' → mw p l e R s m args below meth c Q cells slots D cl cA A ad sh_Mo 22 nL (pc + 3) (lv) (st) (S')) : mw p l e R s m args below meth c Q cells slots D cl cA A ad sh_Mo 22 nL (pc) (lv) (.inl (nI x) :: .inr (.inr 0) :: st) (S) := mw_puti C hw0 hF hW hd (by decide) rfl hx (k _ (mR_sc h hj x))
theorem mo_putB (C : mw_C p m c s args cc nL own b0 tb D cl cA A ad 22 w) (hw0 : w = true) {index x : Nat} (h : mR cn fv σ S) (hF : mw_F own tb cl index 8 4) (hW : mw_P cl 8 4 .boolean) (hd : decode cc pc = .ok (.putfield index, 3)) (hb : narrow .boolean (.int (nI x)) = .int (nI x)) (hfit : fits .boolean (.int (nI x)) = true) (k : ∀ S', mR cn fv (a_up σ 0 4 x) S' → mw p l e R s m args below meth c Q cells slots D cl cA A ad sh_Mo 22 nL (pc + 3) (lv) (st) (S')) : mw p l e R s m args below meth c Q cells slots D cl cA A ad sh_Mo 22 nL (pc) (lv) (.inl (nI x) :: .inr (.inr 0) :: st) (S) := mw_putz C hw0 hF hW hd (by decide) rfl rfl hb hfit (k _ (mR_sc h rfl x))
theorem mo_putD (C : mw_C p m c s args cc nL own b0 tb D cl cA A ad 22 w) (hw0 : w = true) {index : Nat} {x : Int32} (h : mR cn fv σ S) (hF : mw_F own tb cl index 8 1) (hW : mw_P cl 8 1 .int) (hd : decode cc pc = .ok (.putfield index, 3)) (k : ∀ S', mR cn fv (a_dr σ x) S' → mw p l e R s m args below meth c Q cells slots D cl cA A ad sh_Mo 22 nL (pc + 3) (lv) (st) (S')) : mw p l e R s m args below meth c Q cells slots D cl cA A ad sh_Mo 22 nL (pc) (lv) (.inl x :: .inr (.inr 0) :: st) (S) := mw_puti C hw0 hF hW hd (by decide) rfl rfl (k _ (mR_dr h x))
theorem mo_ald (C : mw_C p m c s args cc nL own b0 tb D cl cA A ad 22 w) {f N i : Nat} (h : mR cn fv σ S) (hd : decode cc pc = .ok (.iaload, 1)) (hk : f < 22) (hs : sh_Mo f = .inl (0, N, .inl 0)) (hf : mo_ar f = true) (hi : i < N) (hN : N < 2 ^ 31) (k : mw p l e R s m args below meth c Q cells slots D cl cA A ad sh_Mo 22 nL (pc + 1) (lv) (.inl (nI (σ.1 f i)) :: st) (S)) : mw p l e R s m args below meth c Q cells slots D cl cA A ad sh_Mo 22 nL (pc) (lv) (.inl (nI i) :: .inr (.inr f) :: st) (S) := mw_ialdN C hd hk hs hi hN (by rw [h.2.2.2.2.1 f i hf]; exact k)
theorem mo_zald (C : mw_C p m c s args cc nL own b0 tb D cl cA A ad 22 w) {f N i : Nat} (h : mR cn fv σ S) (hd : decode cc pc = .ok (.baload, 1)) (hk : f < 22) (hs : sh_Mo f = .inl (2, N, .inl 0)) (hf : mo_ar f = true) (hi : i < N) (hN : N < 2 ^ 31) (k : mw p l e R s m args below meth c Q cells slots D cl cA A ad sh_Mo 22 nL (pc + 1) (lv) (.inl (nI (σ.1 f i)) :: st) (S)) : mw p l e R s m args below meth c Q cells slots D cl cA A ad sh_Mo 22 nL (pc) (lv) (.inl (nI i) :: .inr (.inr f) :: st) (S) := mw_zaldN C hd hk hs hi hN (by rw [h.2.2.2.2.1 f i hf]; exact k)
theorem mo_lald (C : mw_C p m c s args cc nL own b0 tb D cl cA A ad 22 w) {i : Nat} (h : mR cn fv σ S) (hd : decode cc pc = .ok (.laload, 1)) (hi : i < 80) (k : mw p l e R s m args below meth c Q cells slots D cl cA A ad sh_Mo 22 nL (pc + 1) (lv) (.inr (.inl (σ.2.1 i)) :: st) (S)) : mw p l e R s m args below meth c Q cells slots D cl cA A ad sh_Mo 22 nL (pc) (lv) (.inl (nI i) :: .inr (.inr 3) :: st) (S) := mw_laldN C hd (by decide) rfl hi (by decide) (by rw [h.2.2.2.2.2 i]; exact k)
theorem mo_ast (C : mw_C p m c s args cc nL own b0 tb D cl cA A ad 22 w) (hw0 : w = true) {f N i x : Nat} (h : mR cn fv σ S) (hd : decode cc pc = .ok (.iastore, 1)) (hk : f < 22) (hs : sh_Mo f = .inl (0, N, .inl 0)) (hf : mo_ar f = true) (hi : i < N) (hN : N < 2 ^ 31) (k : ∀ S', mR cn fv (a_up σ f i x) S' → mw p l e R s m args below meth c Q cells slots D cl cA A ad sh_Mo 22 nL (pc + 1) (lv) (st) (S')) : mw p l e R s m args below meth c Q cells slots D cl cA A ad sh_Mo 22 nL (pc) (lv) (.inl (nI x) :: .inl (nI i) :: .inr (.inr f) :: st) (S) := mw_iastN C hw0 hd hk hs hi hN (k _ (mR_ar h hf i x))
theorem mo_zast (C : mw_C p m c s args cc nL own b0 tb D cl cA A ad 22 w) (hw0 : w = true) {f N i x : Nat} (h : mR cn fv σ S) (hd : decode cc pc = .ok (.bastore, 1)) (hk : f < 22) (hs : sh_Mo f = .inl (2, N, .inl 0)) (hf : mo_ar f = true) (hi : i < N) (hN : N < 2 ^ 31) (hb : vp_nar .boolean (nI x) = nI x) (k : ∀ S', mR cn fv (a_up σ f i x) S' → mw p l e R s m args below meth c Q cells slots D cl cA A ad sh_Mo 22 nL (pc + 1) (lv) (st) (S')) : mw p l e R s m args below meth c Q cells slots D cl cA A ad sh_Mo 22 nL (pc) (lv) (.inl (nI x) :: .inl (nI i) :: .inr (.inr f) :: st) (S) := mw_zastN C hw0 hd hk hs hi hN hb (k _ (mR_ar h hf i x))
theorem mo_last (C : mw_C p m c s args cc nL own b0 tb D cl cA A ad 22 w) (hw0 : w = true) {i : Nat} {x : Int64} (h : mR cn fv σ S) (hd : decode cc pc = .ok (.lastore, 1)) (hi : i < 80) (k : ∀ S', mR cn fv (a_wk σ i x) S' → mw p l e R s m args below meth c Q cells slots D cl cA A ad sh_Mo 22 nL (pc + 1) (lv) (st) (S')) : mw p l e R s m args below meth c Q cells slots D cl cA A ad sh_Mo 22 nL (pc) (lv) (.inr (.inl x) :: .inl (nI i) :: .inr (.inr 3) :: st) (S) := mw_lastN C hw0 hd (by decide) rfl hi (by decide) (k _ (mR_wk h i x))
theorem mo_runv (C : mw_C p m c s args cc nL own b0 tb D cl cA A ad 22 w) (hw0 : w = true) {τ : aS} {rest : List mw_V} (hr : mw_Rn true p l e R s m args below meth c cells slots D cl cA A ad sh_Mo 22 nL pc lv st rest S sh_Mo 22 [0, 1, 2, 3, 4, 5, 6, 7, 8, 9, 10, 11, 12, 13, 14, 15, 16, 17, 18, 19, 20, 21] (mw_Pv (fun S' => mR cn fv τ S'))) (k : ∀ S', mR cn fv τ S' → mw p l e R s m args below meth c Q cells slots D cl cA A ad sh_Mo 22 nL (pc + 3) (lv) (rest) (S')) : mw p l e R s m args below meth c Q cells slots D cl cA A ad sh_Mo 22 nL (pc) (lv) (st) (S) := mw_runv C ix_Mo hw0 hr (fun S1 h1 => k _ (mR_mg h1))
theorem mo_runi (C : mw_C p m c s args cc nL own b0 tb D cl cA A ad 22 w) (hw0 : w = true) {τ : aS} {x : Int32} {rest : List mw_V} (hr : mw_Rn true p l e R s m args below meth c cells slots D cl cA A ad sh_Mo 22 nL pc lv st rest S sh_Mo 22 [0, 1, 2, 3, 4, 5, 6, 7, 8, 9, 10, 11, 12, 13, 14, 15, 16, 17, 18, 19, 20, 21] (mw_Pi (fun z S' => z = x ∧ mR cn fv τ S'))) (k : ∀ S', mR cn fv τ S' → mw p l e R s m args below meth c Q cells slots D cl cA A ad sh_Mo 22 nL (pc + 3) (lv) (.inl x :: rest) (S')) : mw p l e R s m args below meth c Q cells slots D cl cA A ad sh_Mo 22 nL (pc) (lv) (st) (S) := mw_runi C ix_Mo hw0 hr (fun z S1 h1 => by obtain ⟨rfl, h1⟩ := h1; exact k _ (mR_mg h1))
end MO
end
section
/-! the reference's methods, the first -/
theorem mR_rs {cn fv : Int32} {σ : aS} {S : mw_S} (h : mR cn fv σ S) : mR cn fv σ (mw_rs S [0, 1, 2, 3, 4, 5, 6, 7, 8, 9, 10, 11, 12, 13, 14, 15, 16, 17, 18, 19, 20, 21]) := by
  obtain ⟨h1, h2, h3, h4, h5, h6⟩ := h
  refine ⟨h1, h2, h3, h4, fun f j hf => ?_, h6⟩
  have hf2 : f < 22 := by
    unfold mo_ar at hf
    simp only [Bool.and_eq_true, decide_eq_true_eq] at hf
    omega
  have hall : ∀ k, k < 22 → mw_ixf [0, 1, 2, 3, 4, 5, 6, 7, 8, 9, 10, 11, 12, 13, 14, 15, 16, 17, 18, 19, 20, 21] k = k := by decide
  show S.1 (mw_ixf _ f) j = _
  rw [hall f hf2]
  exact h5 f j hf
/-- the faulty node's number: 4 where there is none -/
def fyR (fv : Int32) (fy : Nat) : Prop := (fy < 4 ∧ fv = nI fy) ∨ (fy = 4 ∧ ¬ ∃ k, k < 4 ∧ fv = nI k)
set_option maxHeartbeats 4000000 in
set_option maxRecDepth 100000 in
theorem m_Mo_thrown (l : Launch) (D : va_G) (cA : Nat → ClassId) (cn fv : Int32) (σ : aS) (S : mw_S) (h : mR cn fv σ S) : mw_M false l lw_tbl y_Mo_thrown b_Mo_thrown 1 (some .int) { frames := 0, cells := 0, slots := 0, locals := 0 } D vCl cA sh_Mo 22 [.inr (.inr 0)] (S) (mw_Pi (fun z _ => z = nI (σ.1 0 0))) := by
  refine mw_M_of (by decide) (Nat.le_of_ble_eq_true rfl) ?_
  intro p e s m args below meth c A ad C hR
  refine mw_aload_n C 0 d_Mo_thrown_0 rfl rfl ?_
  refine mo_get C h f_Mo_85 d_Mo_thrown_1 rfl rfl ?_
  refine mw_iret C hR d_Mo_thrown_4 ?_
  rfl
set_option maxHeartbeats 4000000 in
set_option maxRecDepth 100000 in
theorem m_Mo_refuse (l : Launch) (D : va_G) (cA : Nat → ClassId) (cn fv : Int32) (σ : aS) (x : Nat) (S : mw_S) (h : mR cn fv σ S) : mw_M true l lw_tbl y_Mo_refuse b_Mo_refuse 2 (some .int) { frames := 0, cells := 0, slots := 0, locals := 0 } D vCl cA sh_Mo 22 [.inr (.inr 0), .inl (nI x)] (S) (mw_Pi (fun z S' => z = nI 0 ∧ mR cn fv (a_up σ 0 0 x) S')) := by
  refine mw_M_of (by decide) (Nat.le_of_ble_eq_true rfl) ?_
  intro p e s m args below meth c A ad C hR
  refine mw_aload_n C 0 d_Mo_refuse_0 rfl rfl ?_
  refine mw_iload_n C 1 d_Mo_refuse_1 rfl rfl ?_
  refine mo_put C rfl h f_Mo_85 p_Mo_0 d_Mo_refuse_2 rfl rfl (fun S h => ?_)
  refine mw_iconst C (v := nI 0) d_Mo_refuse_5 (by decide) ?_
  refine mw_iret C hR d_Mo_refuse_6 ?_
  exact ⟨rfl, h⟩
set_option maxHeartbeats 4000000 in
set_option maxRecDepth 100000 in
theorem m_Mo_isNode (l : Launch) (D : va_G) (cA : Nat → ClassId) (x : Int32) (S : mw_S) : mw_M false l lw_tbl y_Mo_isNode b_Mo_isNode 1 (some .boolean) { frames := 0, cells := 0, slots := 0, locals := 0 } D vCl cA sh0 0 [.inl x] (S) (mw_Pi (fun r _ => (r = nI 1 ∧ ∃ k, k < 4 ∧ x = nI k) ∨ (r = nI 0 ∧ ¬ ∃ k, k < 4 ∧ x = nI k))) := by
  refine mw_M_of (by decide) (Nat.le_of_ble_eq_true rfl) ?_
  intro p e s m args below meth c A ad C hR
  refine mw_iload_n C 0 d_Mo_isNode_0 rfl rfl ?_
  refine mw_if_lt C 13 d_Mo_isNode_1 (by decide) (fun h1 => ?_) (fun h1 => ?_)
  ·
    refine mw_iconst C (v := nI 0) d_Mo_isNode_13 (by decide) ?_
    refine mw_zret C hR d_Mo_isNode_14 (by decide) ?_
    exact Or.inr ⟨rfl, fun ⟨k, hk, e⟩ => by rw [e] at h1; exact nI_pos (by omega) h1⟩
  ·
    refine mw_iload_n C 0 d_Mo_isNode_4 rfl rfl ?_
    refine mw_iconst C (v := nI 3) d_Mo_isNode_5 (by decide) ?_
    refine mw_icmp_gt C 13 d_Mo_isNode_6 (by decide) (fun h6 => ?_) (fun h6 => ?_)
    ·
      refine mw_iconst C (v := nI 0) d_Mo_isNode_13 (by decide) ?_
      refine mw_zret C hR d_Mo_isNode_14 (by decide) ?_
      exact Or.inr ⟨rfl, fun ⟨k, hk, e⟩ => by rw [e] at h6; exact nI_nlt (by omega) (by decide) h6⟩
    ·
      refine mw_iconst C (v := nI 1) d_Mo_isNode_9 (by decide) ?_
      refine mw_goto C 14 d_Mo_isNode_10 (by decide) ?_
      refine mw_zret C hR d_Mo_isNode_14 (by decide) ?_
      exact Or.inl ⟨rfl, by
        obtain ⟨j, hj, e⟩ := nI_of2 (n := 3) (M := nI 3) (by decide) h1 (Int32.not_lt.mp h6)
        exact ⟨j, by omega, e⟩⟩
set_option maxHeartbeats 4000000 in
set_option maxRecDepth 100000 in
theorem m_Mo_isFaulty (l : Launch) (D : va_G) (cA : Nat → ClassId) (cn fv : Int32) (σ : aS) (fy to : Nat) (S : mw_S) (h : mR cn fv σ S) (hfy : fyR fv fy) (ht : to < 4) : mw_M false l lw_tbl y_Mo_isFaulty b_Mo_isFaulty 2 (some .boolean) { frames := 1, cells := 0, slots := 0, locals := 20 } D vCl cA sh_Mo 22 [.inr (.inr 0), .inl (nI to)] (S) (mw_Pi (fun r _ => r = nI (if to = fy then 1 else 0))) := by
  refine mw_M_of (by decide) (Nat.le_of_ble_eq_true rfl) ?_
  intro p e s m args below meth c A ad C hR
  refine mw_aload_n C 0 d_Mo_isFaulty_0 rfl rfl ?_
  refine mo_getF C h f_Mo_82 d_Mo_isFaulty_1 ?_
  refine mw_run0i C (ix0 _ _) (mw_invS C (m_Mo_isNode l D cA fv _) (ix0 _ _) kb_Mo_88 ws_Mo_isNode d_Mo_isFaulty_4 rfl rfl (Nat.le_of_ble_eq_true rfl) rfl rfl ⟨by decide, by decide⟩ ⟨Nat.zero_le _, Nat.zero_le _⟩) (fun x4 e4 => ?_)
  rcases e4 with ⟨rfl, hk⟩ | ⟨rfl, hk⟩
  ·
    rcases hfy with ⟨hy, rfl⟩ | ⟨-, hno⟩
    ·
      refine mw_if_eqN C 22 d_Mo_isFaulty_7 (by decide) (by omega) (fun h7 => ?_) (fun h7 => ?_)
      · exact absurd h7 (by decide)
      ·
        refine mw_iload_n C 1 d_Mo_isFaulty_10 rfl rfl ?_
        refine mw_aload_n C 0 d_Mo_isFaulty_11 rfl rfl ?_
        refine mo_getF C h f_Mo_82 d_Mo_isFaulty_12 ?_
        refine mw_icmp_neN C 22 d_Mo_isFaulty_15 (by decide) (by omega) (by omega) (fun h15 => ?_) (fun h15 => ?_)
        ·
          refine mw_iconst C (v := nI 0) d_Mo_isFaulty_22 (by decide) ?_
          refine mw_zret C hR d_Mo_isFaulty_23 (by decide) ?_
          rw [if_neg h15]
        ·
          refine mw_iconst C (v := nI 1) d_Mo_isFaulty_18 (by decide) ?_
          refine mw_goto C 23 d_Mo_isFaulty_19 (by decide) ?_
          refine mw_zret C hR d_Mo_isFaulty_23 (by decide) ?_
          rw [if_pos h15]
    · exact absurd hk hno
  ·
    rcases hfy with ⟨hy, hy2⟩ | ⟨hy, hno⟩
    · exact absurd ⟨fy, hy, hy2⟩ hk
    ·
      refine mw_if_eqN C 22 d_Mo_isFaulty_7 (by decide) (by omega) (fun h7 => ?_) (fun h7 => ?_)
      ·
        refine mw_iconst C (v := nI 0) d_Mo_isFaulty_22 (by decide) ?_
        refine mw_zret C hR d_Mo_isFaulty_23 (by decide) ?_
        rw [if_neg (by omega)]
      · exact absurd h7 (by decide)
set_option maxHeartbeats 4000000 in
set_option maxRecDepth 100000 in
theorem m_Mo_sendOne (l : Launch) (D : va_G) (cA : Nat → ClassId) (cn fv : Int32) (σ : aS) (fy kind fr to v : Nat) (S : mw_S) (h : mR cn fv σ S) (hfy : fyR fv fy) (hk : kind < 4) (hf : fr < 4) (ht : to < 4) (hv : v < 80) (hm : σ.1 0 12 < 2400) : mw_M true l lw_tbl y_Mo_sendOne b_Mo_sendOne 5 none { frames := 2, cells := 0, slots := 0, locals := 41 } D vCl cA sh_Mo 22 [.inr (.inr 0), .inl (nI kind), .inl (nI fr), .inl (nI to), .inl (nI v)] (S) (mw_Pv (fun S' => mR cn fv (a_send fy σ kind fr to v) S')) := by
  refine mw_M_of (by decide) (Nat.le_of_ble_eq_true rfl) ?_
  intro p e s m args below meth c A ad C hR
  refine mw_aload_n C 0 d_Mo_sendOne_0 rfl rfl ?_
  refine mw_iload_n C 3 d_Mo_sendOne_1 rfl rfl ?_
  refine mw_run0i C ix_Mo (mw_invV C (kk := 0) (m_Mo_isFaulty l D cA cn fv σ fy to _ (mR_rs h) hfy ht) ix_Mo kb_Mo_93 wm_Mo_isFaulty wv_Mo_isFaulty (by decide) rfl rfl d_Mo_sendOne_2 rfl rfl (Nat.le_of_ble_eq_true rfl) rfl rfl ⟨by decide, by decide⟩ ⟨Nat.zero_le _, Nat.zero_le _⟩) (fun x2 e2 => ?_)
  subst e2
  by_cases he : to = fy
  ·
    rw [if_pos he]
    refine mw_if_eqN C 9 d_Mo_sendOne_5 (by decide) (by omega) (fun h5 => ?_) (fun h5 => ?_)
    · exact absurd h5 (by decide)
    ·
      refine mw_vret C hR d_Mo_sendOne_8 ?_
      unfold a_send
      rw [if_pos he]
      exact h
  ·
    rw [if_neg he]
    refine mw_if_eqN C 9 d_Mo_sendOne_5 (by decide) (by omega) (fun h5 => ?_) (fun h5 => ?_)
    ·
      refine mw_aload_n C 0 d_Mo_sendOne_9 rfl rfl ?_
      refine mw_getr C f_Mo_23 d_Mo_sendOne_10 (by decide) rfl rfl ?_
      refine mw_aload_n C 0 d_Mo_sendOne_13 rfl rfl ?_
      refine mo_get C h f_Mo_96 d_Mo_sendOne_14 rfl rfl ?_
      refine mw_iload_n C 1 d_Mo_sendOne_17 rfl rfl ?_
      refine mw_iconst C (v := nI 4) d_Mo_sendOne_18 (by decide) ?_
      refine mw_imulN C d_Mo_sendOne_19 ?_
      refine mw_iload_n C 2 d_Mo_sendOne_20 rfl rfl ?_
      refine mw_iaddN C d_Mo_sendOne_21 ?_
      refine mw_iconst C (v := nI 4) d_Mo_sendOne_22 (by decide) ?_
      refine mw_imulN C d_Mo_sendOne_23 ?_
      refine mw_iload_n C 3 d_Mo_sendOne_24 rfl rfl ?_
      refine mw_iaddN C d_Mo_sendOne_25 ?_
      refine mw_bipush C (v := nI 80) d_Mo_sendOne_26 (by decide) ?_
      refine mw_imulN C d_Mo_sendOne_28 ?_
      refine mw_iload C d_Mo_sendOne_29 rfl ?_
      refine mw_iaddN C d_Mo_sendOne_31 ?_
      refine mo_ast C rfl h d_Mo_sendOne_32 (by decide) rfl rfl (by omega) (by decide) (fun S h => ?_)
      refine mw_aload_n C 0 d_Mo_sendOne_33 rfl rfl ?_
      refine mw_dup C d_Mo_sendOne_34 rfl ?_
      refine mo_get C h f_Mo_96 d_Mo_sendOne_35 rfl rfl ?_
      refine mw_eqi (show _ = nI (σ.1 0 12) from by rw [a_up_f _ _ _ _ (by decide)]) ?_
      refine mw_iconst C (v := nI 1) d_Mo_sendOne_38 (by decide) ?_
      refine mw_iaddN C d_Mo_sendOne_39 ?_
      refine mo_put C rfl h f_Mo_96 p_Mo_12 d_Mo_sendOne_40 rfl rfl (fun S h => ?_)
      refine mw_vret C hR d_Mo_sendOne_43 ?_
      unfold a_send a_msg
      rw [if_neg he]
      exact h
    · exact absurd h5 (by decide)
theorem a_send_12 (fy : Nat) (σ : aS) (kind fr to v : Nat) : (a_send fy σ kind fr to v).1 0 12 ≤ σ.1 0 12 + 1 := by
  unfold a_send
  split
  · omega
  · rw [a_up_s]; exact Nat.le_refl _
theorem a_cast_12 (fy kind fr v : Nat) (σ : aS) : ∀ k, (a_cast fy kind fr v k σ).1 0 12 ≤ σ.1 0 12 + k
  | 0 => Nat.le_refl _
  | k + 1 => by
    have h1 := a_cast_12 fy kind fr v σ k
    have h2 := a_send_12 fy (a_cast fy kind fr v k σ) kind fr k v
    unfold a_cast
    omega
set_option maxHeartbeats 4000000 in
set_option maxRecDepth 100000 in
theorem m_Mo_broadcast (l : Launch) (D : va_G) (cA : Nat → ClassId) (cn fv : Int32) (σ : aS) (fy kind fr v : Nat) (S : mw_S) (h : mR cn fv σ S) (hfy : fyR fv fy) (hk : kind < 4) (hf : fr < 4) (hv : v < 80) (hm : σ.1 0 12 + 4 ≤ 2400) : mw_M true l lw_tbl y_Mo_broadcast b_Mo_broadcast 5 none { frames := 3, cells := 0, slots := 0, locals := 65 } D vCl cA sh_Mo 22 [.inr (.inr 0), .inl (nI kind), .inl (nI fr), .inl (nI v)] (S) (mw_Pv (fun S' => mR cn fv (a_cast fy kind fr v 4 σ) S')) := by
  refine mw_M_of (by decide) (Nat.le_of_ble_eq_true rfl) ?_
  intro p e s m args below meth c A ad C hR
  have L : ∀ (dd i : Nat) (S1 : mw_S), i + dd = 4 → mR cn fv (a_cast fy kind fr v i σ) S1 → mw p l e { frames := 3, cells := 0, slots := 0, locals := 65 } s m args below meth c (MQ below (mw_Qc true D vCl cA ad sh_Mo 22 s.heap.size (S) (mw_Pv (fun S' => mR cn fv (a_cast fy kind fr v 4 σ) S'))) args s 0 0 A) 0 0 D vCl cA A ad sh_Mo 22 5 (3) ([(4, .inl (nI i)), (0, .inr (.inr 0)), (1, .inl (nI kind)), (2, .inl (nI fr)), (3, .inl (nI v))]) ([]) (S1) := by
    intro dd
    induction dd with
    | zero =>
      intro i S1 hi h
      refine mw_iload C d_Mo_broadcast_3 rfl ?_
      refine mw_iconst C (v := nI 4) d_Mo_broadcast_5 (by decide) ?_
      refine mw_icmp_geN C 24 d_Mo_broadcast_6 (by decide) (by omega) (by omega) (fun h6 => ?_) (fun h6 => ?_)
      ·
        refine mw_vret C hR d_Mo_broadcast_24 ?_
        rw [show i = 4 from by omega] at h
        exact h
      · exfalso; omega
    | succ dd ih =>
      intro i S1 hi h
      have hle := a_cast_12 fy kind fr v σ i
      refine mw_iload C d_Mo_broadcast_3 rfl ?_
      refine mw_iconst C (v := nI 4) d_Mo_broadcast_5 (by decide) ?_
      refine mw_icmp_geN C 24 d_Mo_broadcast_6 (by decide) (by omega) (by omega) (fun h6 => ?_) (fun h6 => ?_)
      · exfalso; omega
      ·
        refine mw_aload_n C 0 d_Mo_broadcast_9 rfl rfl ?_
        refine mw_iload_n C 1 d_Mo_broadcast_10 rfl rfl ?_
        refine mw_iload_n C 2 d_Mo_broadcast_11 rfl rfl ?_
        refine mw_iload C d_Mo_broadcast_12 rfl ?_
        refine mw_iload_n C 3 d_Mo_broadcast_14 rfl rfl ?_
        refine mo_runv C rfl (mw_invV C (kk := 0) (m_Mo_sendOne l D cA cn fv (a_cast fy kind fr v i σ) fy kind fr i v _ (mR_rs h) hfy hk hf (by omega) hv (by omega)) ix_Mo kb_Mo_99 wm_Mo_sendOne wv_Mo_sendOne (by decide) rfl rfl d_Mo_broadcast_15 rfl rfl (Nat.le_of_ble_eq_true rfl) rfl rfl ⟨by decide, by decide⟩ ⟨Nat.zero_le _, Nat.zero_le _⟩) (fun S h => ?_)
        refine mw_iincN C d_Mo_broadcast_18 rfl (by decide) ?_
        refine mw_goto C 3 d_Mo_broadcast_21 (by decide) ?_
        exact mw_to _ (by exact And.intro rfl (And.intro rfl (And.intro rfl (And.intro rfl (And.intro rfl (trivial)))))) (ih (i + 1) S (by omega) h)
  refine mw_iconst C (v := nI 0) d_Mo_broadcast_0 (by decide) ?_
  refine mw_istore C d_Mo_broadcast_1 (by decide) ?_
  exact mw_to _ (by exact And.intro rfl (And.intro rfl (And.intro rfl (And.intro rfl (And.intro rfl (trivial)))))) (L 4 0 S rfl h)
set_option maxHeartbeats 4000000 in
set_option maxRecDepth 100000 in
theorem m_Mo_sendComes (l : Launch) (D : va_G) (cA : Nat → ClassId) (cn fv : Int32) (σ : aS) (fy fr to v at_ : Nat) (S : mw_S) (h : mR cn fv σ S) (hfy : fyR fv fy) (hf : fr < 4) (ht : to < 4) (hv : v < 80) (ha : at_ < 192) (hp : σ.1 1 v < 48) (h6 : σ.1 6 at_ ≤ 1) (hm : σ.1 0 12 + 4 ≤ 2400) : mw_M true l lw_tbl y_Mo_sendComes b_Mo_sendComes 5 none { frames := 4, cells := 0, slots := 0, locals := 89 } D vCl cA sh_Mo 22 [.inr (.inr 0), .inl (nI fr), .inl (nI to), .inl (nI v), .inl (nI at_)] (S) (mw_Pv (fun S' => mR cn fv (a_sendC fy σ fr to v at_) S')) := by
  refine mw_M_of (by decide) (Nat.le_of_ble_eq_true rfl) ?_
  intro p e s m args below meth c A ad C hR
  refine mw_iload_n C 1 d_Mo_sendComes_0 rfl rfl ?_
  refine mw_aload_n C 0 d_Mo_sendComes_1 rfl rfl ?_
  refine mw_getr C f_Mo_7 d_Mo_sendComes_2 (by decide) rfl rfl ?_
  refine mw_iload_n C 3 d_Mo_sendComes_5 rfl rfl ?_
  refine mo_ald C h d_Mo_sendComes_6 (by decide) rfl rfl (by omega) (by decide) ?_
  refine mw_iconst C (v := nI 4) d_Mo_sendComes_7 (by decide) ?_
  refine mw_iremN C d_Mo_sendComes_8 (by omega) (by decide) (by decide) ?_
  refine mw_icmp_neN C 22 d_Mo_sendComes_9 (by decide) (by omega) (by omega) (fun h9 => ?_) (fun h9 => ?_)
  ·
    refine mw_vret C hR d_Mo_sendComes_22 ?_
    unfold a_sendC
    rw [if_neg (fun h => h9 h.1)]
    exact h
  ·
    refine mw_aload_n C 0 d_Mo_sendComes_12 rfl rfl ?_
    refine mw_getr C f_Mo_26 d_Mo_sendComes_13 (by decide) rfl rfl ?_
    refine mw_iload C d_Mo_sendComes_16 rfl ?_
    refine mo_zald C h d_Mo_sendComes_18 (by decide) rfl rfl (by omega) (by decide) ?_
    refine mw_if_eqN C 23 d_Mo_sendComes_19 (by decide) (by omega) (fun h19 => ?_) (fun h19 => ?_)
    ·
      refine mw_aload_n C 0 d_Mo_sendComes_23 rfl rfl ?_
      refine mw_getr C f_Mo_26 d_Mo_sendComes_24 (by decide) rfl rfl ?_
      refine mw_iload C d_Mo_sendComes_27 rfl ?_
      refine mw_iconst C (v := nI 1) d_Mo_sendComes_29 (by decide) ?_
      refine mo_zast C rfl h d_Mo_sendComes_30 (by decide) rfl rfl (by omega) (by decide) (by decide) (fun S h => ?_)
      refine mw_aload_n C 0 d_Mo_sendComes_31 rfl rfl ?_
      refine mw_iconst C (v := nI 1) d_Mo_sendComes_32 (by decide) ?_
      refine mw_iload_n C 2 d_Mo_sendComes_33 rfl rfl ?_
      refine mw_iload_n C 3 d_Mo_sendComes_34 rfl rfl ?_
      refine mo_runv C rfl (mw_invV C (kk := 0) (m_Mo_broadcast l D cA cn fv (a_up σ 6 at_ 1) fy 1 to v _ (mR_rs h) hfy (by decide) ht hv (by rw [a_up_f _ _ _ _ (by decide)]; exact hm)) ix_Mo kb_Mo_120 wm_Mo_broadcast wv_Mo_broadcast (by decide) rfl rfl d_Mo_sendComes_35 rfl rfl (Nat.le_of_ble_eq_true rfl) rfl rfl ⟨by decide, by decide⟩ ⟨Nat.zero_le _, Nat.zero_le _⟩) (fun S h => ?_)
      refine mw_vret C hR d_Mo_sendComes_38 ?_
      unfold a_sendC
      rw [if_pos ⟨h9, h19⟩]
      exact h
    ·
      refine mw_vret C hR d_Mo_sendComes_22 ?_
      unfold a_sendC
      rw [if_neg (fun h => by omega)]
      exact h
set_option maxHeartbeats 4000000 in
set_option maxRecDepth 100000 in
theorem m_Mo_noted (l : Launch) (D : va_G) (cA : Nat → ClassId) (f : Nat → Nat) (at_ v : Nat) (S : mw_S) (hS : ∀ j, S.1 0 j = nI (f j)) (hb : ∀ j, f j < 2 ^ 31) (ha : at_ < 192) (hv : v < 80) : mw_M false l lw_tbl y_Mo_noted b_Mo_noted 5 (some .int) { frames := 0, cells := 0, slots := 0, locals := 0 } D vCl cA sh_I768 1 [.inr (.inr 0), .inl (nI at_), .inl (nI v)] (S) (mw_Pi (fun r _ => r = nI (a_noted f at_ v 4))) := by
  refine mw_M_of (by decide) (Nat.le_of_ble_eq_true rfl) ?_
  intro p e s m args below meth c A ad C hR
  have L : ∀ (dd i : Nat), i + dd = 4 → mw p l e { frames := 0, cells := 0, slots := 0, locals := 0 } s m args below meth c (MQ below (mw_Qc false D vCl cA ad sh_I768 1 s.heap.size (S) (mw_Pi (fun r _ => r = nI (a_noted f at_ v 4)))) args s 0 0 A) 0 0 D vCl cA A ad sh_I768 1 5 (5) ([(4, .inl (nI i)), (3, .inl (nI (a_noted f at_ v i))), (0, .inr (.inr 0)), (1, .inl (nI at_)), (2, .inl (nI v))]) ([]) (S) := by
    intro dd
    induction dd with
    | zero =>
      intro i hi
      refine mw_iload C d_Mo_noted_5 rfl ?_
      refine mw_iconst C (v := nI 4) d_Mo_noted_7 (by decide) ?_
      refine mw_icmp_geN C 37 d_Mo_noted_8 (by decide) (by omega) (by omega) (fun h8 => ?_) (fun h8 => ?_)
      ·
        refine mw_iload_n C 3 d_Mo_noted_37 rfl rfl ?_
        refine mw_iret C hR d_Mo_noted_38 ?_
        rw [show i = 4 from by omega]
      · exfalso; omega
    | succ dd ih =>
      intro i hi
      have hbi := hb (4 * at_ + i)
      refine mw_iload C d_Mo_noted_5 rfl ?_
      refine mw_iconst C (v := nI 4) d_Mo_noted_7 (by decide) ?_
      refine mw_icmp_geN C 37 d_Mo_noted_8 (by decide) (by omega) (by omega) (fun h8 => ?_) (fun h8 => ?_)
      · exfalso; omega
      ·
        refine mw_iload_n C 3 d_Mo_noted_11 rfl rfl ?_
        refine mw_aload_n C 0 d_Mo_noted_12 rfl rfl ?_
        refine mw_iconst C (v := nI 4) d_Mo_noted_13 (by decide) ?_
        refine mw_iload_n C 1 d_Mo_noted_14 rfl rfl ?_
        refine mw_imulN C d_Mo_noted_15 ?_
        refine mw_iload C d_Mo_noted_16 rfl ?_
        refine mw_iaddN C d_Mo_noted_18 ?_
        refine mw_ialdN C d_Mo_noted_19 (by decide) rfl (by omega) (by decide) ?_
        refine mw_eqi (hS _) ?_
        refine mw_iload_n C 2 d_Mo_noted_20 rfl rfl ?_
        refine mw_icmp_neN C 28 d_Mo_noted_21 (by decide) (by omega) (by omega) (fun h21 => ?_) (fun h21 => ?_)
        ·
          refine mw_iconst C (v := nI 0) d_Mo_noted_28 (by decide) ?_
          refine mw_iaddN C d_Mo_noted_29 ?_
          refine mw_istore_n C 3 d_Mo_noted_30 rfl (by decide) ?_
          refine mw_iincN C d_Mo_noted_31 rfl (by decide) ?_
          refine mw_goto C 5 d_Mo_noted_34 (by decide) ?_
          refine mw_eq _ _ _ (by exact And.intro rfl (And.intro (by show some (Sum.inl _) = _; rw [a_noted, if_neg h21]) (And.intro rfl (And.intro rfl (And.intro rfl trivial))))) rfl rfl (ih (i + 1) (by omega))
        ·
          refine mw_iconst C (v := nI 1) d_Mo_noted_24 (by decide) ?_
          refine mw_goto C 29 d_Mo_noted_25 (by decide) ?_
          refine mw_iaddN C d_Mo_noted_29 ?_
          refine mw_istore_n C 3 d_Mo_noted_30 rfl (by decide) ?_
          refine mw_iincN C d_Mo_noted_31 rfl (by decide) ?_
          refine mw_goto C 5 d_Mo_noted_34 (by decide) ?_
          refine mw_eq _ _ _ (by exact And.intro rfl (And.intro (by show some (Sum.inl _) = _; rw [a_noted, if_pos h21]) (And.intro rfl (And.intro rfl (And.intro rfl trivial))))) rfl rfl (ih (i + 1) (by omega))
  refine mw_iconst C (v := nI 0) d_Mo_noted_0 (by decide) ?_
  refine mw_istore_n C 3 d_Mo_noted_1 rfl (by decide) ?_
  refine mw_iconst C (v := nI 0) d_Mo_noted_2 (by decide) ?_
  refine mw_istore C d_Mo_noted_3 (by decide) ?_
  exact mw_to _ (by exact And.intro rfl (And.intro rfl (And.intro rfl (And.intro rfl (And.intro rfl (trivial)))))) (L 4 0 rfl)
set_option maxHeartbeats 4000000 in
set_option maxRecDepth 100000 in
theorem m_Mo_ready (l : Launch) (D : va_G) (cA : Nat → ClassId) (cn fv : Int32) (σ : aS) (fy to v at_ : Nat) (S : mw_S) (h : mR cn fv σ S) (hfy : fyR fv fy) (ht : to < 4) (hv : v < 80) (ha : at_ < 192) (h7 : σ.1 7 at_ ≤ 1) (hm : σ.1 0 12 + 4 ≤ 2400) : mw_M true l lw_tbl y_Mo_ready b_Mo_ready 4 none { frames := 4, cells := 0, slots := 0, locals := 89 } D vCl cA sh_Mo 22 [.inr (.inr 0), .inl (nI to), .inl (nI v), .inl (nI at_)] (S) (mw_Pv (fun S' => mR cn fv (a_ready fy σ to v at_) S')) := by
  refine mw_M_of (by decide) (Nat.le_of_ble_eq_true rfl) ?_
  intro p e s m args below meth c A ad C hR
  refine mw_aload_n C 0 d_Mo_ready_0 rfl rfl ?_
  refine mw_getr C f_Mo_30 d_Mo_ready_1 (by decide) rfl rfl ?_
  refine mw_iload_n C 3 d_Mo_ready_4 rfl rfl ?_
  refine mo_zald C h d_Mo_ready_5 (by decide) rfl rfl (by omega) (by decide) ?_
  refine mw_if_eqN C 10 d_Mo_ready_6 (by decide) (by omega) (fun h6 => ?_) (fun h6 => ?_)
  ·
    refine mw_aload_n C 0 d_Mo_ready_10 rfl rfl ?_
    refine mw_getr C f_Mo_30 d_Mo_ready_11 (by decide) rfl rfl ?_
    refine mw_iload_n C 3 d_Mo_ready_14 rfl rfl ?_
    refine mw_iconst C (v := nI 1) d_Mo_ready_15 (by decide) ?_
    refine mo_zast C rfl h d_Mo_ready_16 (by decide) rfl rfl (by omega) (by decide) (by decide) (fun S h => ?_)
    refine mw_aload_n C 0 d_Mo_ready_17 rfl rfl ?_
    refine mw_iconst C (v := nI 2) d_Mo_ready_18 (by decide) ?_
    refine mw_iload_n C 1 d_Mo_ready_19 rfl rfl ?_
    refine mw_iload_n C 2 d_Mo_ready_20 rfl rfl ?_
    refine mo_runv C rfl (mw_invV C (kk := 0) (m_Mo_broadcast l D cA cn fv (a_up σ 7 at_ 1) fy 2 to v _ (mR_rs h) hfy (by decide) ht hv (by rw [a_up_f _ _ _ _ (by decide)]; exact hm)) ix_Mo kb_Mo_120 wm_Mo_broadcast wv_Mo_broadcast (by decide) rfl rfl d_Mo_ready_21 rfl rfl (Nat.le_of_ble_eq_true rfl) rfl rfl ⟨by decide, by decide⟩ ⟨Nat.zero_le _, Nat.zero_le _⟩) (fun S h => ?_)
    refine mw_vret C hR d_Mo_ready_24 ?_
    unfold a_ready
    rw [if_pos h6]
    exact h
  ·
    refine mw_vret C hR d_Mo_ready_9 ?_
    unfold a_ready
    rw [if_neg (by omega)]
    exact h
theorem a_noted_le (f : Nat → Nat) (at_ v : Nat) : ∀ k, a_noted f at_ v k ≤ k
  | 0 => Nat.le_refl 0
  | k + 1 => by
    have := a_noted_le f at_ v k
    unfold a_noted
    split <;> omega
set_option maxHeartbeats 4000000 in
set_option maxRecDepth 100000 in
theorem m_Mo_echoComes (l : Launch) (D : va_G) (cA : Nat → ClassId) (cn fv : Int32) (σ : aS) (fy fr to v at_ : Nat) (S : mw_S) (h : mR cn fv σ S) (hfy : fyR fv fy) (hf : fr < 4) (ht : to < 4) (hv : v < 80) (ha : at_ < 192) (h12 : ∀ j, σ.1 12 j < 80) (h7 : σ.1 7 at_ ≤ 1) (hm : σ.1 0 12 + 4 ≤ 2400) : mw_M true l lw_tbl y_Mo_echoComes b_Mo_echoComes 5 none { frames := 5, cells := 0, slots := 0, locals := 112 } D vCl cA sh_Mo 22 [.inr (.inr 0), .inl (nI fr), .inl (nI to), .inl (nI v), .inl (nI at_)] (S) (mw_Pv (fun S' => mR cn fv (a_echoC fy σ fr to v at_) S')) := by
  refine mw_M_of (by decide) (Nat.le_of_ble_eq_true rfl) ?_
  intro p e s m args below meth c A ad C hR
  have h12a := h12 (4 * at_ + fr)
  refine mw_aload_n C 0 d_Mo_echoComes_0 rfl rfl ?_
  refine mw_getr C f_Mo_45 d_Mo_echoComes_1 (by decide) rfl rfl ?_
  refine mw_iconst C (v := nI 4) d_Mo_echoComes_4 (by decide) ?_
  refine mw_iload C d_Mo_echoComes_5 rfl ?_
  refine mw_imulN C d_Mo_echoComes_7 ?_
  refine mw_iload_n C 1 d_Mo_echoComes_8 rfl rfl ?_
  refine mw_iaddN C d_Mo_echoComes_9 ?_
  refine mo_ald C h d_Mo_echoComes_10 (by decide) rfl rfl (by omega) (by decide) ?_
  refine mw_if_eqN C 15 d_Mo_echoComes_11 (by decide) (by omega) (fun h11 => ?_) (fun h11 => ?_)
  ·
    refine mw_aload_n C 0 d_Mo_echoComes_15 rfl rfl ?_
    refine mw_getr C f_Mo_45 d_Mo_echoComes_16 (by decide) rfl rfl ?_
    refine mw_iconst C (v := nI 4) d_Mo_echoComes_19 (by decide) ?_
    refine mw_iload C d_Mo_echoComes_20 rfl ?_
    refine mw_imulN C d_Mo_echoComes_22 ?_
    refine mw_iload_n C 1 d_Mo_echoComes_23 rfl rfl ?_
    refine mw_iaddN C d_Mo_echoComes_24 ?_
    refine mw_iload_n C 3 d_Mo_echoComes_25 rfl rfl ?_
    refine mo_ast C rfl h d_Mo_echoComes_26 (by decide) rfl rfl (by omega) (by decide) (fun S h => ?_)
    refine mw_aload_n C 0 d_Mo_echoComes_27 rfl rfl ?_
    refine mw_getr C f_Mo_45 d_Mo_echoComes_28 (by decide) rfl rfl ?_
    refine mw_iload C d_Mo_echoComes_31 rfl ?_
    refine mw_iload_n C 3 d_Mo_echoComes_33 rfl rfl ?_
    have hb12 : ∀ j, (a_up σ 12 (4 * at_ + fr) v).1 12 j < 80 := fun j => by
      rw [a_up_at]
      split
      · exact hv
      · exact h12 j
    have hle := a_noted_le ((a_up σ 12 (4 * at_ + fr) v).1 12) at_ v 4
    refine mw_run0i C ix_I_Mo12 (mw_invS C (m_Mo_noted l D cA ((a_up σ 12 (4 * at_ + fr) v).1 12) at_ v _ (fun j => h.2.2.2.2.1 12 j rfl) (fun j => Nat.lt_trans (hb12 j) (by decide)) ha hv) ix_I_Mo12 kb_Mo_124 ws_Mo_noted d_Mo_echoComes_34 rfl rfl (Nat.le_of_ble_eq_true rfl) rfl rfl ⟨by decide, by decide⟩ ⟨Nat.zero_le _, Nat.zero_le _⟩) (fun x34 e34 => ?_)
    subst e34
    refine mw_iconst C (v := nI 3) d_Mo_echoComes_37 (by decide) ?_
    refine mw_icmp_ltN C 49 d_Mo_echoComes_38 (by decide) (by omega) (by omega) (fun h38 => ?_) (fun h38 => ?_)
    ·
      refine mw_vret C hR d_Mo_echoComes_49 ?_
      unfold a_echoC
      rw [if_pos h11, if_neg (by omega)]
      exact h
    ·
      refine mw_aload_n C 0 d_Mo_echoComes_41 rfl rfl ?_
      refine mw_iload_n C 2 d_Mo_echoComes_42 rfl rfl ?_
      refine mw_iload_n C 3 d_Mo_echoComes_43 rfl rfl ?_
      refine mw_iload C d_Mo_echoComes_44 rfl ?_
      refine mo_runv C rfl (mw_invV C (kk := 0) (m_Mo_ready l D cA cn fv _ fy to v at_ _ (mR_rs h) hfy ht hv ha (by rw [a_up_f _ _ _ _ (by decide)]; exact h7) (by rw [a_up_f _ _ _ _ (by decide)]; exact hm)) ix_Mo kb_Mo_128 wm_Mo_ready wv_Mo_ready (by decide) rfl rfl d_Mo_echoComes_46 rfl rfl (Nat.le_of_ble_eq_true rfl) rfl rfl ⟨by decide, by decide⟩ ⟨Nat.zero_le _, Nat.zero_le _⟩) (fun S h => ?_)
      refine mw_vret C hR d_Mo_echoComes_49 ?_
      unfold a_echoC
      rw [if_pos h11, if_pos (by omega)]
      exact h
  ·
    refine mw_vret C hR d_Mo_echoComes_14 ?_
    unfold a_echoC
    rw [if_neg (by omega)]
    exact h
theorem mo_pop4 : ∀ k, k < 16 → (nI k &&& nI 1) + ((nI k >>> (nI 1 &&& 31)) &&& nI 1) + ((nI k >>> (nI 2 &&& 31)) &&& nI 1) + ((nI k >>> (nI 3 &&& 31)) &&& nI 1) = nI (pop4 k) := by decide +kernel
set_option maxHeartbeats 4000000 in
set_option maxRecDepth 100000 in
theorem m_Mo_bits (l : Launch) (D : va_G) (cA : Nat → ClassId) (k : Nat) (hk : k < 16) (S : mw_S) : mw_M false l lw_tbl y_Mo_bits b_Mo_bits 1 (some .int) { frames := 0, cells := 0, slots := 0, locals := 0 } D vCl cA sh0 0 [.inl (nI k)] (S) (mw_Pi (fun r _ => r = nI (pop4 k))) := by
  refine mw_M_of (by decide) (Nat.le_of_ble_eq_true rfl) ?_
  intro p e s m args below meth c A ad C hR
  refine mw_iload_n C 0 d_Mo_bits_0 rfl rfl ?_
  refine mw_iconst C (v := nI 1) d_Mo_bits_1 (by decide) ?_
  refine mw_iand C d_Mo_bits_2 ?_
  refine mw_iload_n C 0 d_Mo_bits_3 rfl rfl ?_
  refine mw_iconst C (v := nI 1) d_Mo_bits_4 (by decide) ?_
  refine mw_ishr C d_Mo_bits_5 ?_
  refine mw_iconst C (v := nI 1) d_Mo_bits_6 (by decide) ?_
  refine mw_iand C d_Mo_bits_7 ?_
  refine mw_iadd C d_Mo_bits_8 ?_
  refine mw_iload_n C 0 d_Mo_bits_9 rfl rfl ?_
  refine mw_iconst C (v := nI 2) d_Mo_bits_10 (by decide) ?_
  refine mw_ishr C d_Mo_bits_11 ?_
  refine mw_iconst C (v := nI 1) d_Mo_bits_12 (by decide) ?_
  refine mw_iand C d_Mo_bits_13 ?_
  refine mw_iadd C d_Mo_bits_14 ?_
  refine mw_iload_n C 0 d_Mo_bits_15 rfl rfl ?_
  refine mw_iconst C (v := nI 3) d_Mo_bits_16 (by decide) ?_
  refine mw_ishr C d_Mo_bits_17 ?_
  refine mw_iconst C (v := nI 1) d_Mo_bits_18 (by decide) ?_
  refine mw_iand C d_Mo_bits_19 ?_
  refine mw_iadd C d_Mo_bits_20 ?_
  refine mw_iret C hR d_Mo_bits_21 ?_
  exact mo_pop4 k hk
end
section
/-! the reference's methods: sets, vertices, transfers -/
theorem lb_sar (x : Int64) {q : Nat} (hq : q < 64) : lb (x >>> ((nI q).toInt64 &&& 63)) 0 = lb x q := by
  rw [wb_c q hq]
  unfold lb
  show (BitVec.sshiftRight' x.toBitVec ((lN q).toBitVec.smod 64)).getLsbD 0 = _
  rw [wb_tb, wb_sm q hq, BitVec.sshiftRight', BitVec.getLsbD_sshiftRight, BitVec.toNat_ofNat, Nat.mod_eq_of_lt (by omega)]
  simp [hq]
theorem lb_one (i : Nat) : lb 1 i = decide (i = 0) := by
  rw [show (1 : Int64) = lN (2 ^ 0) from by decide]
  exact lb_pow (by decide) i
theorem lb_is1 (x : Int64) {q : Nat} (hq : q < 64) : (x >>> ((nI q).toInt64 &&& 63)) &&& 1 = 1 ↔ lb x q = true := by
  rw [← lb_sar x hq]
  constructor
  · intro h
    have h1 := congrArg (fun z => lb z 0) h
    simp only [lb_and, lb_one] at h1
    simpa using h1
  · intro h
    apply lb_ext
    intro i hi
    rw [lb_and, lb_one]
    by_cases e : i = 0
    · subst e; simp [h]
    · simp [e]
theorem lb_is0 (x : Int64) {q : Nat} (hq : q < 64) : (x >>> ((nI q).toInt64 &&& 63)) &&& 1 = 0 ↔ lb x q = false := by
  rw [← lb_sar x hq]
  constructor
  · intro h
    have h1 := congrArg (fun z => lb z 0) h
    simp only [lb_and, lb_one, lb_0] at h1
    simpa using h1
  · intro h
    apply lb_ext
    intro i hi
    rw [lb_and, lb_one, lb_0]
    by_cases e : i = 0
    · subst e; simp [h]
    · simp [e]
theorem one_shl {q : Nat} (hq : q < 64) : (1 : Int64) <<< ((nI q).toInt64 &&& 63) = lN (2 ^ q) := by
  rw [show (1 : Int64) = lN 1 from by decide, wb_shl 1 hq, Nat.one_mul]
theorem ld_eq (x : Int32) {t : Nat} (ht : t ≤ 4) : (x >>> (nI t &&& 31)) &&& nI 3 = nI (x.toBitVec.toNat / 2 ^ t % 4) := by
  have e1 : (x >>> (nI t &&& 31)) &&& nI 3 = (x.toUInt32 >>> ((nI t).toUInt32 &&& Int32.toUInt32 31)).toInt32 &&& nI 3 := by
    apply b_ext
    intro i hi
    rw [b_and, b_and, b_sshr t (by omega) x hi, b_ushr t (by omega) x i]
    by_cases h2 : i < 2
    · rw [if_pos (by omega)]
    · have h3 : bt (nI 3) i = false := by
        have : ∀ i, i < 32 → ¬ i < 2 → bt (nI 3) i = false := by decide +kernel
        exact this i hi h2
      rw [h3, Bool.and_false, Bool.and_false]
  rw [e1, pk_and _ (m := nI 3) 2 (by decide), pk_ushr x (nI t) t (s_u t (by omega))]
set_option maxHeartbeats 4000000 in
set_option maxRecDepth 100000 in
theorem m_Mo_isRight (l : Launch) (D : va_G) (cA : Nat → ClassId) (cn fv : Int32) (σ : aS) (v : Nat) (S : mw_S) (h : mR cn fv σ S) (hv : v < 80) (hp : σ.1 1 v < 48) (hk : σ.1 2 v < 16) : mw_M false l lw_tbl y_Mo_isRight b_Mo_isRight 5 (some .boolean) { frames := 1, cells := 0, slots := 0, locals := 20 } D vCl cA sh_Mo 22 [.inr (.inr 0), .inl (nI v)] (S) (mw_Pi (fun r _ => r = nI (a_right σ v).toNat)) := by
  refine mw_M_of (by decide) (Nat.le_of_ble_eq_true rfl) ?_
  intro p e s m args below meth c A ad C hR
  have J : ∀ x : Int64, x = lN (2 ^ (4 * (σ.1 1 v / 4 - 1))) - 1 → ¬ σ.1 1 v / 4 = 0 → mw p l e { frames := 1, cells := 0, slots := 0, locals := 20 } s m args below meth c (MQ below (mw_Qc false D vCl cA ad sh_Mo 22 s.heap.size (S) (mw_Pi (fun r _ => r = nI (a_right σ v).toNat))) args s 0 0 A) 0 0 D vCl cA A ad sh_Mo 22 5 (60) ([(2, .inl (nI (σ.1 1 v / 4 + 1))), (0, .inr (.inr 0)), (1, .inl (nI v))]) ([.inr (.inl x)]) (S) := by
    intro x hx hq0
    refine mw_lstore_n C 3 d_Mo_isRight_60 rfl (by decide) ?_
    refine mw_aload_n C 0 d_Mo_isRight_61 rfl rfl ?_
    refine mw_getr C f_Mo_13 d_Mo_isRight_62 (by decide) rfl rfl ?_
    refine mw_iload_n C 1 d_Mo_isRight_65 rfl rfl ?_
    refine mo_ald C h d_Mo_isRight_66 (by decide) rfl rfl (by omega) (by decide) ?_
    refine mw_run0i C (ix0 _ _) (mw_invS C (m_Mo_bits l D cA (σ.1 2 v) hk _) (ix0 _ _) kb_Mo_134 ws_Mo_bits d_Mo_isRight_67 rfl rfl (Nat.le_of_ble_eq_true rfl) rfl rfl ⟨by decide, by decide⟩ ⟨Nat.zero_le _, Nat.zero_le _⟩) (fun x67 e67 => ?_)
    subst e67
    have hp4 := pop4_lt (σ.1 2 v)
    refine mw_iconst C (v := nI 3) d_Mo_isRight_70 (by decide) ?_
    refine mw_icmp_ltN C 95 d_Mo_isRight_71 (by decide) (by omega) (by omega) (fun h71 => ?_) (fun h71 => ?_)
    ·
      refine mw_iconst C (v := nI 0) d_Mo_isRight_95 (by decide) ?_
      refine mw_zret C hR d_Mo_isRight_96 (by decide) ?_
      unfold a_right ve_right
      rw [if_neg hq0, decide_eq_false (by omega)]
      rfl
    ·
      refine mw_aload_n C 0 d_Mo_isRight_74 rfl rfl ?_
      refine mw_getr C f_Mo_16 d_Mo_isRight_75 (by decide) rfl rfl ?_
      refine mw_iload_n C 1 d_Mo_isRight_78 rfl rfl ?_
      refine mo_lald C h d_Mo_isRight_79 (by omega) ?_
      refine mw_lload_n C 3 d_Mo_isRight_80 rfl rfl ?_
      refine mw_ldc2 C kc_Mo_138 d_Mo_isRight_81 ?_
      refine mw_lxor C d_Mo_isRight_84 ?_
      refine mw_land C d_Mo_isRight_85 ?_
      refine mw_lconst C (v := 0) d_Mo_isRight_86 (by decide) ?_
      refine mw_lcmp C d_Mo_isRight_87 ?_
      refine mw_if_ne C 95 d_Mo_isRight_88 (by decide) (fun h88 => ?_) (fun h88 => ?_)
      ·
        refine mw_iconst C (v := nI 0) d_Mo_isRight_95 (by decide) ?_
        refine mw_zret C hR d_Mo_isRight_96 (by decide) ?_
        unfold a_right ve_right
        rw [if_neg hq0, decide_eq_false (p := _ = _) (fun h => h88 ((lg_cmp_eq _ _).mpr (by rw [hx]; exact h))), Bool.and_false]
        rfl
      ·
        refine mw_iconst C (v := nI 1) d_Mo_isRight_91 (by decide) ?_
        refine mw_goto C 96 d_Mo_isRight_92 (by decide) ?_
        refine mw_zret C hR d_Mo_isRight_96 (by decide) ?_
        unfold a_right ve_right
        rw [if_neg hq0, decide_eq_true (by omega), decide_eq_true (p := _ = _) (by
          have h9 := (lg_cmp_eq _ _).mp h88
          rw [hx] at h9
          exact h9)]
        rfl
  refine mw_aload_n C 0 d_Mo_isRight_0 rfl rfl ?_
  refine mw_getr C f_Mo_7 d_Mo_isRight_1 (by decide) rfl rfl ?_
  refine mw_iload_n C 1 d_Mo_isRight_4 rfl rfl ?_
  refine mo_ald C h d_Mo_isRight_5 (by decide) rfl rfl (by omega) (by decide) ?_
  refine mw_iconst C (v := nI 4) d_Mo_isRight_6 (by decide) ?_
  refine mw_idivN C d_Mo_isRight_7 (by omega) (by decide) (by decide) ?_
  refine mw_iconst C (v := nI 1) d_Mo_isRight_8 (by decide) ?_
  refine mw_iaddN C d_Mo_isRight_9 ?_
  refine mw_istore_n C 2 d_Mo_isRight_10 rfl (by decide) ?_
  refine mw_iload_n C 2 d_Mo_isRight_11 rfl rfl ?_
  refine mw_iconst C (v := nI 1) d_Mo_isRight_12 (by decide) ?_
  refine mw_icmp_neN C 42 d_Mo_isRight_13 (by decide) (by omega) (by omega) (fun h13 => ?_) (fun h13 => ?_)
  ·
    refine mw_iload_n C 2 d_Mo_isRight_42 rfl rfl ?_
    refine mw_iconst C (v := nI 3) d_Mo_isRight_43 (by decide) ?_
    refine mw_icmp_geN C 51 d_Mo_isRight_44 (by decide) (by omega) (by omega) (fun h44 => ?_) (fun h44 => ?_)
    ·
      refine mw_lconst C (v := 1) d_Mo_isRight_51 (by decide) ?_
      refine mw_iconst C (v := nI 4) d_Mo_isRight_52 (by decide) ?_
      refine mw_iload_n C 2 d_Mo_isRight_53 rfl rfl ?_
      refine mw_iconst C (v := nI 2) d_Mo_isRight_54 (by decide) ?_
      refine mw_isubN C d_Mo_isRight_55 (by omega) ?_
      refine mw_imulN C d_Mo_isRight_56 ?_
      refine mw_eqi (show _ = nI (4 * (σ.1 1 v / 4 - 1)) from by congr 1) ?_
      refine mw_lshl C d_Mo_isRight_57 ?_
      refine mw_eql (one_shl (by omega)) ?_
      refine mw_lconst C (v := 1) d_Mo_isRight_58 (by decide) ?_
      refine mw_lsub C d_Mo_isRight_59 ?_
      exact mw_to _ (by exact And.intro rfl (And.intro rfl (And.intro rfl (trivial)))) (J _ rfl (by omega))
    ·
      refine mw_lconst C (v := 0) d_Mo_isRight_47 (by decide) ?_
      refine mw_goto C 60 d_Mo_isRight_48 (by decide) ?_
      exact mw_to _ (by exact And.intro rfl (And.intro rfl (And.intro rfl (trivial)))) (J 0 (by rw [show σ.1 1 v / 4 - 1 = 0 from by omega]; decide) (by omega))
  ·
    refine mw_aload_n C 0 d_Mo_isRight_16 rfl rfl ?_
    refine mw_getr C f_Mo_13 d_Mo_isRight_17 (by decide) rfl rfl ?_
    refine mw_iload_n C 1 d_Mo_isRight_20 rfl rfl ?_
    refine mo_ald C h d_Mo_isRight_21 (by decide) rfl rfl (by omega) (by decide) ?_
    refine mw_if_neN C 40 d_Mo_isRight_22 (by decide) (by omega) (fun h22 => ?_) (fun h22 => ?_)
    ·
      refine mw_iconst C (v := nI 0) d_Mo_isRight_40 (by decide) ?_
      refine mw_zret C hR d_Mo_isRight_41 (by decide) ?_
      unfold a_right ve_right
      rw [if_pos (by omega), decide_eq_false (by omega)]
      rfl
    ·
      refine mw_aload_n C 0 d_Mo_isRight_25 rfl rfl ?_
      refine mw_getr C f_Mo_16 d_Mo_isRight_26 (by decide) rfl rfl ?_
      refine mw_iload_n C 1 d_Mo_isRight_29 rfl rfl ?_
      refine mo_lald C h d_Mo_isRight_30 (by omega) ?_
      refine mw_lconst C (v := 0) d_Mo_isRight_31 (by decide) ?_
      refine mw_lcmp C d_Mo_isRight_32 ?_
      refine mw_if_ne C 40 d_Mo_isRight_33 (by decide) (fun h33 => ?_) (fun h33 => ?_)
      ·
        refine mw_iconst C (v := nI 0) d_Mo_isRight_40 (by decide) ?_
        refine mw_zret C hR d_Mo_isRight_41 (by decide) ?_
        unfold a_right ve_right
        rw [if_pos (by omega), decide_eq_false (p := _ = _) (fun h => h33 ((lg_cmp_eq _ _).mpr h)), Bool.and_false]
        rfl
      ·
        refine mw_iconst C (v := nI 1) d_Mo_isRight_36 (by decide) ?_
        refine mw_goto C 41 d_Mo_isRight_37 (by decide) ?_
        refine mw_zret C hR d_Mo_isRight_41 (by decide) ?_
        unfold a_right ve_right
        rw [if_pos (by omega), decide_eq_true h22, decide_eq_true (p := _ = _) ((lg_cmp_eq _ _).mp h33)]
        rfl
set_option maxHeartbeats 4000000 in
set_option maxRecDepth 100000 in
theorem m_Mo_points (l : Launch) (D : va_G) (cA : Nat → ClassId) (cn fv : Int32) (σ : aS) (v so : Nat) (S : mw_S) (h : mR cn fv σ S) (hv : v < 80) (hp : σ.1 1 v < 48) (hk : σ.1 2 v < 16) (hs : so ≤ 1) : mw_M false l lw_tbl y_Mo_points b_Mo_points 6 (some .long) { frames := 0, cells := 0, slots := 0, locals := 0 } D vCl cA sh_Mo 22 [.inr (.inr 0), .inl (nI v), .inl (nI so)] (S) (mw_Pl (fun r _ => r = a_points σ v (decide (so = 1)))) := by
  refine mw_M_of (by decide) (Nat.le_of_ble_eq_true rfl) ?_
  intro p e s m args below meth c A ad C hR
  have J : mw p l e { frames := 0, cells := 0, slots := 0, locals := 0 } s m args below meth c (MQ below (mw_Qc false D vCl cA ad sh_Mo 22 s.heap.size (S) (mw_Pl (fun r _ => r = a_points σ v (decide (so = 1))))) args s 0 0 A) 0 0 D vCl cA A ad sh_Mo 22 6 (33) ([(3, .inl (nI (σ.1 1 v / 4 + 1))), (0, .inr (.inr 0)), (1, .inl (nI v)), (2, .inl (nI so))]) ([.inr (.inl (ve_down (σ.1 1 v) (σ.1 2 v)))]) (S) := by
    refine mw_lstore C d_Mo_points_33 (by decide) ?_
    refine mw_iload_n C 2 d_Mo_points_35 rfl rfl ?_
    refine mw_if_eqN C 44 d_Mo_points_36 (by decide) (by omega) (fun h36 => ?_) (fun h36 => ?_)
    ·
      refine mw_lload C d_Mo_points_44 rfl ?_
      refine mw_aload_n C 0 d_Mo_points_46 rfl rfl ?_
      refine mw_getr C f_Mo_16 d_Mo_points_47 (by decide) rfl rfl ?_
      refine mw_iload_n C 1 d_Mo_points_50 rfl rfl ?_
      refine mo_lald C h d_Mo_points_51 (by omega) ?_
      refine mw_lor C d_Mo_points_52 ?_
      refine mw_lret C hR d_Mo_points_53 ?_
      unfold a_points
      rw [if_neg (by rw [h36]; decide)]
    ·
      refine mw_lload C d_Mo_points_39 rfl ?_
      refine mw_goto C 53 d_Mo_points_41 (by decide) ?_
      refine mw_lret C hR d_Mo_points_53 ?_
      unfold a_points
      rw [if_pos (by rw [show so = 1 from by omega]; rfl)]
  refine mw_aload_n C 0 d_Mo_points_0 rfl rfl ?_
  refine mw_getr C f_Mo_7 d_Mo_points_1 (by decide) rfl rfl ?_
  refine mw_iload_n C 1 d_Mo_points_4 rfl rfl ?_
  refine mo_ald C h d_Mo_points_5 (by decide) rfl rfl (by omega) (by decide) ?_
  refine mw_iconst C (v := nI 4) d_Mo_points_6 (by decide) ?_
  refine mw_idivN C d_Mo_points_7 (by omega) (by decide) (by decide) ?_
  refine mw_iconst C (v := nI 1) d_Mo_points_8 (by decide) ?_
  refine mw_iaddN C d_Mo_points_9 ?_
  refine mw_istore_n C 3 d_Mo_points_10 rfl (by decide) ?_
  refine mw_iload_n C 3 d_Mo_points_11 rfl rfl ?_
  refine mw_iconst C (v := nI 1) d_Mo_points_12 (by decide) ?_
  refine mw_icmp_neN C 20 d_Mo_points_13 (by decide) (by omega) (by omega) (fun h13 => ?_) (fun h13 => ?_)
  ·
    refine mw_aload_n C 0 d_Mo_points_20 rfl rfl ?_
    refine mw_getr C f_Mo_13 d_Mo_points_21 (by decide) rfl rfl ?_
    refine mw_iload_n C 1 d_Mo_points_24 rfl rfl ?_
    refine mo_ald C h d_Mo_points_25 (by decide) rfl rfl (by omega) (by decide) ?_
    refine mw_i2l C d_Mo_points_26 ?_
    refine mw_iconst C (v := nI 4) d_Mo_points_27 (by decide) ?_
    refine mw_iload_n C 3 d_Mo_points_28 rfl rfl ?_
    refine mw_iconst C (v := nI 2) d_Mo_points_29 (by decide) ?_
    refine mw_isubN C d_Mo_points_30 (by omega) ?_
    refine mw_imulN C d_Mo_points_31 ?_
    refine mw_eqi (show _ = nI (4 * (σ.1 1 v / 4 - 1)) from by congr 1) ?_
    refine mw_lshl C d_Mo_points_32 ?_
    refine mw_eql (show _ = ve_down (σ.1 1 v) (σ.1 2 v) from by
      unfold ve_down
      rw [if_neg (by omega), nI_l (by omega), wb_shl _ (by omega)]) ?_
    exact mw_to _ (by exact And.intro rfl (And.intro rfl (And.intro rfl (And.intro rfl (trivial))))) J
  ·
    refine mw_lconst C (v := 0) d_Mo_points_16 (by decide) ?_
    refine mw_goto C 33 d_Mo_points_17 (by decide) ?_
    refine mw_eql (show _ = ve_down (σ.1 1 v) (σ.1 2 v) from by
      unfold ve_down
      rw [if_pos (by omega)]) ?_
    exact mw_to _ (by exact And.intro rfl (And.intro rfl (And.intro rfl (And.intro rfl (trivial))))) J
set_option maxHeartbeats 4000000 in
set_option maxRecDepth 100000 in
theorem m_Mo_graphOf (l : Launch) (D : va_G) (cA : Nat → ClassId) (cn fv : Int32) (σ : aS) (node : Nat) (S : mw_S) (h : mR cn fv σ S) (hn : node < 4) (h9 : ∀ j, σ.1 9 j ≤ 1) : mw_M false l lw_tbl y_Mo_graphOf b_Mo_graphOf 5 (some .long) { frames := 0, cells := 0, slots := 0, locals := 0 } D vCl cA sh_Mo 22 [.inr (.inr 0), .inl (nI node)] (S) (mw_Pl (fun r _ => r = a_graphN σ node 48)) := by
  refine mw_M_of (by decide) (Nat.le_of_ble_eq_true rfl) ?_
  intro p e s m args below meth c A ad C hR
  have L : ∀ (dd i : Nat), i + dd = 48 → mw p l e { frames := 0, cells := 0, slots := 0, locals := 0 } s m args below meth c (MQ below (mw_Qc false D vCl cA ad sh_Mo 22 s.heap.size (S) (mw_Pl (fun r _ => r = a_graphN σ node 48))) args s 0 0 A) 0 0 D vCl cA A ad sh_Mo 22 5 (5) ([(4, .inl (nI i)), (2, .inr (.inl (a_graphN σ node i))), (0, .inr (.inr 0)), (1, .inl (nI node))]) ([]) (S) := by
    intro dd
    induction dd with
    | zero =>
      intro i hi
      refine mw_iload C d_Mo_graphOf_5 rfl ?_
      refine mw_bipush C (v := nI 48) d_Mo_graphOf_7 (by decide) ?_
      refine mw_icmp_geN C 44 d_Mo_graphOf_9 (by decide) (by omega) (by omega) (fun h9 => ?_) (fun h9 => ?_)
      ·
        refine mw_lload_n C 2 d_Mo_graphOf_44 rfl rfl ?_
        refine mw_lret C hR d_Mo_graphOf_45 ?_
        rw [show i = 48 from by omega]
      · exfalso; omega
    | succ dd ih =>
      intro i hi
      have h9i := h9 (48 * node + i)
      refine mw_iload C d_Mo_graphOf_5 rfl ?_
      refine mw_bipush C (v := nI 48) d_Mo_graphOf_7 (by decide) ?_
      refine mw_icmp_geN C 44 d_Mo_graphOf_9 (by decide) (by omega) (by omega) (fun h9 => ?_) (fun h9 => ?_)
      · exfalso; omega
      ·
        refine mw_aload_n C 0 d_Mo_graphOf_12 rfl rfl ?_
        refine mw_getr C f_Mo_36 d_Mo_graphOf_13 (by decide) rfl rfl ?_
        refine mw_bipush C (v := nI 48) d_Mo_graphOf_16 (by decide) ?_
        refine mw_iload_n C 1 d_Mo_graphOf_18 rfl rfl ?_
        refine mw_imulN C d_Mo_graphOf_19 ?_
        refine mw_iload C d_Mo_graphOf_20 rfl ?_
        refine mw_iaddN C d_Mo_graphOf_22 ?_
        refine mo_zald C h d_Mo_graphOf_23 (by decide) rfl rfl (by omega) (by decide) ?_
        refine mw_if_eqN C 36 d_Mo_graphOf_24 (by decide) (by omega) (fun h24 => ?_) (fun h24 => ?_)
        ·
          refine mw_lload_n C 2 d_Mo_graphOf_36 rfl rfl ?_
          refine mw_lstore_n C 2 d_Mo_graphOf_37 rfl (by decide) ?_
          refine mw_iincN C d_Mo_graphOf_38 rfl (by decide) ?_
          refine mw_goto C 5 d_Mo_graphOf_41 (by decide) ?_
          refine mw_eq _ _ _ (by exact And.intro rfl (And.intro (by show some (Sum.inr (Sum.inl _)) = _; rw [a_graphN, if_pos h24]) (And.intro rfl (And.intro rfl trivial)))) rfl rfl (ih (i + 1) (by omega))
        ·
          refine mw_lload_n C 2 d_Mo_graphOf_27 rfl rfl ?_
          refine mw_lconst C (v := 1) d_Mo_graphOf_28 (by decide) ?_
          refine mw_iload C d_Mo_graphOf_29 rfl ?_
          refine mw_lshl C d_Mo_graphOf_31 ?_
          refine mw_eql (one_shl (by omega)) ?_
          refine mw_lor C d_Mo_graphOf_32 ?_
          refine mw_goto C 37 d_Mo_graphOf_33 (by decide) ?_
          refine mw_lstore_n C 2 d_Mo_graphOf_37 rfl (by decide) ?_
          refine mw_iincN C d_Mo_graphOf_38 rfl (by decide) ?_
          refine mw_goto C 5 d_Mo_graphOf_41 (by decide) ?_
          refine mw_eq _ _ _ (by exact And.intro rfl (And.intro (by show some (Sum.inr (Sum.inl _)) = _; rw [a_graphN, if_neg (by omega)]) (And.intro rfl (And.intro rfl trivial)))) rfl rfl (ih (i + 1) (by omega))
  refine mw_lconst C (v := 0) d_Mo_graphOf_0 (by decide) ?_
  refine mw_lstore_n C 2 d_Mo_graphOf_1 rfl (by decide) ?_
  refine mw_iconst C (v := nI 0) d_Mo_graphOf_2 (by decide) ?_
  refine mw_istore C d_Mo_graphOf_3 (by decide) ?_
  exact mw_to _ (by exact And.intro rfl (And.intro rfl (And.intro rfl (And.intro rfl (trivial))))) (L 48 0 rfl)
set_option maxHeartbeats 4000000 in
set_option maxRecDepth 100000 in
theorem m_Mo_below (l : Launch) (D : va_G) (cA : Nat → ClassId) (cn fv : Int32) (σ : aS) (node so : Nat) (x : Int64) (S : mw_S) (h : mR cn fv σ S) (hn : node < 4) (hs : so ≤ 1) (h8 : ∀ q, q < 48 → σ.1 8 (48 * node + q) < 80) (hp : ∀ u, σ.1 1 u < 48) (hk : ∀ u, σ.1 2 u < 16) : mw_M false l lw_tbl y_Mo_below b_Mo_below 9 (some .long) { frames := 1, cells := 0, slots := 0, locals := 25 } D vCl cA sh_Mo 22 [.inr (.inr 0), .inl (nI node), .inr (.inl x), .inl (nI so)] (S) (mw_Pl (fun r _ => r = a_below σ node (decide (so = 1)) 48 x)) := by
  refine mw_M_of (by decide) (Nat.le_of_ble_eq_true rfl) ?_
  intro p e s m args below meth c A ad C hR
  have L : ∀ (i : Nat) (y : Int64), i ≤ 47 → a_below σ node (decide (so = 1)) (i + 1) y = a_below σ node (decide (so = 1)) 48 x → mw p l e { frames := 1, cells := 0, slots := 0, locals := 25 } s m args below meth c (MQ below (mw_Qc false D vCl cA ad sh_Mo 22 s.heap.size (S) (mw_Pl (fun r _ => r = a_below σ node (decide (so = 1)) 48 x))) args s 0 0 A) 0 0 D vCl cA A ad sh_Mo 22 9 (7) ([(7, .inl (nI i)), (5, .inr (.inl y)), (0, .inr (.inr 0)), (1, .inl (nI node)), (4, .inl (nI so))]) ([]) (S) := by
    intro i
    induction i with
    | zero =>
      intro y hi hy
      have h8i := h8 0 (by decide)
      refine mw_iload C d_Mo_below_7 rfl ?_
      refine mw_if_ltN C 62 d_Mo_below_9 (by decide) (by omega) ?_
      refine mw_aload_n C 0 d_Mo_below_12 rfl rfl ?_
      refine mw_getr C f_Mo_33 d_Mo_below_13 (by decide) rfl rfl ?_
      refine mw_bipush C (v := nI 48) d_Mo_below_16 (by decide) ?_
      refine mw_iload_n C 1 d_Mo_below_18 rfl rfl ?_
      refine mw_imulN C d_Mo_below_19 ?_
      refine mw_iload C d_Mo_below_20 rfl ?_
      refine mw_iaddN C d_Mo_below_22 ?_
      refine mo_ald C h d_Mo_below_23 (by decide) rfl rfl (by omega) (by decide) ?_
      refine mw_istore C d_Mo_below_24 (by decide) ?_
      refine mw_lload C d_Mo_below_26 rfl ?_
      refine mw_iload C d_Mo_below_28 rfl ?_
      refine mw_lshr C d_Mo_below_30 ?_
      refine mw_lconst C (v := 1) d_Mo_below_31 (by decide) ?_
      refine mw_land C d_Mo_below_32 ?_
      refine mw_lconst C (v := 1) d_Mo_below_33 (by decide) ?_
      refine mw_lcmp C d_Mo_below_34 ?_
      refine mw_if_ne C 56 d_Mo_below_35 (by decide) (fun h35 => ?_) (fun h35 => ?_)
      ·
        refine mw_iinc C d_Mo_below_56 rfl rfl (by decide) ?_
        refine mw_goto C 7 d_Mo_below_59 (by decide) ?_
        refine mw_iload C d_Mo_below_7 rfl ?_
        refine mw_if_lt C 62 d_Mo_below_9 (by decide) (fun _ => ?_) (fun h9 => absurd (by decide) h9)
        refine mw_lload C d_Mo_below_62 rfl ?_
        refine mw_lret C hR d_Mo_below_64 ?_
        have hb : ¬ lb y 0 = true := fun hb => h35 ((lg_cmp_eq _ _).mpr ((lb_is1 y (by decide)).mpr hb))
        rw [← hy, a_below, if_neg (fun h => hb h.1)]
        rfl
      ·
        have hb : lb y 0 = true := (lb_is1 y (by decide)).mp ((lg_cmp_eq _ _).mp h35)
        refine mw_iload C d_Mo_below_38 rfl ?_
        refine mw_if_leN C 56 d_Mo_below_40 (by decide) (by omega) (fun h40 => ?_) (fun h40 => ?_)
        ·
          refine mw_iinc C d_Mo_below_56 rfl rfl (by decide) ?_
          refine mw_goto C 7 d_Mo_below_59 (by decide) ?_
          refine mw_iload C d_Mo_below_7 rfl ?_
          refine mw_if_lt C 62 d_Mo_below_9 (by decide) (fun _ => ?_) (fun h9 => absurd (by decide) h9)
          refine mw_lload C d_Mo_below_62 rfl ?_
          refine mw_lret C hR d_Mo_below_64 ?_
          rw [← hy, a_below, if_neg (fun h => by omega)]
          rfl
        ·
          refine mw_lload C d_Mo_below_43 rfl ?_
          refine mw_aload_n C 0 d_Mo_below_45 rfl rfl ?_
          refine mw_iload C d_Mo_below_46 rfl ?_
          refine mw_iload C d_Mo_below_48 rfl ?_
          refine mw_run0l C ix_Mo (mw_invV C (kk := 0) (m_Mo_points l D cA cn fv σ (σ.1 8 (48 * node + 0)) so _ (mR_rs h) h8i (hp _) (hk _) hs) ix_Mo kb_Mo_147 wm_Mo_points wv_Mo_points (by decide) rfl rfl d_Mo_below_50 rfl rfl (Nat.le_of_ble_eq_true rfl) rfl rfl ⟨by decide, by decide⟩ ⟨Nat.zero_le _, Nat.zero_le _⟩) (fun x50 e50 => ?_)
          subst e50
          refine mw_lor C d_Mo_below_53 ?_
          refine mw_lstore C d_Mo_below_54 (by decide) ?_
          refine mw_iinc C d_Mo_below_56 rfl rfl (by decide) ?_
          refine mw_goto C 7 d_Mo_below_59 (by decide) ?_
          refine mw_iload C d_Mo_below_7 rfl ?_
          refine mw_if_lt C 62 d_Mo_below_9 (by decide) (fun _ => ?_) (fun h9 => absurd (by decide) h9)
          refine mw_lload C d_Mo_below_62 rfl ?_
          refine mw_lret C hR d_Mo_below_64 ?_
          rw [← hy, a_below, if_pos ⟨hb, h40⟩]
          rfl
    | succ i ih =>
      intro y hi hy
      have h8i := h8 (i + 1) (by omega)
      refine mw_iload C d_Mo_below_7 rfl ?_
      refine mw_if_ltN C 62 d_Mo_below_9 (by decide) (by omega) ?_
      refine mw_aload_n C 0 d_Mo_below_12 rfl rfl ?_
      refine mw_getr C f_Mo_33 d_Mo_below_13 (by decide) rfl rfl ?_
      refine mw_bipush C (v := nI 48) d_Mo_below_16 (by decide) ?_
      refine mw_iload_n C 1 d_Mo_below_18 rfl rfl ?_
      refine mw_imulN C d_Mo_below_19 ?_
      refine mw_iload C d_Mo_below_20 rfl ?_
      refine mw_iaddN C d_Mo_below_22 ?_
      refine mo_ald C h d_Mo_below_23 (by decide) rfl rfl (by omega) (by decide) ?_
      refine mw_istore C d_Mo_below_24 (by decide) ?_
      refine mw_lload C d_Mo_below_26 rfl ?_
      refine mw_iload C d_Mo_below_28 rfl ?_
      refine mw_lshr C d_Mo_below_30 ?_
      refine mw_lconst C (v := 1) d_Mo_below_31 (by decide) ?_
      refine mw_land C d_Mo_below_32 ?_
      refine mw_lconst C (v := 1) d_Mo_below_33 (by decide) ?_
      refine mw_lcmp C d_Mo_below_34 ?_
      refine mw_if_ne C 56 d_Mo_below_35 (by decide) (fun h35 => ?_) (fun h35 => ?_)
      ·
        have hb : ¬ lb y (i + 1) = true := fun hb => h35 ((lg_cmp_eq _ _).mpr ((lb_is1 y (by omega)).mpr hb))
        refine mw_idecN C d_Mo_below_56 rfl (by decide) ?_
        refine mw_goto C 7 d_Mo_below_59 (by decide) ?_
        exact mw_to _ (by exact And.intro rfl (And.intro rfl (And.intro rfl (And.intro rfl (And.intro rfl (trivial)))))) (ih y (by omega) (by rw [← hy]; conv => rhs; rw [a_below, if_neg (fun h => hb h.1)]))
      ·
        have hb : lb y (i + 1) = true := (lb_is1 y (by omega)).mp ((lg_cmp_eq _ _).mp h35)
        refine mw_iload C d_Mo_below_38 rfl ?_
        refine mw_if_leN C 56 d_Mo_below_40 (by decide) (by omega) (fun h40 => ?_) (fun h40 => ?_)
        ·
          refine mw_idecN C d_Mo_below_56 rfl (by decide) ?_
          refine mw_goto C 7 d_Mo_below_59 (by decide) ?_
          exact mw_to _ (by exact And.intro rfl (And.intro rfl (And.intro rfl (And.intro rfl (And.intro rfl (trivial)))))) (ih y (by omega) (by rw [← hy]; conv => rhs; rw [a_below, if_neg (fun h => by omega)]))
        ·
          refine mw_lload C d_Mo_below_43 rfl ?_
          refine mw_aload_n C 0 d_Mo_below_45 rfl rfl ?_
          refine mw_iload C d_Mo_below_46 rfl ?_
          refine mw_iload C d_Mo_below_48 rfl ?_
          refine mw_run0l C ix_Mo (mw_invV C (kk := 0) (m_Mo_points l D cA cn fv σ (σ.1 8 (48 * node + (i + 1))) so _ (mR_rs h) h8i (hp _) (hk _) hs) ix_Mo kb_Mo_147 wm_Mo_points wv_Mo_points (by decide) rfl rfl d_Mo_below_50 rfl rfl (Nat.le_of_ble_eq_true rfl) rfl rfl ⟨by decide, by decide⟩ ⟨Nat.zero_le _, Nat.zero_le _⟩) (fun x50 e50 => ?_)
          subst e50
          refine mw_lor C d_Mo_below_53 ?_
          refine mw_lstore C d_Mo_below_54 (by decide) ?_
          refine mw_idecN C d_Mo_below_56 rfl (by decide) ?_
          refine mw_goto C 7 d_Mo_below_59 (by decide) ?_
          exact mw_to _ (by exact And.intro rfl (And.intro rfl (And.intro rfl (And.intro rfl (And.intro rfl (trivial)))))) (ih _ (by omega) (by rw [← hy]; conv => rhs; rw [a_below, if_pos ⟨hb, h40⟩]))
  refine mw_lload_n C 2 d_Mo_below_0 rfl rfl ?_
  refine mw_lstore C d_Mo_below_1 (by decide) ?_
  refine mw_bipush C (v := nI 47) d_Mo_below_3 (by decide) ?_
  refine mw_istore C d_Mo_below_5 (by decide) ?_
  exact mw_to _ (by exact And.intro rfl (And.intro rfl (And.intro rfl (And.intro rfl (And.intro rfl (trivial)))))) (L 47 x (by omega) rfl)
set_option maxHeartbeats 4000000 in
set_option maxRecDepth 100000 in
theorem m_Mo_inRound (l : Launch) (D : va_G) (cA : Nat → ClassId) (cn fv : Int32) (σ : aS) (node r : Nat) (S : mw_S) (h : mR cn fv σ S) (hn : node < 4) (hr : 1 ≤ r) (hr2 : r ≤ 12) (h9 : ∀ j, σ.1 9 j ≤ 1) : mw_M false l lw_tbl y_Mo_inRound b_Mo_inRound 5 (some .int) { frames := 0, cells := 0, slots := 0, locals := 0 } D vCl cA sh_Mo 22 [.inr (.inr 0), .inl (nI node), .inl (nI r)] (S) (mw_Pi (fun z _ => z = nI (a_inR σ node r 4))) := by
  refine mw_M_of (by decide) (Nat.le_of_ble_eq_true rfl) ?_
  intro p e s m args below meth c A ad C hR
  have L : ∀ (dd i : Nat), i + dd = 4 → mw p l e { frames := 0, cells := 0, slots := 0, locals := 0 } s m args below meth c (MQ below (mw_Qc false D vCl cA ad sh_Mo 22 s.heap.size (S) (mw_Pi (fun z _ => z = nI (a_inR σ node r 4)))) args s 0 0 A) 0 0 D vCl cA A ad sh_Mo 22 5 (5) ([(4, .inl (nI i)), (3, .inl (nI (a_inR σ node r i))), (0, .inr (.inr 0)), (1, .inl (nI node)), (2, .inl (nI r))]) ([]) (S) := by
    intro dd
    induction dd with
    | zero =>
      intro i hi
      refine mw_iload C d_Mo_inRound_5 rfl ?_
      refine mw_iconst C (v := nI 4) d_Mo_inRound_7 (by decide) ?_
      refine mw_icmp_geN C 49 d_Mo_inRound_8 (by decide) (by omega) (by omega) (fun h8 => ?_) (fun h8 => ?_)
      ·
        refine mw_iload_n C 3 d_Mo_inRound_49 rfl rfl ?_
        refine mw_iret C hR d_Mo_inRound_50 ?_
        rw [show i = 4 from by omega]
      · exfalso; omega
    | succ dd ih =>
      intro i hi
      have h9i := h9 (48 * node + 4 * (r - 1) + i)
      refine mw_iload C d_Mo_inRound_5 rfl ?_
      refine mw_iconst C (v := nI 4) d_Mo_inRound_7 (by decide) ?_
      refine mw_icmp_geN C 49 d_Mo_inRound_8 (by decide) (by omega) (by omega) (fun h8 => ?_) (fun h8 => ?_)
      · exfalso; omega
      ·
        refine mw_iload_n C 3 d_Mo_inRound_11 rfl rfl ?_
        refine mw_aload_n C 0 d_Mo_inRound_12 rfl rfl ?_
        refine mw_getr C f_Mo_36 d_Mo_inRound_13 (by decide) rfl rfl ?_
        refine mw_bipush C (v := nI 48) d_Mo_inRound_16 (by decide) ?_
        refine mw_iload_n C 1 d_Mo_inRound_18 rfl rfl ?_
        refine mw_imulN C d_Mo_inRound_19 ?_
        refine mw_iconst C (v := nI 4) d_Mo_inRound_20 (by decide) ?_
        refine mw_iload_n C 2 d_Mo_inRound_21 rfl rfl ?_
        refine mw_iconst C (v := nI 1) d_Mo_inRound_22 (by decide) ?_
        refine mw_isubN C d_Mo_inRound_23 (by omega) ?_
        refine mw_imulN C d_Mo_inRound_24 ?_
        refine mw_iaddN C d_Mo_inRound_25 ?_
        refine mw_iload C d_Mo_inRound_26 rfl ?_
        refine mw_iaddN C d_Mo_inRound_28 ?_
        refine mo_zald C h d_Mo_inRound_29 (by decide) rfl rfl (by omega) (by decide) ?_
        refine mw_if_eqN C 40 d_Mo_inRound_30 (by decide) (by omega) (fun h30 => ?_) (fun h30 => ?_)
        ·
          refine mw_iconst C (v := nI 0) d_Mo_inRound_40 (by decide) ?_
          refine mw_iaddN C d_Mo_inRound_41 ?_
          refine mw_istore_n C 3 d_Mo_inRound_42 rfl (by decide) ?_
          refine mw_iincN C d_Mo_inRound_43 rfl (by decide) ?_
          refine mw_goto C 5 d_Mo_inRound_46 (by decide) ?_
          refine mw_eq _ _ _ (by exact And.intro rfl (And.intro (by show some (Sum.inl _) = _; rw [a_inR, if_pos h30]) (And.intro rfl (And.intro rfl (And.intro rfl trivial))))) rfl rfl (ih (i + 1) (by omega))
        ·
          refine mw_iconst C (v := nI 1) d_Mo_inRound_33 (by decide) ?_
          refine mw_iload C d_Mo_inRound_34 rfl ?_
          refine mw_ishl C d_Mo_inRound_36 ?_
          refine mw_eqi (show _ = nI (2 ^ i) from by
            have hpw : 2 ^ i ≤ 2 ^ 4 := Nat.pow_le_pow_right (by decide) (by omega)
            rw [pk_shlN (n := 1) (nI i &&& 31) i (s_l i (by omega)) (by omega), Nat.one_mul]) ?_
          refine mw_goto C 41 d_Mo_inRound_37 (by decide) ?_
          refine mw_iaddN C d_Mo_inRound_41 ?_
          refine mw_istore_n C 3 d_Mo_inRound_42 rfl (by decide) ?_
          refine mw_iincN C d_Mo_inRound_43 rfl (by decide) ?_
          refine mw_goto C 5 d_Mo_inRound_46 (by decide) ?_
          refine mw_eq _ _ _ (by exact And.intro rfl (And.intro (by show some (Sum.inl _) = _; rw [a_inR, if_neg (by omega)]) (And.intro rfl (And.intro rfl (And.intro rfl trivial))))) rfl rfl (ih (i + 1) (by omega))
  refine mw_iconst C (v := nI 0) d_Mo_inRound_0 (by decide) ?_
  refine mw_istore_n C 3 d_Mo_inRound_1 rfl (by decide) ?_
  refine mw_iconst C (v := nI 0) d_Mo_inRound_2 (by decide) ?_
  refine mw_istore C d_Mo_inRound_3 (by decide) ?_
  exact mw_to _ (by exact And.intro rfl (And.intro rfl (And.intro rfl (And.intro rfl (And.intro rfl (trivial)))))) (L 4 0 rfl)
set_option maxHeartbeats 4000000 in
set_option maxRecDepth 100000 in
theorem m_Mo_leader (l : Launch) (D : va_G) (cA : Nat → ClassId) (cn fv : Int32) (σ : aS) (w0 : Nat) (S : mw_S) (h : mR cn fv σ S) (hw : 1 ≤ w0) (hw2 : w0 ≤ 3) : mw_M false l lw_tbl y_Mo_leader b_Mo_leader 2 (some .int) { frames := 0, cells := 0, slots := 0, locals := 0 } D vCl cA sh_Mo 22 [.inr (.inr 0), .inl (nI w0)] (S) (mw_Pi (fun z _ => z = nI (a_lead cn w0))) := by
  refine mw_M_of (by decide) (Nat.le_of_ble_eq_true rfl) ?_
  intro p e s m args below meth c A ad C hR
  refine mw_bipush C (v := nI 16) d_Mo_leader_0 (by decide) ?_
  refine mw_iload_n C 1 d_Mo_leader_2 rfl rfl ?_
  refine mw_iconst C (v := nI 1) d_Mo_leader_3 (by decide) ?_
  refine mw_isubN C d_Mo_leader_4 (by omega) ?_
  refine mw_imulN C d_Mo_leader_5 ?_
  refine mw_aload_n C 0 d_Mo_leader_6 rfl rfl ?_
  refine mo_getC C h f_Mo_79 d_Mo_leader_7 ?_
  refine mw_iconst C (v := nI 2) d_Mo_leader_10 (by decide) ?_
  refine mw_iload_n C 1 d_Mo_leader_11 rfl rfl ?_
  refine mw_iconst C (v := nI 1) d_Mo_leader_12 (by decide) ?_
  refine mw_isubN C d_Mo_leader_13 (by omega) ?_
  refine mw_imulN C d_Mo_leader_14 ?_
  refine mw_ishr C d_Mo_leader_15 ?_
  refine mw_iconst C (v := nI 3) d_Mo_leader_16 (by decide) ?_
  refine mw_iand C d_Mo_leader_17 ?_
  refine mw_eqi (ld_eq cn (t := 2 * (w0 - 1)) (by omega)) ?_
  refine mw_iaddN C d_Mo_leader_18 ?_
  refine mw_iret C hR d_Mo_leader_19 ?_
  rfl
end
section
/-! WHAT HOLDS OF THE NUMBERS AT EVERY TIME -/
def a_c0 (g : Nat → Nat) : Nat → Nat
  | 0 => 0
  | n + 1 => a_c0 g n + (if g n = 0 then 1 else 0)
theorem a_c0_eq {g g' : Nat → Nat} : ∀ {n : Nat}, (∀ i, i < n → g' i = g i) → a_c0 g' n = a_c0 g n
  | 0, _ => rfl
  | n + 1, h => by
    unfold a_c0
    rw [a_c0_eq (fun i hi => h i (by omega)), h n (by omega)]
theorem a_c0_le (g : Nat → Nat) : ∀ n, a_c0 g n ≤ n
  | 0 => Nat.le_refl 0
  | n + 1 => by
    have := a_c0_le g n
    unfold a_c0
    split <;> omega
theorem a_c0_up {g g' : Nat → Nat} {j : Nat} (h0 : g j = 0) (h1 : g' j ≠ 0) (h : ∀ i, i ≠ j → g' i = g i) : ∀ {n : Nat}, j < n → a_c0 g' n + 1 = a_c0 g n
  | 0, hj => by omega
  | n + 1, hj => by
    unfold a_c0
    by_cases e : n = j
    · subst e
      rw [if_neg h1, if_pos h0, a_c0_eq (g := g) (g' := g') (fun i hi => h i (by omega))]
    · have := a_c0_up h0 h1 h (n := n) (by omega)
      rw [h n e]
      omega
theorem a_c0_pos {g : Nat → Nat} {j n : Nat} (h0 : g j = 0) (hj : j < n) : 1 ≤ a_c0 g n := by
  have := a_c0_up (g := g) (g' := fun i => if i = j then 1 else g i) (j := j) h0 (by simp) (fun i hi => by simp [hi]) hj
  omega
/-- a transfer that was let in, or none -/
def a_tok (t : Nat) : Prop := t < 100000 ∧ t % 10 < 4 ∧ t % 1000 / 10 < 4
def a_own (σ : aS) : Nat := σ.1 14 0 + σ.1 14 1 + σ.1 14 2 + σ.1 14 3
/-- the numbers keep within their bounds; B: how many messages there may be, fy: who is silent -/
def aI (fy B : Nat) (σ : aS) : Prop :=
  (∀ v, σ.1 1 v < 48) ∧
  (∀ v, σ.1 2 v < 16) ∧
  (∀ v, a_tok (σ.1 4 v)) ∧
  (∀ j, a_tok (σ.1 19 j)) ∧
  (∀ j, σ.1 6 j ≤ 1) ∧
  (∀ j, σ.1 7 j ≤ 1) ∧
  (∀ j, σ.1 9 j ≤ 1) ∧
  (∀ j, σ.1 10 j ≤ 1) ∧
  (∀ j, σ.1 15 j ≤ 1) ∧
  (∀ n q, n < 4 → q < 48 → σ.1 8 (48 * n + q) ≤ σ.1 0 5 ∧ (σ.1 8 (48 * n + q) ≠ 0 → σ.1 1 (σ.1 8 (48 * n + q)) = q)) ∧
  (∀ j, σ.1 12 j < 80 ∧ σ.1 13 j < 80) ∧
  (∀ n, n < 4 → σ.1 18 (4 * n + 0) + σ.1 18 (4 * n + 1) + σ.1 18 (4 * n + 2) + σ.1 18 (4 * n + 3) = 400) ∧
  (∀ n, σ.1 14 n ≤ 12) ∧
  (∀ n, σ.1 16 n ≤ 3) ∧
  (∀ n, n < 4 → σ.1 17 n + a_c0 (fun q => σ.1 10 (48 * n + q)) 48 = 48) ∧
  (∀ n, σ.1 20 n ≤ 12) ∧
  (σ.1 0 4 ≤ 1) ∧
  (σ.1 0 10 ≤ 24) ∧
  (σ.1 0 5 ≤ a_own σ + σ.1 0 10) ∧
  (σ.1 0 12 + 4 * (48 - a_own σ) + 4 * a_c0 (σ.1 6) 192 + 4 * a_c0 (σ.1 7) 192 ≤ B) ∧
  (∀ k, k < σ.1 0 12 → σ.1 5 k < 3840 ∧ 1 ≤ σ.1 5 k % 80 ∧ σ.1 5 k % 80 ≤ σ.1 0 5 ∧ σ.1 5 k / 80 % 4 ≠ fy)
theorem aI_mk {fy B : Nat} {σ : aS} (pl : ∀ v, σ.1 1 v < 48) (st : ∀ v, σ.1 2 v < 16) (tr : ∀ v, a_tok (σ.1 4 v)) (qu : ∀ j, a_tok (σ.1 19 j)) (f6 : ∀ j, σ.1 6 j ≤ 1) (f7 : ∀ j, σ.1 7 j ≤ 1) (f9 : ∀ j, σ.1 9 j ≤ 1) (f10 : ∀ j, σ.1 10 j ≤ 1) (f15 : ∀ j, σ.1 15 j ≤ 1) (ac : ∀ n q, n < 4 → q < 48 → σ.1 8 (48 * n + q) ≤ σ.1 0 5 ∧ (σ.1 8 (48 * n + q) ≠ 0 → σ.1 1 (σ.1 8 (48 * n + q)) = q)) (vo : ∀ j, σ.1 12 j < 80 ∧ σ.1 13 j < 80) (bl : ∀ n, n < 4 → σ.1 18 (4 * n + 0) + σ.1 18 (4 * n + 1) + σ.1 18 (4 * n + 2) + σ.1 18 (4 * n + 3) = 400) (ow : ∀ n, σ.1 14 n ≤ 12) (cm : ∀ n, σ.1 16 n ≤ 3) (oc : ∀ n, n < 4 → σ.1 17 n + a_c0 (fun q => σ.1 10 (48 * n + q)) 48 = 48) (qd : ∀ n, σ.1 20 n ≤ 12) (be : σ.1 0 4 ≤ 1) (fo : σ.1 0 10 ≤ 24) (vs : σ.1 0 5 ≤ a_own σ + σ.1 0 10) (mm : σ.1 0 12 + 4 * (48 - a_own σ) + 4 * a_c0 (σ.1 6) 192 + 4 * a_c0 (σ.1 7) 192 ≤ B) (wt : ∀ k, k < σ.1 0 12 → σ.1 5 k < 3840 ∧ 1 ≤ σ.1 5 k % 80 ∧ σ.1 5 k % 80 ≤ σ.1 0 5 ∧ σ.1 5 k / 80 % 4 ≠ fy) : aI fy B σ := ⟨pl, st, tr, qu, f6, f7, f9, f10, f15, ac, vo, bl, ow, cm, oc, qd, be, fo, vs, mm, wt⟩
theorem aI.pl {fy B : Nat} {σ : aS} (h : aI fy B σ) : ∀ v, σ.1 1 v < 48 := h.1
theorem aI.st {fy B : Nat} {σ : aS} (h : aI fy B σ) : ∀ v, σ.1 2 v < 16 := h.2.1
theorem aI.tr {fy B : Nat} {σ : aS} (h : aI fy B σ) : ∀ v, a_tok (σ.1 4 v) := h.2.2.1
theorem aI.qu {fy B : Nat} {σ : aS} (h : aI fy B σ) : ∀ j, a_tok (σ.1 19 j) := h.2.2.2.1
theorem aI.f6 {fy B : Nat} {σ : aS} (h : aI fy B σ) : ∀ j, σ.1 6 j ≤ 1 := h.2.2.2.2.1
theorem aI.f7 {fy B : Nat} {σ : aS} (h : aI fy B σ) : ∀ j, σ.1 7 j ≤ 1 := h.2.2.2.2.2.1
theorem aI.f9 {fy B : Nat} {σ : aS} (h : aI fy B σ) : ∀ j, σ.1 9 j ≤ 1 := h.2.2.2.2.2.2.1
theorem aI.f10 {fy B : Nat} {σ : aS} (h : aI fy B σ) : ∀ j, σ.1 10 j ≤ 1 := h.2.2.2.2.2.2.2.1
theorem aI.f15 {fy B : Nat} {σ : aS} (h : aI fy B σ) : ∀ j, σ.1 15 j ≤ 1 := h.2.2.2.2.2.2.2.2.1
theorem aI.ac {fy B : Nat} {σ : aS} (h : aI fy B σ) : ∀ n q, n < 4 → q < 48 → σ.1 8 (48 * n + q) ≤ σ.1 0 5 ∧ (σ.1 8 (48 * n + q) ≠ 0 → σ.1 1 (σ.1 8 (48 * n + q)) = q) := h.2.2.2.2.2.2.2.2.2.1
theorem aI.vo {fy B : Nat} {σ : aS} (h : aI fy B σ) : ∀ j, σ.1 12 j < 80 ∧ σ.1 13 j < 80 := h.2.2.2.2.2.2.2.2.2.2.1
theorem aI.bl {fy B : Nat} {σ : aS} (h : aI fy B σ) : ∀ n, n < 4 → σ.1 18 (4 * n + 0) + σ.1 18 (4 * n + 1) + σ.1 18 (4 * n + 2) + σ.1 18 (4 * n + 3) = 400 := h.2.2.2.2.2.2.2.2.2.2.2.1
theorem aI.ow {fy B : Nat} {σ : aS} (h : aI fy B σ) : ∀ n, σ.1 14 n ≤ 12 := h.2.2.2.2.2.2.2.2.2.2.2.2.1
theorem aI.cm {fy B : Nat} {σ : aS} (h : aI fy B σ) : ∀ n, σ.1 16 n ≤ 3 := h.2.2.2.2.2.2.2.2.2.2.2.2.2.1
theorem aI.oc {fy B : Nat} {σ : aS} (h : aI fy B σ) : ∀ n, n < 4 → σ.1 17 n + a_c0 (fun q => σ.1 10 (48 * n + q)) 48 = 48 := h.2.2.2.2.2.2.2.2.2.2.2.2.2.2.1
theorem aI.qd {fy B : Nat} {σ : aS} (h : aI fy B σ) : ∀ n, σ.1 20 n ≤ 12 := h.2.2.2.2.2.2.2.2.2.2.2.2.2.2.2.1
theorem aI.be {fy B : Nat} {σ : aS} (h : aI fy B σ) : σ.1 0 4 ≤ 1 := h.2.2.2.2.2.2.2.2.2.2.2.2.2.2.2.2.1
theorem aI.fo {fy B : Nat} {σ : aS} (h : aI fy B σ) : σ.1 0 10 ≤ 24 := h.2.2.2.2.2.2.2.2.2.2.2.2.2.2.2.2.2.1
theorem aI.vs {fy B : Nat} {σ : aS} (h : aI fy B σ) : σ.1 0 5 ≤ a_own σ + σ.1 0 10 := h.2.2.2.2.2.2.2.2.2.2.2.2.2.2.2.2.2.2.1
theorem aI.mm {fy B : Nat} {σ : aS} (h : aI fy B σ) : σ.1 0 12 + 4 * (48 - a_own σ) + 4 * a_c0 (σ.1 6) 192 + 4 * a_c0 (σ.1 7) 192 ≤ B := h.2.2.2.2.2.2.2.2.2.2.2.2.2.2.2.2.2.2.2.1
theorem aI.wt {fy B : Nat} {σ : aS} (h : aI fy B σ) : ∀ k, k < σ.1 0 12 → σ.1 5 k < 3840 ∧ 1 ≤ σ.1 5 k % 80 ∧ σ.1 5 k % 80 ≤ σ.1 0 5 ∧ σ.1 5 k / 80 % 4 ≠ fy := h.2.2.2.2.2.2.2.2.2.2.2.2.2.2.2.2.2.2.2.2
theorem aI.v72 {fy B : Nat} {σ : aS} (hI : aI fy B σ) : σ.1 0 5 ≤ 72 := by
  have h1 := hI.vs
  have h2 := hI.fo
  have a0 := hI.ow 0
  have a1 := hI.ow 1
  have a2 := hI.ow 2
  have a3 := hI.ow 3
  unfold a_own at h1
  omega
theorem aI.a80 {fy B : Nat} {σ : aS} (hI : aI fy B σ) {n q : Nat} (hn : n < 4) (hq : q < 48) : σ.1 8 (48 * n + q) < 80 := by
  have h1 := (hI.ac n q hn hq).1
  have h2 := hI.v72
  omega
theorem aI.b400 {fy B : Nat} {σ : aS} (hI : aI fy B σ) {n k : Nat} (hn : n < 4) (hk : k < 4) : σ.1 18 (4 * n + k) ≤ 400 := by
  have h1 := hI.bl n hn
  have h2 : k = 0 ∨ k = 1 ∨ k = 2 ∨ k = 3 := by omega
  rcases h2 with rfl | rfl | rfl | rfl <;> omega
def a_make (σ : aS) (node t : Nat) : aS := if t = 0 ∨ σ.1 18 (4 * node + t / 10 % 10) < t / 1000 then σ else a_up (a_up σ 18 (4 * node + t / 10 % 10) (σ.1 18 (4 * node + t / 10 % 10) - t / 1000)) 18 (4 * node + t % 10) ((a_up σ 18 (4 * node + t / 10 % 10) (σ.1 18 (4 * node + t / 10 % 10) - t / 1000)).1 18 (4 * node + t % 10) + t / 1000)
/-- τ is σ but for the fields fs -/
def a_kp (fs : Nat → Prop) (σ τ : aS) : Prop := (∀ f j, ¬ fs f → τ.1 f j = σ.1 f j) ∧ τ.2 = σ.2
theorem a_kp_r (fs : Nat → Prop) (σ : aS) : a_kp fs σ σ := ⟨fun _ _ _ => rfl, rfl⟩
theorem a_kp_t {fs : Nat → Prop} {σ τ ρ : aS} (h : a_kp fs σ τ) (h2 : a_kp fs τ ρ) : a_kp fs σ ρ := ⟨fun f j hf => (h2.1 f j hf).trans (h.1 f j hf), h2.2.trans h.2⟩
theorem a_kp_u {fs : Nat → Prop} {f : Nat} (hf : fs f) (σ : aS) (j x : Nat) : a_kp fs σ (a_up σ f j x) := ⟨fun f' j' h => a_up_f σ j x j' (fun e => h (e ▸ hf)), rfl⟩
theorem a_kp_w {fs fs' : Nat → Prop} {σ τ : aS} (h : a_kp fs σ τ) (hs : ∀ f, fs f → fs' f) : a_kp fs' σ τ := ⟨fun f j hf => h.1 f j (fun x => hf (hs f x)), h.2⟩
theorem a_make_kp (σ : aS) (node t : Nat) : a_kp (fun f => f = 18) σ (a_make σ node t) := by
  unfold a_make
  split
  · exact a_kp_r _ _
  · exact a_kp_t (a_kp_u (fs := fun f => f = 18) (f := 18) rfl _ _ _) (a_kp_u (fs := fun f => f = 18) (f := 18) rfl _ _ _)
theorem a_mv_bl (σ : aS) {n node a b x : Nat} (ha : a < 4) (hb : b < 4) (hge : x ≤ σ.1 18 (4 * node + a)) (h0 : σ.1 18 (4 * n + 0) + σ.1 18 (4 * n + 1) + σ.1 18 (4 * n + 2) + σ.1 18 (4 * n + 3) = 400) {τ : aS} (hτ : τ = a_up (a_up σ 18 (4 * node + a) (σ.1 18 (4 * node + a) - x)) 18 (4 * node + b) ((a_up σ 18 (4 * node + a) (σ.1 18 (4 * node + a) - x)).1 18 (4 * node + b) + x)) : τ.1 18 (4 * n + 0) + τ.1 18 (4 * n + 1) + τ.1 18 (4 * n + 2) + τ.1 18 (4 * n + 3) = 400 := by
  subst hτ
  simp only [a_up_at, true_and]
  by_cases e : n = node
  · subst e
    have ha : a = 0 ∨ a = 1 ∨ a = 2 ∨ a = 3 := by omega
    have hb : b = 0 ∨ b = 1 ∨ b = 2 ∨ b = 3 := by omega
    rcases ha with rfl | rfl | rfl | rfl <;> rcases hb with rfl | rfl | rfl | rfl <;> simp at h0 hge ⊢ <;> omega
  · have e1 : ∀ i, i < 4 → ¬ 4 * n + i = 4 * node + a := fun i hi => by omega
    have e2 : ∀ i, i < 4 → ¬ 4 * n + i = 4 * node + b := fun i hi => by omega
    rw [if_neg (e2 0 (by decide)), if_neg (e1 0 (by decide)), if_neg (e2 1 (by decide)), if_neg (e1 1 (by decide)), if_neg (e2 2 (by decide)), if_neg (e1 2 (by decide)), if_neg (e2 3 (by decide)), if_neg (e1 3 (by decide))]
    exact h0
theorem a_make_bl {σ : aS} {n node t : Nat} (h0 : σ.1 18 (4 * n + 0) + σ.1 18 (4 * n + 1) + σ.1 18 (4 * n + 2) + σ.1 18 (4 * n + 3) = 400) (ht : a_tok t) : (a_make σ node t).1 18 (4 * n + 0) + (a_make σ node t).1 18 (4 * n + 1) + (a_make σ node t).1 18 (4 * n + 2) + (a_make σ node t).1 18 (4 * n + 3) = 400 := by
  unfold a_make
  split
  · exact h0
  · rename_i hc
    obtain ⟨t1, t2, t3⟩ := ht
    exact a_mv_bl σ (by omega) (by omega) (by omega) h0 rfl
/-- the invariant of another state: what its fields need anew, where few of them changed -/
theorem aI_bk {fy B : Nat} {σ τ : aS} (hI : aI fy B σ) (hk : a_kp (fun f => f = 10 ∨ f = 11 ∨ f = 16 ∨ f = 17 ∨ f = 18 ∨ f = 21) σ τ) (h10 : ∀ j, τ.1 10 j ≤ 1) (h16 : ∀ n, τ.1 16 n ≤ 3) (h18 : ∀ n, n < 4 → τ.1 18 (4 * n + 0) + τ.1 18 (4 * n + 1) + τ.1 18 (4 * n + 2) + τ.1 18 (4 * n + 3) = 400) (hoc : ∀ n, n < 4 → τ.1 17 n + a_c0 (fun q => τ.1 10 (48 * n + q)) 48 = 48) : aI fy B τ := by
  have k : ∀ f j, ¬ (f = 10 ∨ f = 11 ∨ f = 16 ∨ f = 17 ∨ f = 18 ∨ f = 21) → τ.1 f j = σ.1 f j := hk.1
  have k0 := fun j => k 0 j (by decide)
  have k14 := fun j => k 14 j (by decide)
  have e6 : τ.1 6 = σ.1 6 := funext (fun j => k 6 j (by decide))
  have e7 : τ.1 7 = σ.1 7 := funext (fun j => k 7 j (by decide))
  have eo : a_own τ = a_own σ := by unfold a_own; rw [k14, k14, k14, k14]
  exact (aI_mk (fun v => by rw [k 1 v (by decide)]; exact hI.pl v) (fun v => by rw [k 2 v (by decide)]; exact hI.st v) (fun v => by rw [k 4 v (by decide)]; exact hI.tr v) (fun v => by rw [k 19 v (by decide)]; exact hI.qu v) (fun v => by rw [k 6 v (by decide)]; exact hI.f6 v) (fun v => by rw [k 7 v (by decide)]; exact hI.f7 v) (fun v => by rw [k 9 v (by decide)]; exact hI.f9 v) h10 (fun v => by rw [k 15 v (by decide)]; exact hI.f15 v) (fun n q hn hq => by rw [k 8 _ (by decide), k0, k 1 _ (by decide)]; exact hI.ac n q hn hq) (fun v => by rw [k 12 v (by decide), k 13 v (by decide)]; exact hI.vo v) h18 (fun v => by rw [k14]; exact hI.ow v) h16 hoc (fun v => by rw [k 20 v (by decide)]; exact hI.qd v) (by rw [k0]; exact hI.be) (by rw [k0]; exact hI.fo) (by rw [k0, k0, eo]; exact hI.vs) (by rw [k0, e6, e7, eo]; exact hI.mm) (fun i hi => by rw [k0] at hi; rw [k 5 i (by decide), k0]; exact hI.wt i hi))
def a_ordS (σ : aS) (node : Nat) (all : Int64) (q : Nat) : aS := if lb all q = true ∧ σ.1 10 (48 * node + q) = 0 then a_make (a_up (a_up (a_up σ 10 (48 * node + q) 1) 11 (48 * node + σ.1 17 node) q) 17 node (σ.1 17 node + 1)) node (σ.1 4 (σ.1 8 (48 * node + q))) else σ
def a_ordL (node : Nat) (all : Int64) : Nat → aS → aS
  | 0, σ => σ
  | q + 1, σ => a_ordS (a_ordL node all q σ) node all q
def a_ordB (σ : aS) (node place : Nat) : aS := a_ordL node (a_below σ node false 48 (lN (2 ^ place))) 48 σ
def a_F (f : Nat) : Prop := f = 10 ∨ f = 11 ∨ f = 16 ∨ f = 17 ∨ f = 18 ∨ f = 21
def a_G (f : Nat) : Prop := f = 10 ∨ f = 11 ∨ f = 17 ∨ f = 18
theorem a_ordS_kp (σ : aS) (node : Nat) (all : Int64) (q : Nat) : a_kp a_G σ (a_ordS σ node all q) := by
  unfold a_ordS
  split
  · exact a_kp_t (a_kp_t (a_kp_t (a_kp_u (fs := a_G) (f := 10) (by unfold a_G; decide) _ _ _) (a_kp_u (fs := a_G) (f := 11) (by unfold a_G; decide) _ _ _)) (a_kp_u (fs := a_G) (f := 17) (by unfold a_G; decide) _ _ _)) (a_kp_w (a_make_kp _ _ _) (fun f hf => by unfold a_G; omega))
  · exact a_kp_r _ _
theorem a_ordL_kp (node : Nat) (all : Int64) (σ : aS) : ∀ q, a_kp a_G σ (a_ordL node all q σ)
  | 0 => a_kp_r _ _
  | q + 1 => a_kp_t (a_ordL_kp node all σ q) (a_ordS_kp _ node all q)
theorem a_GF {σ τ : aS} (h : a_kp a_G σ τ) : a_kp a_F σ τ := a_kp_w h (fun f hf => by unfold a_F; unfold a_G at hf; omega)
theorem aI_ordS {fy B : Nat} {σ : aS} (hI : aI fy B σ) {node q : Nat} (all : Int64) (hn : node < 4) (hq : q < 48) : aI fy B (a_ordS σ node all q) := by
  have hk := a_ordS_kp σ node all q
  refine aI_bk hI (a_GF hk) ?_ (fun n => by rw [hk.1 16 n (by unfold a_G; decide)]; exact hI.cm n) ?_ ?_
  · intro j
    unfold a_ordS
    split
    · rw [(a_make_kp _ _ _).1 10 j (by decide), a_up_f _ _ _ _ (by decide), a_up_f _ _ _ _ (by decide), a_up_at]
      split
      · decide
      · exact hI.f10 j
    · exact hI.f10 j
  · intro n hn
    unfold a_ordS
    split
    · exact a_make_bl (hI.bl n hn) (hI.tr _)
    · exact hI.bl n hn
  · intro n hn'
    unfold a_ordS
    split
    · rename_i hc
      rw [(a_make_kp _ _ _).1 17 n (by decide)]
      have e10 : ∀ j, (a_make (a_up (a_up (a_up σ 10 (48 * node + q) 1) 11 (48 * node + σ.1 17 node) q) 17 node (σ.1 17 node + 1)) node (σ.1 4 (σ.1 8 (48 * node + q)))).1 10 j = if j = 48 * node + q then 1 else σ.1 10 j := fun j => by
        rw [(a_make_kp _ _ _).1 10 j (by decide), a_up_f _ _ _ _ (by decide), a_up_f _ _ _ _ (by decide), a_up_at]
        simp
      have hoc := hI.oc n hn'
      by_cases e : n = node
      · subst e
        rw [a_up_s]
        have hu := a_c0_up (g := fun i => σ.1 10 (48 * n + i)) (g' := fun i => (a_make (a_up (a_up (a_up σ 10 (48 * n + q) 1) 11 (48 * n + σ.1 17 n) q) 17 n (σ.1 17 n + 1)) n (σ.1 4 (σ.1 8 (48 * n + q)))).1 10 (48 * n + i)) (j := q) hc.2 (by simp only [e10]; simp) (fun i hi => by simp only [e10]; rw [if_neg (by omega)]) hq
        omega
      · rw [a_up_j _ _ _ _ e, a_up_f _ _ _ _ (by decide), a_up_f _ _ _ _ (by decide), a_c0_eq (g := fun i => σ.1 10 (48 * n + i)) (fun i hi => by simp only [e10]; rw [if_neg (by omega)])]
        exact hoc
    · exact hI.oc n hn'
theorem aI_ordL {fy B : Nat} {σ : aS} (hI : aI fy B σ) {node : Nat} (all : Int64) (hn : node < 4) : ∀ q, q ≤ 48 → aI fy B (a_ordL node all q σ)
  | 0, _ => hI
  | q + 1, hq => aI_ordS (aI_ordL hI all hn q (by omega)) all hn (by omega)
theorem aI_ordB {fy B : Nat} {σ : aS} (hI : aI fy B σ) {node : Nat} (place : Nat) (hn : node < 4) : aI fy B (a_ordB σ node place) := aI_ordL hI _ hn 48 (Nat.le_refl _)
end
section
/-! the reference's methods: vertices made, transfers, the order -/
def a_newV (σ : aS) (place k : Nat) (w : Int64) (t : Nat) : aS := a_up (a_wk (a_up (a_up (a_up σ 0 5 (σ.1 0 5 + 1)) 1 (σ.1 0 5 + 1) place) 2 (σ.1 0 5 + 1) k) (σ.1 0 5 + 1) w) 4 (σ.1 0 5 + 1) t
set_option maxHeartbeats 4000000 in
set_option maxRecDepth 100000 in
theorem m_Mo_newVertex (l : Launch) (D : va_G) (cA : Nat → ClassId) (cn fv : Int32) (σ : aS) (place k t : Nat) (w0 : Int64) (S : mw_S) (h : mR cn fv σ S) (hv : σ.1 0 5 < 79) : mw_M true l lw_tbl y_Mo_newVertex b_Mo_newVertex 6 (some .int) { frames := 0, cells := 0, slots := 0, locals := 0 } D vCl cA sh_Mo 22 [.inr (.inr 0), .inl (nI place), .inl (nI k), .inr (.inl w0), .inl (nI t)] (S) (mw_Pi (fun z S' => z = nI (σ.1 0 5 + 1) ∧ mR cn fv (a_newV σ place k w0 t) S')) := by
  refine mw_M_of (by decide) (Nat.le_of_ble_eq_true rfl) ?_
  intro p e s m args below meth c A ad C hR
  refine mw_aload_n C 0 d_Mo_newVertex_0 rfl rfl ?_
  refine mw_dup C d_Mo_newVertex_1 rfl ?_
  refine mo_get C h f_Mo_165 d_Mo_newVertex_2 rfl rfl ?_
  refine mw_iconst C (v := nI 1) d_Mo_newVertex_5 (by decide) ?_
  refine mw_iaddN C d_Mo_newVertex_6 ?_
  refine mo_put C rfl h f_Mo_165 p_Mo_5 d_Mo_newVertex_7 rfl rfl (fun S h => ?_)
  have e1 : (a_up σ 0 5 (σ.1 0 5 + 1)).1 0 5 = σ.1 0 5 + 1 := a_up_s _ _ _ _
  refine mw_aload_n C 0 d_Mo_newVertex_10 rfl rfl ?_
  refine mw_getr C f_Mo_7 d_Mo_newVertex_11 (by decide) rfl rfl ?_
  refine mw_aload_n C 0 d_Mo_newVertex_14 rfl rfl ?_
  refine mo_get C h f_Mo_165 d_Mo_newVertex_15 rfl rfl ?_
  refine mw_eqi (show _ = nI (σ.1 0 5 + 1) from by rw [e1]) ?_
  refine mw_iload_n C 1 d_Mo_newVertex_18 rfl rfl ?_
  refine mo_ast C rfl h d_Mo_newVertex_19 (by decide) rfl rfl (by omega) (by decide) (fun S h => ?_)
  refine mw_aload_n C 0 d_Mo_newVertex_20 rfl rfl ?_
  refine mw_getr C f_Mo_13 d_Mo_newVertex_21 (by decide) rfl rfl ?_
  refine mw_aload_n C 0 d_Mo_newVertex_24 rfl rfl ?_
  refine mo_get C h f_Mo_165 d_Mo_newVertex_25 rfl rfl ?_
  refine mw_eqi (show _ = nI (σ.1 0 5 + 1) from by rw [a_up_f _ _ _ _ (by decide), e1]) ?_
  refine mw_iload_n C 2 d_Mo_newVertex_28 rfl rfl ?_
  refine mo_ast C rfl h d_Mo_newVertex_29 (by decide) rfl rfl (by omega) (by decide) (fun S h => ?_)
  refine mw_aload_n C 0 d_Mo_newVertex_30 rfl rfl ?_
  refine mw_getr C f_Mo_16 d_Mo_newVertex_31 (by decide) rfl rfl ?_
  refine mw_aload_n C 0 d_Mo_newVertex_34 rfl rfl ?_
  refine mo_get C h f_Mo_165 d_Mo_newVertex_35 rfl rfl ?_
  refine mw_eqi (show _ = nI (σ.1 0 5 + 1) from by rw [a_up_f _ _ _ _ (by decide), a_up_f _ _ _ _ (by decide), e1]) ?_
  refine mw_lload_n C 3 d_Mo_newVertex_38 rfl rfl ?_
  refine mo_last C rfl h d_Mo_newVertex_39 (by omega) (fun S h => ?_)
  refine mw_aload_n C 0 d_Mo_newVertex_40 rfl rfl ?_
  refine mw_getr C f_Mo_20 d_Mo_newVertex_41 (by decide) rfl rfl ?_
  refine mw_aload_n C 0 d_Mo_newVertex_44 rfl rfl ?_
  refine mo_get C h f_Mo_165 d_Mo_newVertex_45 rfl rfl ?_
  refine mw_eqi (show _ = nI (σ.1 0 5 + 1) from by show nI ((a_up (a_up (a_up σ 0 5 (σ.1 0 5 + 1)) 1 (σ.1 0 5 + 1) place) 2 (σ.1 0 5 + 1) k).1 0 5) = _; rw [a_up_f _ _ _ _ (by decide), a_up_f _ _ _ _ (by decide), e1]) ?_
  refine mw_iload C d_Mo_newVertex_48 rfl ?_
  refine mo_ast C rfl h d_Mo_newVertex_50 (by decide) rfl rfl (by omega) (by decide) (fun S h => ?_)
  refine mw_aload_n C 0 d_Mo_newVertex_51 rfl rfl ?_
  refine mo_get C h f_Mo_165 d_Mo_newVertex_52 rfl rfl ?_
  refine mw_eqi (show _ = nI (σ.1 0 5 + 1) from by rw [a_up_f _ _ _ _ (by decide)]; show nI ((a_up (a_up (a_up σ 0 5 (σ.1 0 5 + 1)) 1 (σ.1 0 5 + 1) place) 2 (σ.1 0 5 + 1) k).1 0 5) = _; rw [a_up_f _ _ _ _ (by decide), a_up_f _ _ _ _ (by decide), e1]) ?_
  refine mw_iret C hR d_Mo_newVertex_55 ?_
  exact ⟨rfl, h⟩
set_option maxHeartbeats 4000000 in
set_option maxRecDepth 100000 in
theorem m_Mo_make (l : Launch) (D : va_G) (cA : Nat → ClassId) (cn fv : Int32) (σ : aS) (node t : Nat) (S : mw_S) (h : mR cn fv σ S) (hn : node < 4) (ht : a_tok t) (hb : ∀ k, k < 4 → σ.1 18 (4 * node + k) ≤ 400) : mw_M true l lw_tbl y_Mo_make b_Mo_make 6 none { frames := 0, cells := 0, slots := 0, locals := 0 } D vCl cA sh_Mo 22 [.inr (.inr 0), .inl (nI node), .inl (nI t)] (S) (mw_Pv (fun S' => mR cn fv (a_make σ node t) S')) := by
  refine mw_M_of (by decide) (Nat.le_of_ble_eq_true rfl) ?_
  intro p e s m args below meth c A ad C hR
  obtain ⟨t1, t2, t3⟩ := ht
  have hba := hb (t / 10 % 10) (by omega)
  refine mw_iload_n C 2 d_Mo_make_0 rfl rfl ?_
  refine mw_sipush C (v := nI 1000) d_Mo_make_1 (by decide) ?_
  refine mw_idivN C d_Mo_make_4 (by omega) (by decide) (by decide) ?_
  refine mw_istore_n C 3 d_Mo_make_5 rfl (by decide) ?_
  refine mw_iconst C (v := nI 4) d_Mo_make_6 (by decide) ?_
  refine mw_iload_n C 1 d_Mo_make_7 rfl rfl ?_
  refine mw_imulN C d_Mo_make_8 ?_
  refine mw_iload_n C 2 d_Mo_make_9 rfl rfl ?_
  refine mw_bipush C (v := nI 10) d_Mo_make_10 (by decide) ?_
  refine mw_idivN C d_Mo_make_12 (by omega) (by decide) (by decide) ?_
  refine mw_bipush C (v := nI 10) d_Mo_make_13 (by decide) ?_
  refine mw_iremN C d_Mo_make_15 (by omega) (by decide) (by decide) ?_
  refine mw_iaddN C d_Mo_make_16 ?_
  refine mw_istore C d_Mo_make_17 (by decide) ?_
  refine mw_iconst C (v := nI 4) d_Mo_make_19 (by decide) ?_
  refine mw_iload_n C 1 d_Mo_make_20 rfl rfl ?_
  refine mw_imulN C d_Mo_make_21 ?_
  refine mw_iload_n C 2 d_Mo_make_22 rfl rfl ?_
  refine mw_bipush C (v := nI 10) d_Mo_make_23 (by decide) ?_
  refine mw_iremN C d_Mo_make_25 (by omega) (by decide) (by decide) ?_
  refine mw_iaddN C d_Mo_make_26 ?_
  refine mw_istore C d_Mo_make_27 (by decide) ?_
  refine mw_iload_n C 2 d_Mo_make_29 rfl rfl ?_
  refine mw_if_eqN C 44 d_Mo_make_30 (by decide) (by omega) (fun h30 => ?_) (fun h30 => ?_)
  ·
    refine mw_vret C hR d_Mo_make_44 ?_
    unfold a_make
    rw [if_pos (Or.inl h30)]
    exact h
  ·
    refine mw_aload_n C 0 d_Mo_make_33 rfl rfl ?_
    refine mw_getr C f_Mo_63 d_Mo_make_34 (by decide) rfl rfl ?_
    refine mw_iload C d_Mo_make_37 rfl ?_
    refine mo_ald C h d_Mo_make_39 (by decide) rfl rfl (by omega) (by decide) ?_
    refine mw_iload_n C 3 d_Mo_make_40 rfl rfl ?_
    refine mw_icmp_geN C 45 d_Mo_make_41 (by decide) (by omega) (by omega) (fun h41 => ?_) (fun h41 => ?_)
    ·
      refine mw_aload_n C 0 d_Mo_make_45 rfl rfl ?_
      refine mw_getr C f_Mo_63 d_Mo_make_46 (by decide) rfl rfl ?_
      refine mw_iload C d_Mo_make_49 rfl ?_
      refine mw_dup2_11 C d_Mo_make_51 rfl rfl ?_
      refine mo_ald C h d_Mo_make_52 (by decide) rfl rfl (by omega) (by decide) ?_
      refine mw_iload_n C 3 d_Mo_make_53 rfl rfl ?_
      refine mw_isubN C d_Mo_make_54 (by omega) ?_
      refine mo_ast C rfl h d_Mo_make_55 (by decide) rfl rfl (by omega) (by decide) (fun S h => ?_)
      refine mw_aload_n C 0 d_Mo_make_56 rfl rfl ?_
      refine mw_getr C f_Mo_63 d_Mo_make_57 (by decide) rfl rfl ?_
      refine mw_iload C d_Mo_make_60 rfl ?_
      refine mw_dup2_11 C d_Mo_make_62 rfl rfl ?_
      refine mo_ald C h d_Mo_make_63 (by decide) rfl rfl (by omega) (by decide) ?_
      refine mw_iload_n C 3 d_Mo_make_64 rfl rfl ?_
      refine mw_iaddN C d_Mo_make_65 ?_
      refine mo_ast C rfl h d_Mo_make_66 (by decide) rfl rfl (by omega) (by decide) (fun S h => ?_)
      refine mw_vret C hR d_Mo_make_67 ?_
      unfold a_make
      rw [if_neg (by omega)]
      exact h
    ·
      refine mw_vret C hR d_Mo_make_44 ?_
      unfold a_make
      rw [if_pos (Or.inr (by omega))]
      exact h
def a_shQ (node : Nat) : Nat → aS → aS
  | 0, σ => σ
  | k + 1, σ => a_up (a_shQ node k σ) 19 (12 * node + k) ((a_shQ node k σ).1 19 (12 * node + k + 1))
def a_first (σ : aS) (node : Nat) : Nat × aS := if σ.1 20 node = 0 then (0, σ) else (σ.1 19 (12 * node), a_shQ node (σ.1 20 node - 1) (a_up σ 20 node (σ.1 20 node - 1)))
theorem a_shQ_kp (node : Nat) (σ : aS) : ∀ k, a_kp (fun f => f = 19) σ (a_shQ node k σ)
  | 0 => a_kp_r _ _
  | k + 1 => a_kp_t (a_shQ_kp node σ k) (a_kp_u (fs := fun f => f = 19) (f := 19) rfl _ _ _)
set_option maxHeartbeats 4000000 in
set_option maxRecDepth 100000 in
theorem m_Mo_firstTransfer (l : Launch) (D : va_G) (cA : Nat → ClassId) (cn fv : Int32) (σ : aS) (node : Nat) (S : mw_S) (h : mR cn fv σ S) (hn : node < 4) (hq : σ.1 20 node ≤ 12) : mw_M true l lw_tbl y_Mo_firstTransfer b_Mo_firstTransfer 4 (some .int) { frames := 0, cells := 0, slots := 0, locals := 0 } D vCl cA sh_Mo 22 [.inr (.inr 0), .inl (nI node)] (S) (mw_Pi (fun z S' => z = nI (a_first σ node).1 ∧ mR cn fv (a_first σ node).2 S')) := by
  refine mw_M_of (by decide) (Nat.le_of_ble_eq_true rfl) ?_
  intro p e s m args below meth c A ad C hR
  refine mw_aload_n C 0 d_Mo_firstTransfer_0 rfl rfl ?_
  refine mw_getr C f_Mo_69 d_Mo_firstTransfer_1 (by decide) rfl rfl ?_
  refine mw_iload_n C 1 d_Mo_firstTransfer_4 rfl rfl ?_
  refine mo_ald C h d_Mo_firstTransfer_5 (by decide) rfl rfl (by omega) (by decide) ?_
  refine mw_if_neN C 11 d_Mo_firstTransfer_6 (by decide) (by omega) (fun h6 => ?_) (fun h6 => ?_)
  ·
    have L : ∀ (dd i : Nat) (S1 : mw_S), i + dd = σ.1 20 node - 1 → mR cn fv (a_shQ node i (a_up σ 20 node (σ.1 20 node - 1))) S1 → mw p l e { frames := 0, cells := 0, slots := 0, locals := 0 } s m args below meth c (MQ below (mw_Qc true D vCl cA ad sh_Mo 22 s.heap.size (S) (mw_Pi (fun z S' => z = nI (a_first σ node).1 ∧ mR cn fv (a_first σ node).2 S'))) args s 0 0 A) 0 0 D vCl cA A ad sh_Mo 22 4 (33) ([(3, .inl (nI i)), (2, .inl (nI (σ.1 19 (12 * node)))), (0, .inr (.inr 0)), (1, .inl (nI node))]) ([]) (S1) := by
      intro dd
      induction dd with
      | zero =>
        intro i S1 hi h
        refine mw_iload_n C 3 d_Mo_firstTransfer_33 rfl rfl ?_
        refine mw_aload_n C 0 d_Mo_firstTransfer_34 rfl rfl ?_
        refine mw_getr C f_Mo_69 d_Mo_firstTransfer_35 (by decide) rfl rfl ?_
        refine mw_iload_n C 1 d_Mo_firstTransfer_38 rfl rfl ?_
        refine mo_ald C h d_Mo_firstTransfer_39 (by decide) rfl rfl (by omega) (by decide) ?_
        refine mw_eqi (show _ = nI (σ.1 20 node - 1) from by rw [(a_shQ_kp node _ i).1 20 node (by decide), a_up_s]) ?_
        refine mw_icmp_geN C 73 d_Mo_firstTransfer_40 (by decide) (by omega) (by omega) (fun h40 => ?_) (fun h40 => ?_)
        ·
          refine mw_iload_n C 2 d_Mo_firstTransfer_73 rfl rfl ?_
          refine mw_iret C hR d_Mo_firstTransfer_74 ?_
          unfold a_first
          rw [if_neg (by omega)]
          rw [show i = σ.1 20 node - 1 from by omega] at h
          exact ⟨rfl, h⟩
        · exfalso; omega
      | succ dd ih =>
        intro i S1 hi h
        refine mw_iload_n C 3 d_Mo_firstTransfer_33 rfl rfl ?_
        refine mw_aload_n C 0 d_Mo_firstTransfer_34 rfl rfl ?_
        refine mw_getr C f_Mo_69 d_Mo_firstTransfer_35 (by decide) rfl rfl ?_
        refine mw_iload_n C 1 d_Mo_firstTransfer_38 rfl rfl ?_
        refine mo_ald C h d_Mo_firstTransfer_39 (by decide) rfl rfl (by omega) (by decide) ?_
        refine mw_eqi (show _ = nI (σ.1 20 node - 1) from by rw [(a_shQ_kp node _ i).1 20 node (by decide), a_up_s]) ?_
        refine mw_icmp_geN C 73 d_Mo_firstTransfer_40 (by decide) (by omega) (by omega) (fun h40 => ?_) (fun h40 => ?_)
        · exfalso; omega
        ·
          refine mw_aload_n C 0 d_Mo_firstTransfer_43 rfl rfl ?_
          refine mw_getr C f_Mo_66 d_Mo_firstTransfer_44 (by decide) rfl rfl ?_
          refine mw_bipush C (v := nI 12) d_Mo_firstTransfer_47 (by decide) ?_
          refine mw_iload_n C 1 d_Mo_firstTransfer_49 rfl rfl ?_
          refine mw_imulN C d_Mo_firstTransfer_50 ?_
          refine mw_iload_n C 3 d_Mo_firstTransfer_51 rfl rfl ?_
          refine mw_iaddN C d_Mo_firstTransfer_52 ?_
          refine mw_aload_n C 0 d_Mo_firstTransfer_53 rfl rfl ?_
          refine mw_getr C f_Mo_66 d_Mo_firstTransfer_54 (by decide) rfl rfl ?_
          refine mw_bipush C (v := nI 12) d_Mo_firstTransfer_57 (by decide) ?_
          refine mw_iload_n C 1 d_Mo_firstTransfer_59 rfl rfl ?_
          refine mw_imulN C d_Mo_firstTransfer_60 ?_
          refine mw_iload_n C 3 d_Mo_firstTransfer_61 rfl rfl ?_
          refine mw_iaddN C d_Mo_firstTransfer_62 ?_
          refine mw_iconst C (v := nI 1) d_Mo_firstTransfer_63 (by decide) ?_
          refine mw_iaddN C d_Mo_firstTransfer_64 ?_
          refine mo_ald C h d_Mo_firstTransfer_65 (by decide) rfl rfl (by omega) (by decide) ?_
          refine mo_ast C rfl h d_Mo_firstTransfer_66 (by decide) rfl rfl (by omega) (by decide) (fun S h => ?_)
          refine mw_iincN C d_Mo_firstTransfer_67 rfl (by decide) ?_
          refine mw_goto C 33 d_Mo_firstTransfer_70 (by decide) ?_
          exact mw_to _ (by exact And.intro rfl (And.intro rfl (And.intro rfl (And.intro rfl (trivial))))) (ih (i + 1) S (by omega) h)
    refine mw_aload_n C 0 d_Mo_firstTransfer_11 rfl rfl ?_
    refine mw_getr C f_Mo_66 d_Mo_firstTransfer_12 (by decide) rfl rfl ?_
    refine mw_bipush C (v := nI 12) d_Mo_firstTransfer_15 (by decide) ?_
    refine mw_iload_n C 1 d_Mo_firstTransfer_17 rfl rfl ?_
    refine mw_imulN C d_Mo_firstTransfer_18 ?_
    refine mo_ald C h d_Mo_firstTransfer_19 (by decide) rfl rfl (by omega) (by decide) ?_
    refine mw_istore_n C 2 d_Mo_firstTransfer_20 rfl (by decide) ?_
    refine mw_aload_n C 0 d_Mo_firstTransfer_21 rfl rfl ?_
    refine mw_getr C f_Mo_69 d_Mo_firstTransfer_22 (by decide) rfl rfl ?_
    refine mw_iload_n C 1 d_Mo_firstTransfer_25 rfl rfl ?_
    refine mw_dup2_11 C d_Mo_firstTransfer_26 rfl rfl ?_
    refine mo_ald C h d_Mo_firstTransfer_27 (by decide) rfl rfl (by omega) (by decide) ?_
    refine mw_iconst C (v := nI 1) d_Mo_firstTransfer_28 (by decide) ?_
    refine mw_isubN C d_Mo_firstTransfer_29 (by omega) ?_
    refine mo_ast C rfl h d_Mo_firstTransfer_30 (by decide) rfl rfl (by omega) (by decide) (fun S h => ?_)
    refine mw_iconst C (v := nI 0) d_Mo_firstTransfer_31 (by decide) ?_
    refine mw_istore_n C 3 d_Mo_firstTransfer_32 rfl (by decide) ?_
    exact mw_to _ (by exact And.intro rfl (And.intro rfl (And.intro rfl (And.intro rfl (trivial))))) (L _ 0 S (Nat.zero_add _) h)
  ·
    refine mw_iconst C (v := nI 0) d_Mo_firstTransfer_9 (by decide) ?_
    refine mw_iret C hR d_Mo_firstTransfer_10 ?_
    unfold a_first
    rw [if_pos h6]
    exact ⟨rfl, h⟩
set_option maxHeartbeats 4000000 in
set_option maxRecDepth 100000 in
theorem m_Mo_orderBelow (l : Launch) (D : va_G) (cA : Nat → ClassId) (cn fv : Int32) (σ : aS) (fy B node place : Nat) (S : mw_S) (h : mR cn fv σ S) (hI : aI fy B σ) (hn : node < 4) (hp : place < 48) : mw_M true l lw_tbl y_Mo_orderBelow b_Mo_orderBelow 7 none { frames := 2, cells := 0, slots := 0, locals := 53 } D vCl cA sh_Mo 22 [.inr (.inr 0), .inl (nI node), .inl (nI place)] (S) (mw_Pv (fun S' => mR cn fv (a_ordB σ node place) S')) := by
  refine mw_M_of (by decide) (Nat.le_of_ble_eq_true rfl) ?_
  intro p e s m args below meth c A ad C hR
  have L : ∀ (all : Int64) (dd i : Nat) (S1 : mw_S), i + dd = 48 → a_ordL node all 48 σ = a_ordB σ node place → mR cn fv (a_ordL node all i σ) S1 → mw p l e { frames := 2, cells := 0, slots := 0, locals := 53 } s m args below meth c (MQ below (mw_Qc true D vCl cA ad sh_Mo 22 s.heap.size (S) (mw_Pv (fun S' => mR cn fv (a_ordB σ node place) S'))) args s 0 0 A) 0 0 D vCl cA A ad sh_Mo 22 7 (13) ([(5, .inl (nI i)), (3, .inr (.inl all)), (0, .inr (.inr 0)), (1, .inl (nI node))]) ([]) (S1) := by
    intro all dd
    induction dd with
    | zero =>
      intro i S1 hi he h
      refine mw_iload C d_Mo_orderBelow_13 rfl ?_
      refine mw_bipush C (v := nI 48) d_Mo_orderBelow_15 (by decide) ?_
      refine mw_icmp_geN C 109 d_Mo_orderBelow_17 (by decide) (by omega) (by omega) (fun h17 => ?_) (fun h17 => ?_)
      ·
        refine mw_vret C hR d_Mo_orderBelow_109 ?_
        rw [show i = 48 from by omega, he] at h
        exact h
      · exfalso; omega
    | succ dd ih =>
      intro i S1 hi he h
      have hI2 := aI_ordL hI all hn i (by omega)
      have h10 := hI2.f10 (48 * node + i)
      have ha := hI2.a80 (n := node) (q := i) hn (by omega)
      have hoc := hI2.oc node hn
      refine mw_iload C d_Mo_orderBelow_13 rfl ?_
      refine mw_bipush C (v := nI 48) d_Mo_orderBelow_15 (by decide) ?_
      refine mw_icmp_geN C 109 d_Mo_orderBelow_17 (by decide) (by omega) (by omega) (fun h17 => ?_) (fun h17 => ?_)
      · exfalso; omega
      ·
        refine mw_bipush C (v := nI 48) d_Mo_orderBelow_20 (by decide) ?_
        refine mw_iload_n C 1 d_Mo_orderBelow_22 rfl rfl ?_
        refine mw_imulN C d_Mo_orderBelow_23 ?_
        refine mw_iload C d_Mo_orderBelow_24 rfl ?_
        refine mw_iaddN C d_Mo_orderBelow_26 ?_
        refine mw_istore C d_Mo_orderBelow_27 (by decide) ?_
        refine mw_lload_n C 3 d_Mo_orderBelow_29 rfl rfl ?_
        refine mw_iload C d_Mo_orderBelow_30 rfl ?_
        refine mw_lshr C d_Mo_orderBelow_32 ?_
        refine mw_lconst C (v := 1) d_Mo_orderBelow_33 (by decide) ?_
        refine mw_land C d_Mo_orderBelow_34 ?_
        refine mw_lconst C (v := 1) d_Mo_orderBelow_35 (by decide) ?_
        refine mw_lcmp C d_Mo_orderBelow_36 ?_
        refine mw_if_ne C 103 d_Mo_orderBelow_37 (by decide) (fun h37 => ?_) (fun h37 => ?_)
        ·
          refine mw_iincN C d_Mo_orderBelow_103 rfl (by decide) ?_
          refine mw_goto C 13 d_Mo_orderBelow_106 (by decide) ?_
          refine mw_to _ (by exact And.intro rfl (And.intro rfl (And.intro rfl (And.intro rfl (trivial))))) (ih (i + 1) _ (by omega) he ?_)
          rw [a_ordL, a_ordS, if_neg (fun hh => h37 ((lg_cmp_eq _ _).mpr ((lb_is1 all (by omega)).mpr hh.1)))]
          exact h
        ·
          have hb : lb all i = true := (lb_is1 all (by omega)).mp ((lg_cmp_eq _ _).mp h37)
          refine mw_aload_n C 0 d_Mo_orderBelow_40 rfl rfl ?_
          refine mw_getr C f_Mo_39 d_Mo_orderBelow_41 (by decide) rfl rfl ?_
          refine mw_iload C d_Mo_orderBelow_44 rfl ?_
          refine mo_zald C h d_Mo_orderBelow_46 (by decide) rfl rfl (by omega) (by decide) ?_
          refine mw_if_neN C 103 d_Mo_orderBelow_47 (by decide) (by omega) (fun h47 => ?_) (fun h47 => ?_)
          ·
            refine mw_iincN C d_Mo_orderBelow_103 rfl (by decide) ?_
            refine mw_goto C 13 d_Mo_orderBelow_106 (by decide) ?_
            refine mw_to _ (by exact And.intro rfl (And.intro rfl (And.intro rfl (And.intro rfl (trivial))))) (ih (i + 1) _ (by omega) he ?_)
            rw [a_ordL, a_ordS, if_neg (fun hh => by omega)]
            exact h
          ·
            have hps := a_c0_pos (g := fun q => (a_ordL node all i σ).1 10 (48 * node + q)) (j := i) (n := 48) h47 (by omega)
            refine mw_aload_n C 0 d_Mo_orderBelow_50 rfl rfl ?_
            refine mw_getr C f_Mo_39 d_Mo_orderBelow_51 (by decide) rfl rfl ?_
            refine mw_iload C d_Mo_orderBelow_54 rfl ?_
            refine mw_iconst C (v := nI 1) d_Mo_orderBelow_56 (by decide) ?_
            refine mo_zast C rfl h d_Mo_orderBelow_57 (by decide) rfl rfl (by omega) (by decide) (by decide) (fun S h => ?_)
            refine mw_aload_n C 0 d_Mo_orderBelow_58 rfl rfl ?_
            refine mw_getr C f_Mo_42 d_Mo_orderBelow_59 (by decide) rfl rfl ?_
            refine mw_bipush C (v := nI 48) d_Mo_orderBelow_62 (by decide) ?_
            refine mw_iload_n C 1 d_Mo_orderBelow_64 rfl rfl ?_
            refine mw_imulN C d_Mo_orderBelow_65 ?_
            refine mw_aload_n C 0 d_Mo_orderBelow_66 rfl rfl ?_
            refine mw_getr C f_Mo_60 d_Mo_orderBelow_67 (by decide) rfl rfl ?_
            refine mw_iload_n C 1 d_Mo_orderBelow_70 rfl rfl ?_
            refine mo_ald C h d_Mo_orderBelow_71 (by decide) rfl rfl (by omega) (by decide) ?_
            refine mw_eqi (show _ = nI ((a_ordL node all i σ).1 17 node) from by rw [a_up_f _ _ _ _ (by decide)]) ?_
            refine mw_iaddN C d_Mo_orderBelow_72 ?_
            refine mw_iload C d_Mo_orderBelow_73 rfl ?_
            refine mo_ast C rfl h d_Mo_orderBelow_75 (by decide) rfl rfl (by omega) (by decide) (fun S h => ?_)
            refine mw_aload_n C 0 d_Mo_orderBelow_76 rfl rfl ?_
            refine mw_getr C f_Mo_60 d_Mo_orderBelow_77 (by decide) rfl rfl ?_
            refine mw_iload_n C 1 d_Mo_orderBelow_80 rfl rfl ?_
            refine mw_dup2_11 C d_Mo_orderBelow_81 rfl rfl ?_
            refine mo_ald C h d_Mo_orderBelow_82 (by decide) rfl rfl (by omega) (by decide) ?_
            refine mw_eqi (show _ = nI ((a_ordL node all i σ).1 17 node) from by rw [a_up_f _ _ _ _ (by decide), a_up_f _ _ _ _ (by decide)]) ?_
            refine mw_iconst C (v := nI 1) d_Mo_orderBelow_83 (by decide) ?_
            refine mw_iaddN C d_Mo_orderBelow_84 ?_
            refine mo_ast C rfl h d_Mo_orderBelow_85 (by decide) rfl rfl (by omega) (by decide) (fun S h => ?_)
            refine mw_aload_n C 0 d_Mo_orderBelow_86 rfl rfl ?_
            refine mw_iload_n C 1 d_Mo_orderBelow_87 rfl rfl ?_
            refine mw_aload_n C 0 d_Mo_orderBelow_88 rfl rfl ?_
            refine mw_getr C f_Mo_20 d_Mo_orderBelow_89 (by decide) rfl rfl ?_
            refine mw_aload_n C 0 d_Mo_orderBelow_92 rfl rfl ?_
            refine mw_getr C f_Mo_33 d_Mo_orderBelow_93 (by decide) rfl rfl ?_
            refine mw_iload C d_Mo_orderBelow_96 rfl ?_
            refine mo_ald C h d_Mo_orderBelow_98 (by decide) rfl rfl (by omega) (by decide) ?_
            refine mw_eqi (show _ = nI ((a_ordL node all i σ).1 8 (48 * node + i)) from by rw [a_up_f _ _ _ _ (by decide), a_up_f _ _ _ _ (by decide), a_up_f _ _ _ _ (by decide)]) ?_
            refine mo_ald C h d_Mo_orderBelow_99 (by decide) rfl rfl (by omega) (by decide) ?_
            refine mw_eqi (show _ = nI ((a_ordL node all i σ).1 4 ((a_ordL node all i σ).1 8 (48 * node + i))) from by rw [a_up_f _ _ _ _ (by decide), a_up_f _ _ _ _ (by decide), a_up_f _ _ _ _ (by decide)]) ?_
            refine mo_runv C rfl (mw_invV C (kk := 0) (m_Mo_make l D cA cn fv _ node _ _ (mR_rs h) hn (hI2.tr _) (fun k hk => hI2.b400 hn hk)) ix_Mo kb_Mo_162 wm_Mo_make wv_Mo_make (by decide) rfl rfl d_Mo_orderBelow_100 rfl rfl (Nat.le_of_ble_eq_true rfl) rfl rfl ⟨by decide, by decide⟩ ⟨Nat.zero_le _, Nat.zero_le _⟩) (fun S h => ?_)
            refine mw_iincN C d_Mo_orderBelow_103 rfl (by decide) ?_
            refine mw_goto C 13 d_Mo_orderBelow_106 (by decide) ?_
            refine mw_to _ (by exact And.intro rfl (And.intro rfl (And.intro rfl (And.intro rfl (trivial))))) (ih (i + 1) _ (by omega) he ?_)
            rw [a_ordL, a_ordS, if_pos ⟨hb, h47⟩]
            exact h
  refine mw_aload_n C 0 d_Mo_orderBelow_0 rfl rfl ?_
  refine mw_iload_n C 1 d_Mo_orderBelow_1 rfl rfl ?_
  refine mw_lconst C (v := 1) d_Mo_orderBelow_2 (by decide) ?_
  refine mw_iload_n C 2 d_Mo_orderBelow_3 rfl rfl ?_
  refine mw_lshl C d_Mo_orderBelow_4 ?_
  refine mw_eql (one_shl (by omega)) ?_
  refine mw_iconst C (v := nI 0) d_Mo_orderBelow_5 (by decide) ?_
  refine mw_run0l C ix_Mo (mw_invV C (kk := 0) (m_Mo_below l D cA cn fv σ node 0 _ _ (mR_rs h) hn (by decide) (fun q hq => hI.a80 hn hq) hI.pl hI.st) ix_Mo kb_Mo_154 wm_Mo_below wv_Mo_below (by decide) rfl rfl d_Mo_orderBelow_6 rfl rfl (Nat.le_of_ble_eq_true rfl) rfl rfl ⟨by decide, by decide⟩ ⟨Nat.zero_le _, Nat.zero_le _⟩) (fun x6 e6 => ?_)
  subst e6
  refine mw_lstore_n C 3 d_Mo_orderBelow_9 rfl (by decide) ?_
  refine mw_iconst C (v := nI 0) d_Mo_orderBelow_10 (by decide) ?_
  refine mw_istore C d_Mo_orderBelow_11 (by decide) ?_
  exact mw_to _ (by exact And.intro rfl (And.intro rfl (And.intro rfl (And.intro rfl (trivial))))) (L _ 48 0 _ rfl rfl h)
end
