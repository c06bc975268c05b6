/-! THE MINI WORLD: cells by place; the values of all cells in one store; rows of the kit said of it. -/
abbrev mw_V : Type := Int32 ⊕ (Int64 ⊕ Nat)
abbrev mw_S : Type := (Nat → Nat → Int32) × (Nat → Nat → Int64)
/-- a cell's shape: an array (its type's number, its length; 0: ints, 1: longs, or the places that it names) or an object (its class's number; its fields: 0: an int, 1: a long, or a place) -/
abbrev mw_H : Type := (Nat × Nat × (Nat ⊕ List Nat)) ⊕ (Nat × List (Nat ⊕ Nat))
def mw_tv (ad : Nat → Nat) : mw_V → Value
  | .inl x => .int x
  | .inr (.inl y) => .long y
  | .inr (.inr k) => .ref (ad k)
def mw_f1 (ad : Nat → Nat) (S : mw_S) (k j : Nat) : Nat ⊕ Nat → Value
  | .inl 0 => .int (S.1 k j)
  | .inl 1 => .long (S.2 k j)
  | .inl (_ + 2) => .null
  | .inr r => .ref (ad r)
def mw_fv (ad : Nat → Nat) (S : mw_S) (k : Nat) (fk : List (Nat ⊕ Nat)) : List Value := fk.zipIdx.map (fun q => mw_f1 ad S k q.2 q.1)
def mw_e (cA : Nat → ClassId) (ad : Nat → Nat) (S : mw_S) (k : Nat) : mw_H → va_E
  | .inl (t, n, .inl 0) => .inl (cA t, n, .inl (S.1 k))
  | .inl (t, n, .inl (_ + 1)) => .inl (cA t, n, .inr (.inl (S.2 k)))
  | .inl (t, n, .inr f) => .inl (cA t, n, .inr (.inr (.inr (.inr (fun j => (f[j]?).map ad)))))
  | .inr (ci, fk) => .inr (ci, mw_fv ad S k fk)
def mw_W (cA : Nat → ClassId) (ad : Nat → Nat) (sh : Nat → mw_H) (n : Nat) (S : mw_S) : va_W := (List.range n).map (fun k => (ad k, mw_e cA ad S k (sh k)))
def mw_T (cA : Nat → ClassId) : List (ClassId × FieldType) := [(cA 0, .int), (cA 1, .long), (cA 2, .boolean), (cA 3, .object "WaveLedger$Node")]
section MWP
variable {cA : Nat → ClassId} {ad : Nat → Nat} {sh : Nat → mw_H} {n : Nat} {S S' : mw_S} {A : Nat → Prop}
theorem mw_W_get {k : Nat} (hk : k < n) : (mw_W cA ad sh n S)[k]? = some (ad k, mw_e cA ad S k (sh k)) := by
  unfold mw_W
  rw [List.getElem?_map, List.getElem?_range hk]
  rfl
theorem mw_W_len : (mw_W cA ad sh n S).length = n := by simp [mw_W]
theorem mw_W_some {i : Nat} {q : Nat × va_E} (h : (mw_W cA ad sh n S)[i]? = some q) : i < n ∧ q = (ad i, mw_e cA ad S i (sh i)) := by
  have hi : i < n := by
    have := (List.getElem?_eq_some_iff.mp h).1
    rwa [mw_W_len] at this
  refine ⟨hi, ?_⟩
  rw [mw_W_get hi] at h
  exact (Option.some.inj h).symm
theorem mw_f1_congr {k : Nat} (h1 : S'.1 k = S.1 k) (h2 : S'.2 k = S.2 k) (j : Nat) (x : Nat ⊕ Nat) : mw_f1 ad S' k j x = mw_f1 ad S k j x := by
  match x with
  | .inl 0 => simp only [mw_f1, h1]
  | .inl 1 => simp only [mw_f1, h2]
  | .inl (_ + 2) => rfl
  | .inr _ => rfl
theorem mw_e_congr {k : Nat} (h1 : S'.1 k = S.1 k) (h2 : S'.2 k = S.2 k) (h : mw_H) : mw_e cA ad S' k h = mw_e cA ad S k h := by
  match h with
  | .inl (t, n, .inl 0) => simp only [mw_e, h1]
  | .inl (t, n, .inl (_ + 1)) => simp only [mw_e, h2]
  | .inl (t, n, .inr f) => rfl
  | .inr (ci, fk) =>
    have e : mw_fv ad S' k fk = mw_fv ad S k fk := by
      unfold mw_fv
      exact List.map_congr_left (fun q _ => mw_f1_congr h1 h2 q.2 q.1)
    simp only [mw_e, e]
theorem mw_D (hi : ∀ i j, i < n → j < n → ad i = ad j → i = j) (hA : ∀ k, k < n → A (ad k)) : va_D A (mw_W cA ad sh n S) :=
  ⟨fun i j p q hp hq e => by
    obtain ⟨h1, rfl⟩ := mw_W_some hp
    obtain ⟨h2, rfl⟩ := mw_W_some hq
    exact hi i j h1 h2 e, fun k q hk => by
    obtain ⟨h1, rfl⟩ := mw_W_some hk
    exact hA k h1⟩
theorem mw_W_set {k : Nat} (hk : k < n) (h1 : ∀ i, i ≠ k → S'.1 i = S.1 i) (h2 : ∀ i, i ≠ k → S'.2 i = S.2 i) {x : va_E} (hx : mw_e cA ad S' k (sh k) = x) : (mw_W cA ad sh n S).set k (ad k, x) = mw_W cA ad sh n S' := by
  subst hx
  apply List.ext_getElem?
  intro i
  by_cases hi : i < n
  · by_cases e : i = k
    · subst e
      rw [List.getElem?_set_self (by rw [mw_W_len]; exact hi), mw_W_get hi]
    · rw [List.getElem?_set_ne (Ne.symm e), mw_W_get hi, mw_W_get hi, mw_e_congr (h1 i e) (h2 i e)]
  · rw [List.getElem?_eq_none (by rw [List.length_set, mw_W_len]; omega), List.getElem?_eq_none (by rw [mw_W_len]; omega)]
end MWP
/-- a cell's ints, its longs, as a whole; one of them -/
def mw_rI (S : mw_S) (k : Nat) (f : Nat → Int32) : mw_S := (fun i => if i = k then f else S.1 i, S.2)
def mw_rL (S : mw_S) (k : Nat) (f : Nat → Int64) : mw_S := (S.1, fun i => if i = k then f else S.2 i)
def mw_uI (S : mw_S) (k j : Nat) (x : Int32) : mw_S := mw_rI S k (upd (S.1 k) j x)
def mw_uL (S : mw_S) (k j : Nat) (x : Int64) : mw_S := mw_rL S k (vp_updL (S.2 k) j x)
theorem mw_rI_s (S : mw_S) (k : Nat) (f : Nat → Int32) : (mw_rI S k f).1 k = f := by simp [mw_rI]
theorem mw_rI_n (S : mw_S) {k i : Nat} (f : Nat → Int32) (h : i ≠ k) : (mw_rI S k f).1 i = S.1 i := by simp [mw_rI, h]
theorem mw_rI_2 (S : mw_S) (k : Nat) (f : Nat → Int32) : (mw_rI S k f).2 = S.2 := rfl
theorem mw_rL_s (S : mw_S) (k : Nat) (f : Nat → Int64) : (mw_rL S k f).2 k = f := by simp [mw_rL]
theorem mw_rL_n (S : mw_S) {k i : Nat} (f : Nat → Int64) (h : i ≠ k) : (mw_rL S k f).2 i = S.2 i := by simp [mw_rL, h]
theorem mw_rL_1 (S : mw_S) (k : Nat) (f : Nat → Int64) : (mw_rL S k f).1 = S.1 := rfl
-- locals
def mw_lk : List (Nat × mw_V) → Nat → Option mw_V
  | [], _ => none
  | q :: l, i => cond (Nat.beq q.1 i) (some q.2) (mw_lk l i)
theorem mw_lk_mem {i : Nat} {v : mw_V} : ∀ {l : List (Nat × mw_V)}, mw_lk l i = some v → (i, v) ∈ l
  | [], h => by cases h
  | q :: l, h => by
    unfold mw_lk at h
    cases hb : Nat.beq q.1 i with
    | true =>
      rw [hb] at h
      have e : q.1 = i := Nat.eq_of_beq_eq_true hb
      have e2 : q.2 = v := Option.some.inj h
      have : q = (i, v) := by rw [← e, ← e2]
      rw [this]
      exact List.mem_cons_self
    | false =>
      rw [hb] at h
      exact List.mem_cons_of_mem _ (mw_lk_mem h)
def mw_is2 : mw_V → Bool
  | .inr (.inl _) => true
  | _ => false
theorem mw_cat (ad : Nat → Nat) (v : mw_V) : ((mw_tv ad v).category == 2) = mw_is2 v := by
  match v with
  | .inl _ => rfl
  | .inr (.inl _) => rfl
  | .inr (.inr _) => rfl
theorem mw_cat1 {ad : Nat → Nat} {v : mw_V} (h : mw_is2 v = false) : (mw_tv ad v).category = 1 := by
  match v, h with
  | .inl _, _ => rfl
  | .inr (.inr _), _ => rfl
theorem mw_cat2 {ad : Nat → Nat} {v : mw_V} (h : mw_is2 v = true) : (mw_tv ad v).category = 2 := by
  match v, h with
  | .inr (.inl _), _ => rfl
abbrev mw_lm (ad : Nat → Nat) (lv : List (Nat × mw_V)) : List (Nat × Value) := lv.map (fun q => (q.1, mw_tv ad q.2))
theorem mw_ls {ad : Nat → Nat} {ls : Array Slot} {nL i : Nat} {lv : List (Nat × mw_V)} {v : mw_V} (hl : lv_has ls nL (mw_lm ad lv)) (h : mw_lk lv i = some v) : ls[i]? = some (.val (mw_tv ad v)) :=
  hl.2.2 (i, mw_tv ad v) (List.mem_map.mpr ⟨(i, v), mw_lk_mem h, rfl⟩)
def mw_s1 (lv : List (Nat × mw_V)) (i : Nat) (v : mw_V) : List (Nat × mw_V) := (i, v) :: lv.filter (fun q => !(q.1 == i) && !(q.1 + 1 == i && mw_is2 q.2))
def mw_s2 (lv : List (Nat × mw_V)) (i : Nat) (v : mw_V) : List (Nat × mw_V) := (i, v) :: lv.filter (fun q => !(q.1 == i) && (!(q.1 == i + 1) && !(q.1 + 1 == i && mw_is2 q.2)))
theorem mw_s1_map (ad : Nat → Nat) (lv : List (Nat × mw_V)) (i : Nat) (v : mw_V) : (i, mw_tv ad v) :: (mw_lm ad lv).filter (fun q => !(q.1 == i) && !(q.1 + 1 == i && q.2.category == 2)) = mw_lm ad (mw_s1 lv i v) := by
  simp only [mw_s1, mw_lm, List.map_cons, List.filter_map]
  congr 2
  exact List.filter_congr (fun q _ => by simp only [Function.comp, mw_cat])
theorem mw_s2_map (ad : Nat → Nat) (lv : List (Nat × mw_V)) (i : Nat) (v : mw_V) : (i, mw_tv ad v) :: (mw_lm ad lv).filter (fun q => !(q.1 == i) && (!(q.1 == i + 1) && !(q.1 + 1 == i && q.2.category == 2))) = mw_lm ad (mw_s2 lv i v) := by
  simp only [mw_s2, mw_lm, List.map_cons, List.filter_map]
  congr 2
  exact List.filter_congr (fun q _ => by simp only [Function.comp, mw_cat])
/-- fewer locals, in any order -/
def mw_sub (lv : List (Nat × mw_V)) : List (Nat × mw_V) → Prop
  | [] => True
  | q :: l => mw_lk lv q.1 = some q.2 ∧ mw_sub lv l
theorem mw_sub_in {lv : List (Nat × mw_V)} : ∀ {l : List (Nat × mw_V)}, mw_sub lv l → ∀ q ∈ l, q ∈ lv
  | [], _, q, h => by cases h
  | a :: l, h, q, hq => by
    rcases List.mem_cons.mp hq with rfl | hq
    · exact mw_lk_mem h.1
    · exact mw_sub_in h.2 q hq
theorem mw_sub_has {ad : Nat → Nat} {ls : Array Slot} {nL : Nat} {lv lv' : List (Nat × mw_V)} (hl : lv_has ls nL (mw_lm ad lv)) (h : mw_sub lv lv') : lv_has ls nL (mw_lm ad lv') :=
  ⟨hl.1, hl.2.1, fun q hq => by
    obtain ⟨a, ha, rfl⟩ := List.mem_map.mp hq
    exact hl.2.2 _ (List.mem_map.mpr ⟨a, mw_sub_in h a ha, rfl⟩)⟩
def mw_args : Nat → List mw_V → List (Nat × mw_V)
  | _, [] => []
  | i, v :: vs => (i, v) :: mw_args (cond (mw_is2 v) (i + 2) (i + 1)) vs
theorem mw_args_map (ad : Nat → Nat) : ∀ (vs : List mw_V) (i : Nat), lv_args i (vs.map (mw_tv ad)) = mw_lm ad (mw_args i vs)
  | [], _ => rfl
  | v :: vs, i => by
    have e : (if (mw_tv ad v).category = 2 then i + 2 else i + 1) = cond (mw_is2 v) (i + 2) (i + 1) := by
      cases h : mw_is2 v with
      | true => rw [if_pos (mw_cat2 h)]; rfl
      | false => rw [if_neg (by rw [mw_cat1 h]; decide)]; rfl
    simp only [List.map_cons, lv_args, mw_args, e, mw_args_map ad vs]
def mw_words : List mw_V → Nat
  | [] => 0
  | v :: vs => cond (mw_is2 v) 2 1 + mw_words vs
theorem mw_words_len (ad : Nat → Nat) : ∀ vs : List mw_V, (lg_sl (vs.map (mw_tv ad))).length = mw_words vs
  | [] => rfl
  | v :: vs => by
    have ih := mw_words_len ad vs
    unfold lg_sl at ih ⊢
    simp only [List.map_cons, List.flatMap_cons, List.length_append, ih, mw_words]
    cases h : mw_is2 v with
    | true => rw [if_pos (mw_cat2 h)]; rfl
    | false => rw [if_neg (by rw [mw_cat1 h]; decide)]; rfl
-- the words: all that the tables say and that stay; the nest mates' links
def mw_nk : Cond → Bool
  | .fieldLinkNest .. => true
  | .methodLinkNest .. => true
  | .declares .. => true
  | .castable .. => true
  | _ => false
theorem mw_nk_tabs {w : Cond} (h : mw_nk w = true) : w.onTables = true := by
  cases w <;> first | rfl | (exfalso; simp [mw_nk] at h; done)
theorem mw_nk_warm {w : Cond} (h : mw_nk w = true) {s U : State} (hW : s.WarmedH U.vm) (hZ : va_Nw w s) : va_Nw w U := by
  cases w <;> first | exact va_Nw.warmF hW hZ | exact va_Nw.warmM hW hZ | (exfalso; simp [mw_nk] at h; done) | exact va_Nw.warmD hW hZ | exact va_tabs rfl (rfl : (s.setVm U.vm).vm = U.vm) (Cond.before_shiftedFace (args := #[]) (State.Shifted.of_warmed hW) _ rfl hZ)
def mw_G (tb : List Cond) : List Cond := tb.filter goodWord
def mw_N (tb : List Cond) : List Cond := tb.filter mw_nk
theorem mw_G_in {tb : List Cond} {w : Cond} (i : Nat) (h : tb[i]? = some w) (hg : goodWord w = true) : w ∈ mw_G tb := List.mem_filter.mpr ⟨List.mem_of_getElem? h, hg⟩
theorem mw_N_in {tb : List Cond} {w : Cond} (i : Nat) (h : tb[i]? = some w) (hg : mw_nk w = true) : w ∈ mw_N tb := List.mem_filter.mpr ⟨List.mem_of_getElem? h, hg⟩
theorem mw_good {tb : List Cond} {a b : Cond} (hb : b ∈ mw_G tb) : GoodIn (a :: mw_G tb) (b :: mw_G tb) := by
  intro w hw
  have h : w ∈ mw_G tb := by
    rcases List.mem_cons.mp hw with rfl | h
    · exact hb
    · exact h
  exact ⟨List.mem_cons_of_mem _ h, good_of_word (List.mem_filter.mp h).2⟩
/-- what a body's walk stands on, once and for all -/
def mw_C (p : Program) (m : MethodId) (c : Code) (s : State) (args : Array Value) (cc : ByteArray) (nL : Nat) (own : String) (b0 : Cond) (tb : List Cond) (D : va_G) (cl : List vw_C) (cA : Nat → ClassId) (A : Nat → Prop) (ad : Nat → Nat) (n : Nat) (w : Bool) : Prop :=
  CallFix p m c cc nL s args (b0 :: mw_G tb) own ∧ (∀ w ∈ mw_N tb, va_Nw w s) ∧ va_K D cl (mw_T cA) s ∧ (∀ q, s.heap.size ≤ q → A q) ∧ (∀ i j, i < n → j < n → ad i = ad j → i = j) ∧ (w = true → ∀ k, k < n → A (ad k))
/-- the judgement W, said of a store -/
def mw (p : Program) (l : Launch) (e : Env) (R : Room) (s : State) (m : MethodId) (args : Array Value) (below : List Frame) (meth : Method) (c : Code) (Q : State → Prop) (cells slots : Nat) (D : va_G) (cl : List vw_C) (cA : Nat → ClassId) (A : Nat → Prop) (ad : Nat → Nat) (sh : Nat → mw_H) (n nL pc : Nat) (lv : List (Nat × mw_V)) (st : List mw_V) (S : mw_S) : Prop :=
  ∀ (H : Heap) (locs : List Loc) (ls : Array Slot), va_P D cl (mw_W cA ad sh n S) H → va_S A s.heap H locs → lv_has ls nL (mw_lm ad lv) → W p l e R s m args below meth c H locs cells slots Q (F0 m pc ls (st.map (mw_tv ad)))
section MWR
variable {p : Program} {l : Launch} {e : Env} {R : Room} {s : State} {m : MethodId} {args : Array Value} {below : List Frame} {meth : Method} {c : Code} {Q : State → Prop} {cells slots : Nat}
variable {cc : ByteArray} {nL : Nat} {own : String} {b0 : Cond} {tb : List Cond} {D : va_G} {cl : List vw_C} {cA : Nat → ClassId} {A : Nat → Prop} {ad : Nat → Nat} {sh : Nat → mw_H} {n : Nat} {w : Bool}
variable {pc : Nat} {lv : List (Nat × mw_V)} {st : List mw_V} {S : mw_S}
theorem mw_to (lv' : List (Nat × mw_V)) (h : mw_sub lv lv') (k : mw p l e R s m args below meth c Q cells slots D cl cA A ad sh n nL (pc) (lv') (st) (S)) : mw p l e R s m args below meth c Q cells slots D cl cA A ad sh n nL (pc) (lv) (st) (S) := fun H locs ls hP hS hl => k H locs ls hP hS (mw_sub_has hl h)
theorem mw_topi {x : Int32} (k : ∀ y : Int32, y = x → mw p l e R s m args below meth c Q cells slots D cl cA A ad sh n nL (pc) (lv) (.inl y :: st) (S)) : mw p l e R s m args below meth c Q cells slots D cl cA A ad sh n nL (pc) (lv) (.inl x :: st) (S) := k x rfl
theorem mw_topl {x : Int64} (k : ∀ y : Int64, y = x → mw p l e R s m args below meth c Q cells slots D cl cA A ad sh n nL (pc) (lv) (.inr (.inl y) :: st) (S)) : mw p l e R s m args below meth c Q cells slots D cl cA A ad sh n nL (pc) (lv) (.inr (.inl x) :: st) (S) := k x rfl
theorem mw_eqS {S' : mw_S} (h : S = S') (k : mw p l e R s m args below meth c Q cells slots D cl cA A ad sh n nL (pc) (lv) (st) (S')) : mw p l e R s m args below meth c Q cells slots D cl cA A ad sh n nL (pc) (lv) (st) (S) := h ▸ k
theorem mw_iconst (C : mw_C p m c s args cc nL own b0 tb D cl cA A ad n w) {i : Int} {v : Int32} (hd : decode cc pc = .ok (.iconst i, 1)) (hv : Int32.ofInt i = v) (k : mw p l e R s m args below meth c Q cells slots D cl cA A ad sh n nL (pc + 1) (lv) (.inl v :: st) (S)) : mw p l e R s m args below meth c Q cells slots D cl cA A ad sh n nL (pc) (lv) (st) (S) := fun H locs ls hP hS hl => lv_iconst C.1.1 C.1.2.1 hd hv (k H locs ls hP hS hl)
theorem mw_bipush (C : mw_C p m c s args cc nL own b0 tb D cl cA A ad n w) {i : Int} {v : Int32} (hd : decode cc pc = .ok (.bipush i, 2)) (hv : (Int8.ofInt i).toInt32 = v) (k : mw p l e R s m args below meth c Q cells slots D cl cA A ad sh n nL (pc + 2) (lv) (.inl v :: st) (S)) : mw p l e R s m args below meth c Q cells slots D cl cA A ad sh n nL (pc) (lv) (st) (S) := fun H locs ls hP hS hl => lv_bipush C.1.1 C.1.2.1 hd hv (k H locs ls hP hS hl)
theorem mw_sipush (C : mw_C p m c s args cc nL own b0 tb D cl cA A ad n w) {i : Int} {v : Int32} (hd : decode cc pc = .ok (.sipush i, 3)) (hv : (Int16.ofInt i).toInt32 = v) (k : mw p l e R s m args below meth c Q cells slots D cl cA A ad sh n nL (pc + 3) (lv) (.inl v :: st) (S)) : mw p l e R s m args below meth c Q cells slots D cl cA A ad sh n nL (pc) (lv) (st) (S) := fun H locs ls hP hS hl => lv_sipush C.1.1 C.1.2.1 hd hv (k H locs ls hP hS hl)
theorem mw_lconst (C : mw_C p m c s args cc nL own b0 tb D cl cA A ad n w) {i : Fin 2} {v : Int64} (hd : decode cc pc = .ok (.lconst i, 1)) (hv : Int64.ofNat (i : Nat) = v) (k : mw p l e R s m args below meth c Q cells slots D cl cA A ad sh n nL (pc + 1) (lv) (.inr (.inl v) :: st) (S)) : mw p l e R s m args below meth c Q cells slots D cl cA A ad sh n nL (pc) (lv) (st) (S) := fun H locs ls hP hS hl => lv_lconst C.1.1 C.1.2.1 hd hv (k H locs ls hP hS hl)
theorem mw_ldc (C : mw_C p m c s args cc nL own b0 tb D cl cA A ad n w) {index : Nat} {v : Int32} (hw : Cond.constant own index v ∈ mw_G tb) (hd : decode cc pc = .ok (.ldc index, 2)) (k : mw p l e R s m args below meth c Q cells slots D cl cA A ad sh n nL (pc + 2) (lv) (.inl v :: st) (S)) : mw p l e R s m args below meth c Q cells slots D cl cA A ad sh n nL (pc) (lv) (st) (S) := fun H locs ls hP hS hl => lv_ldc C.1.1 C.1.2.1 C.1.2.2.2.1 (C.1.2.2.2.2 _ (List.mem_cons_of_mem _ hw)) hd (k H locs ls hP hS hl)
theorem mw_ldc2 (C : mw_C p m c s args cc nL own b0 tb D cl cA A ad n w) {index : Nat} {v : Int64} (hw : Cond.constantLong own index v ∈ mw_G tb) (hd : decode cc pc = .ok (.ldc2_w index, 3)) (k : mw p l e R s m args below meth c Q cells slots D cl cA A ad sh n nL (pc + 3) (lv) (.inr (.inl v) :: st) (S)) : mw p l e R s m args below meth c Q cells slots D cl cA A ad sh n nL (pc) (lv) (st) (S) := fun H locs ls hP hS hl => lv_ldc2 C.1.1 C.1.2.1 C.1.2.2.2.1 (C.1.2.2.2.2 _ (List.mem_cons_of_mem _ hw)) hd (k H locs ls hP hS hl)
theorem mw_iload_n (C : mw_C p m c s args cc nL own b0 tb D cl cA A ad n w) {i : Fin 4} (j : Nat) {x : Int32} (hd : decode cc pc = .ok (.iload_n i, 1)) (hi : (i : Nat) = j) (hx : mw_lk lv j = some (.inl x)) (k : mw p l e R s m args below meth c Q cells slots D cl cA A ad sh n nL (pc + 1) (lv) (.inl x :: st) (S)) : mw p l e R s m args below meth c Q cells slots D cl cA A ad sh n nL (pc) (lv) (st) (S) := fun H locs ls hP hS hl => lv_iload_n C.1.1 C.1.2.1 hd hi (mw_ls hl hx) (k H locs ls hP hS hl)
theorem mw_iload (C : mw_C p m c s args cc nL own b0 tb D cl cA A ad n w) {j : Nat} {x : Int32} (hd : decode cc pc = .ok (.iload j, 2)) (hx : mw_lk lv j = some (.inl x)) (k : mw p l e R s m args below meth c Q cells slots D cl cA A ad sh n nL (pc + 2) (lv) (.inl x :: st) (S)) : mw p l e R s m args below meth c Q cells slots D cl cA A ad sh n nL (pc) (lv) (st) (S) := fun H locs ls hP hS hl => lv_iload C.1.1 C.1.2.1 hd (mw_ls hl hx) (k H locs ls hP hS hl)
theorem mw_lload_n (C : mw_C p m c s args cc nL own b0 tb D cl cA A ad n w) {i : Fin 4} (j : Nat) {x : Int64} (hd : decode cc pc = .ok (.lload_n i, 1)) (hi : (i : Nat) = j) (hx : mw_lk lv j = some (.inr (.inl x))) (k : mw p l e R s m args below meth c Q cells slots D cl cA A ad sh n nL (pc + 1) (lv) (.inr (.inl x) :: st) (S)) : mw p l e R s m args below meth c Q cells slots D cl cA A ad sh n nL (pc) (lv) (st) (S) := fun H locs ls hP hS hl => lv_lload_n C.1.1 C.1.2.1 hd hi (mw_ls hl hx) (k H locs ls hP hS hl)
theorem mw_lload (C : mw_C p m c s args cc nL own b0 tb D cl cA A ad n w) {j : Nat} {x : Int64} (hd : decode cc pc = .ok (.lload j, 2)) (hx : mw_lk lv j = some (.inr (.inl x))) (k : mw p l e R s m args below meth c Q cells slots D cl cA A ad sh n nL (pc + 2) (lv) (.inr (.inl x) :: st) (S)) : mw p l e R s m args below meth c Q cells slots D cl cA A ad sh n nL (pc) (lv) (st) (S) := fun H locs ls hP hS hl => lv_lload C.1.1 C.1.2.1 hd (mw_ls hl hx) (k H locs ls hP hS hl)
theorem mw_aload_n (C : mw_C p m c s args cc nL own b0 tb D cl cA A ad n w) {i : Fin 4} (j : Nat) {x : Nat} (hd : decode cc pc = .ok (.aload_n i, 1)) (hi : (i : Nat) = j) (hx : mw_lk lv j = some (.inr (.inr x))) (k : mw p l e R s m args below meth c Q cells slots D cl cA A ad sh n nL (pc + 1) (lv) (.inr (.inr x) :: st) (S)) : mw p l e R s m args below meth c Q cells slots D cl cA A ad sh n nL (pc) (lv) (st) (S) := fun H locs ls hP hS hl => lv_aload_n C.1.1 C.1.2.1 hd hi (mw_ls hl hx) (k H locs ls hP hS hl)
theorem mw_aload (C : mw_C p m c s args cc nL own b0 tb D cl cA A ad n w) {j : Nat} {x : Nat} (hd : decode cc pc = .ok (.aload j, 2)) (hx : mw_lk lv j = some (.inr (.inr x))) (k : mw p l e R s m args below meth c Q cells slots D cl cA A ad sh n nL (pc + 2) (lv) (.inr (.inr x) :: st) (S)) : mw p l e R s m args below meth c Q cells slots D cl cA A ad sh n nL (pc) (lv) (st) (S) := fun H locs ls hP hS hl => lv_aload C.1.1 C.1.2.1 hd (mw_ls hl hx) (k H locs ls hP hS hl)
theorem mw_istore_n (C : mw_C p m c s args cc nL own b0 tb D cl cA A ad n w) {i : Fin 4} (j : Nat) {x : Int32} (hd : decode cc pc = .ok (.istore_n i, 1)) (hi : (i : Nat) = j) (hn : j < nL) (k : mw p l e R s m args below meth c Q cells slots D cl cA A ad sh n nL (pc + 1) (mw_s1 lv j (.inl x)) (st) (S)) : mw p l e R s m args below meth c Q cells slots D cl cA A ad sh n nL (pc) (lv) (.inl x :: st) (S) := fun H locs ls hP hS hl => lv_istore_n C.1.1 C.1.2.1 hd hi hl hn (mw_s1_map ad lv j (.inl x)) (fun ls' hl' => k H locs ls' hP hS hl')
theorem mw_istore (C : mw_C p m c s args cc nL own b0 tb D cl cA A ad n w) {j : Nat} {x : Int32} (hd : decode cc pc = .ok (.istore j, 2)) (hn : j < nL) (k : mw p l e R s m args below meth c Q cells slots D cl cA A ad sh n nL (pc + 2) (mw_s1 lv j (.inl x)) (st) (S)) : mw p l e R s m args below meth c Q cells slots D cl cA A ad sh n nL (pc) (lv) (.inl x :: st) (S) := fun H locs ls hP hS hl => lv_istore C.1.1 C.1.2.1 hd hl hn (mw_s1_map ad lv j (.inl x)) (fun ls' hl' => k H locs ls' hP hS hl')
theorem mw_lstore_n (C : mw_C p m c s args cc nL own b0 tb D cl cA A ad n w) {i : Fin 4} (j : Nat) {x : Int64} (hd : decode cc pc = .ok (.lstore_n i, 1)) (hi : (i : Nat) = j) (hn : j + 1 < nL) (k : mw p l e R s m args below meth c Q cells slots D cl cA A ad sh n nL (pc + 1) (mw_s2 lv j (.inr (.inl x))) (st) (S)) : mw p l e R s m args below meth c Q cells slots D cl cA A ad sh n nL (pc) (lv) (.inr (.inl x) :: st) (S) := fun H locs ls hP hS hl => lv_lstore_n C.1.1 C.1.2.1 hd hi hl hn (mw_s2_map ad lv j (.inr (.inl x))) (fun ls' hl' => k H locs ls' hP hS hl')
theorem mw_lstore (C : mw_C p m c s args cc nL own b0 tb D cl cA A ad n w) {j : Nat} {x : Int64} (hd : decode cc pc = .ok (.lstore j, 2)) (hn : j + 1 < nL) (k : mw p l e R s m args below meth c Q cells slots D cl cA A ad sh n nL (pc + 2) (mw_s2 lv j (.inr (.inl x))) (st) (S)) : mw p l e R s m args below meth c Q cells slots D cl cA A ad sh n nL (pc) (lv) (.inr (.inl x) :: st) (S) := fun H locs ls hP hS hl => lv_lstore C.1.1 C.1.2.1 hd hl hn (mw_s2_map ad lv j (.inr (.inl x))) (fun ls' hl' => k H locs ls' hP hS hl')
theorem mw_astore_n (C : mw_C p m c s args cc nL own b0 tb D cl cA A ad n w) {i : Fin 4} (j : Nat) {x : Nat} (hd : decode cc pc = .ok (.astore_n i, 1)) (hi : (i : Nat) = j) (hn : j < nL) (k : mw p l e R s m args below meth c Q cells slots D cl cA A ad sh n nL (pc + 1) (mw_s1 lv j (.inr (.inr x))) (st) (S)) : mw p l e R s m args below meth c Q cells slots D cl cA A ad sh n nL (pc) (lv) (.inr (.inr x) :: st) (S) := fun H locs ls hP hS hl => lv_astore_n C.1.1 C.1.2.1 hd hi hl hn (mw_s1_map ad lv j (.inr (.inr x))) (fun ls' hl' => k H locs ls' hP hS hl')
theorem mw_astore (C : mw_C p m c s args cc nL own b0 tb D cl cA A ad n w) {j : Nat} {x : Nat} (hd : decode cc pc = .ok (.astore j, 2)) (hn : j < nL) (k : mw p l e R s m args below meth c Q cells slots D cl cA A ad sh n nL (pc + 2) (mw_s1 lv j (.inr (.inr x))) (st) (S)) : mw p l e R s m args below meth c Q cells slots D cl cA A ad sh n nL (pc) (lv) (.inr (.inr x) :: st) (S) := fun H locs ls hP hS hl => lv_astore C.1.1 C.1.2.1 hd hl hn (mw_s1_map ad lv j (.inr (.inr x))) (fun ls' hl' => k H locs ls' hP hS hl')
theorem mw_iinc (C : mw_C p m c s args cc nL own b0 tb D cl cA A ad n w) {j : Nat} {i : Int} {x v : Int32} (hd : decode cc pc = .ok (.iinc j i, 3)) (hx : mw_lk lv j = some (.inl x)) (hv : x + Int32.ofInt i = v) (hn : j < nL) (k : mw p l e R s m args below meth c Q cells slots D cl cA A ad sh n nL (pc + 3) (mw_s1 lv j (.inl v)) (st) (S)) : mw p l e R s m args below meth c Q cells slots D cl cA A ad sh n nL (pc) (lv) (st) (S) := fun H locs ls hP hS hl => by
  have hm : (j, Value.int x) ∈ mw_lm ad lv := List.mem_map.mpr ⟨(j, .inl x), mw_lk_mem hx, rfl⟩
  obtain ⟨i0, hi0⟩ := List.getElem?_of_mem hm
  exact lv_iinc C.1.1 C.1.2.1 hd hl hi0 hv hn (mw_s1_map ad lv j (.inl v)) (fun ls' hl' => k H locs ls' hP hS hl')
theorem mw_iadd (C : mw_C p m c s args cc nL own b0 tb D cl cA A ad n w) {x y : Int32} (hd : decode cc pc = .ok (.iadd, 1)) (k : mw p l e R s m args below meth c Q cells slots D cl cA A ad sh n nL (pc + 1) (lv) (.inl (x + y) :: st) (S)) : mw p l e R s m args below meth c Q cells slots D cl cA A ad sh n nL (pc) (lv) (.inl y :: .inl x :: st) (S) := fun H locs ls hP hS hl => lv_iadd C.1.1 C.1.2.1 hd (k H locs ls hP hS hl)
theorem mw_isub (C : mw_C p m c s args cc nL own b0 tb D cl cA A ad n w) {x y : Int32} (hd : decode cc pc = .ok (.isub, 1)) (k : mw p l e R s m args below meth c Q cells slots D cl cA A ad sh n nL (pc + 1) (lv) (.inl (x - y) :: st) (S)) : mw p l e R s m args below meth c Q cells slots D cl cA A ad sh n nL (pc) (lv) (.inl y :: .inl x :: st) (S) := fun H locs ls hP hS hl => lv_isub C.1.1 C.1.2.1 hd (k H locs ls hP hS hl)
theorem mw_imul (C : mw_C p m c s args cc nL own b0 tb D cl cA A ad n w) {x y : Int32} (hd : decode cc pc = .ok (.imul, 1)) (k : mw p l e R s m args below meth c Q cells slots D cl cA A ad sh n nL (pc + 1) (lv) (.inl (x * y) :: st) (S)) : mw p l e R s m args below meth c Q cells slots D cl cA A ad sh n nL (pc) (lv) (.inl y :: .inl x :: st) (S) := fun H locs ls hP hS hl => lv_imul C.1.1 C.1.2.1 hd (k H locs ls hP hS hl)
theorem mw_iand (C : mw_C p m c s args cc nL own b0 tb D cl cA A ad n w) {x y : Int32} (hd : decode cc pc = .ok (.iand, 1)) (k : mw p l e R s m args below meth c Q cells slots D cl cA A ad sh n nL (pc + 1) (lv) (.inl (x &&& y) :: st) (S)) : mw p l e R s m args below meth c Q cells slots D cl cA A ad sh n nL (pc) (lv) (.inl y :: .inl x :: st) (S) := fun H locs ls hP hS hl => lv_iand C.1.1 C.1.2.1 hd (k H locs ls hP hS hl)
theorem mw_ior (C : mw_C p m c s args cc nL own b0 tb D cl cA A ad n w) {x y : Int32} (hd : decode cc pc = .ok (.ior, 1)) (k : mw p l e R s m args below meth c Q cells slots D cl cA A ad sh n nL (pc + 1) (lv) (.inl (x ||| y) :: st) (S)) : mw p l e R s m args below meth c Q cells slots D cl cA A ad sh n nL (pc) (lv) (.inl y :: .inl x :: st) (S) := fun H locs ls hP hS hl => lv_ior C.1.1 C.1.2.1 hd (k H locs ls hP hS hl)
theorem mw_ixor (C : mw_C p m c s args cc nL own b0 tb D cl cA A ad n w) {x y : Int32} (hd : decode cc pc = .ok (.ixor, 1)) (k : mw p l e R s m args below meth c Q cells slots D cl cA A ad sh n nL (pc + 1) (lv) (.inl (x ^^^ y) :: st) (S)) : mw p l e R s m args below meth c Q cells slots D cl cA A ad sh n nL (pc) (lv) (.inl y :: .inl x :: st) (S) := fun H locs ls hP hS hl => lv_ixor C.1.1 C.1.2.1 hd (k H locs ls hP hS hl)
theorem mw_ishl (C : mw_C p m c s args cc nL own b0 tb D cl cA A ad n w) {x y : Int32} (hd : decode cc pc = .ok (.ishl, 1)) (k : mw p l e R s m args below meth c Q cells slots D cl cA A ad sh n nL (pc + 1) (lv) (.inl (x <<< (y &&& 31)) :: st) (S)) : mw p l e R s m args below meth c Q cells slots D cl cA A ad sh n nL (pc) (lv) (.inl y :: .inl x :: st) (S) := fun H locs ls hP hS hl => lv_ishl C.1.1 C.1.2.1 hd (k H locs ls hP hS hl)
theorem mw_ishr (C : mw_C p m c s args cc nL own b0 tb D cl cA A ad n w) {x y : Int32} (hd : decode cc pc = .ok (.ishr, 1)) (k : mw p l e R s m args below meth c Q cells slots D cl cA A ad sh n nL (pc + 1) (lv) (.inl (x >>> (y &&& 31)) :: st) (S)) : mw p l e R s m args below meth c Q cells slots D cl cA A ad sh n nL (pc) (lv) (.inl y :: .inl x :: st) (S) := fun H locs ls hP hS hl => lv_ishr C.1.1 C.1.2.1 hd (k H locs ls hP hS hl)
theorem mw_idiv (C : mw_C p m c s args cc nL own b0 tb D cl cA A ad n w) {x y : Int32} (hd : decode cc pc = .ok (.idiv, 1)) (hne : ¬ y = 0) (k : mw p l e R s m args below meth c Q cells slots D cl cA A ad sh n nL (pc + 1) (lv) (.inl (x / y) :: st) (S)) : mw p l e R s m args below meth c Q cells slots D cl cA A ad sh n nL (pc) (lv) (.inl y :: .inl x :: st) (S) := fun H locs ls hP hS hl => lv_idiv C.1.1 C.1.2.1 hd hne (k H locs ls hP hS hl)
theorem mw_irem (C : mw_C p m c s args cc nL own b0 tb D cl cA A ad n w) {x y : Int32} (hd : decode cc pc = .ok (.irem, 1)) (hne : ¬ y = 0) (k : mw p l e R s m args below meth c Q cells slots D cl cA A ad sh n nL (pc + 1) (lv) (.inl (x - x / y * y) :: st) (S)) : mw p l e R s m args below meth c Q cells slots D cl cA A ad sh n nL (pc) (lv) (.inl y :: .inl x :: st) (S) := fun H locs ls hP hS hl => lv_irem C.1.1 C.1.2.1 hd hne (k H locs ls hP hS hl)
theorem mw_ineg (C : mw_C p m c s args cc nL own b0 tb D cl cA A ad n w) {x : Int32} (hd : decode cc pc = .ok (.ineg, 1)) (k : mw p l e R s m args below meth c Q cells slots D cl cA A ad sh n nL (pc + 1) (lv) (.inl (-x) :: st) (S)) : mw p l e R s m args below meth c Q cells slots D cl cA A ad sh n nL (pc) (lv) (.inl x :: st) (S) := fun H locs ls hP hS hl => lv_ineg C.1.1 C.1.2.1 hd (k H locs ls hP hS hl)
theorem mw_iushr (C : mw_C p m c s args cc nL own b0 tb D cl cA A ad n w) {x y : Int32} (hd : decode cc pc = .ok (.iushr, 1)) (k : mw p l e R s m args below meth c Q cells slots D cl cA A ad sh n nL (pc + 1) (lv) (.inl ((x.toUInt32 >>> (y.toUInt32 &&& Int32.toUInt32 31)).toInt32) :: st) (S)) : mw p l e R s m args below meth c Q cells slots D cl cA A ad sh n nL (pc) (lv) (.inl y :: .inl x :: st) (S) := fun H locs ls hP hS hl => lv_iushr C.1.1 C.1.2.1 hd rfl (k H locs ls hP hS hl)
theorem mw_ladd (C : mw_C p m c s args cc nL own b0 tb D cl cA A ad n w) {x y : Int64} (hd : decode cc pc = .ok (.ladd, 1)) (k : mw p l e R s m args below meth c Q cells slots D cl cA A ad sh n nL (pc + 1) (lv) (.inr (.inl (x + y)) :: st) (S)) : mw p l e R s m args below meth c Q cells slots D cl cA A ad sh n nL (pc) (lv) (.inr (.inl y) :: .inr (.inl x) :: st) (S) := fun H locs ls hP hS hl => lv_ladd C.1.1 C.1.2.1 hd (k H locs ls hP hS hl)
theorem mw_lsub (C : mw_C p m c s args cc nL own b0 tb D cl cA A ad n w) {x y : Int64} (hd : decode cc pc = .ok (.lsub, 1)) (k : mw p l e R s m args below meth c Q cells slots D cl cA A ad sh n nL (pc + 1) (lv) (.inr (.inl (x - y)) :: st) (S)) : mw p l e R s m args below meth c Q cells slots D cl cA A ad sh n nL (pc) (lv) (.inr (.inl y) :: .inr (.inl x) :: st) (S) := fun H locs ls hP hS hl => lv_lsub C.1.1 C.1.2.1 hd (k H locs ls hP hS hl)
theorem mw_lmul (C : mw_C p m c s args cc nL own b0 tb D cl cA A ad n w) {x y : Int64} (hd : decode cc pc = .ok (.lmul, 1)) (k : mw p l e R s m args below meth c Q cells slots D cl cA A ad sh n nL (pc + 1) (lv) (.inr (.inl (x * y)) :: st) (S)) : mw p l e R s m args below meth c Q cells slots D cl cA A ad sh n nL (pc) (lv) (.inr (.inl y) :: .inr (.inl x) :: st) (S) := fun H locs ls hP hS hl => lv_lmul C.1.1 C.1.2.1 hd (k H locs ls hP hS hl)
theorem mw_land (C : mw_C p m c s args cc nL own b0 tb D cl cA A ad n w) {x y : Int64} (hd : decode cc pc = .ok (.land, 1)) (k : mw p l e R s m args below meth c Q cells slots D cl cA A ad sh n nL (pc + 1) (lv) (.inr (.inl (x &&& y)) :: st) (S)) : mw p l e R s m args below meth c Q cells slots D cl cA A ad sh n nL (pc) (lv) (.inr (.inl y) :: .inr (.inl x) :: st) (S) := fun H locs ls hP hS hl => lv_land C.1.1 C.1.2.1 hd (k H locs ls hP hS hl)
theorem mw_lor (C : mw_C p m c s args cc nL own b0 tb D cl cA A ad n w) {x y : Int64} (hd : decode cc pc = .ok (.lor, 1)) (k : mw p l e R s m args below meth c Q cells slots D cl cA A ad sh n nL (pc + 1) (lv) (.inr (.inl (x ||| y)) :: st) (S)) : mw p l e R s m args below meth c Q cells slots D cl cA A ad sh n nL (pc) (lv) (.inr (.inl y) :: .inr (.inl x) :: st) (S) := fun H locs ls hP hS hl => lv_lor C.1.1 C.1.2.1 hd (k H locs ls hP hS hl)
theorem mw_lxor (C : mw_C p m c s args cc nL own b0 tb D cl cA A ad n w) {x y : Int64} (hd : decode cc pc = .ok (.lxor, 1)) (k : mw p l e R s m args below meth c Q cells slots D cl cA A ad sh n nL (pc + 1) (lv) (.inr (.inl (x ^^^ y)) :: st) (S)) : mw p l e R s m args below meth c Q cells slots D cl cA A ad sh n nL (pc) (lv) (.inr (.inl y) :: .inr (.inl x) :: st) (S) := fun H locs ls hP hS hl => lv_lxor C.1.1 C.1.2.1 hd (k H locs ls hP hS hl)
theorem mw_lushr (C : mw_C p m c s args cc nL own b0 tb D cl cA A ad n w) {x : Int64} {y : Int32} (hd : decode cc pc = .ok (.lushr, 1)) (k : mw p l e R s m args below meth c Q cells slots D cl cA A ad sh n nL (pc + 1) (lv) (.inr (.inl ((x.toUInt64 >>> (y.toInt64.toUInt64 &&& Int64.toUInt64 63)).toInt64)) :: st) (S)) : mw p l e R s m args below meth c Q cells slots D cl cA A ad sh n nL (pc) (lv) (.inl y :: .inr (.inl x) :: st) (S) := fun H locs ls hP hS hl => lv_lushr C.1.1 C.1.2.1 hd rfl (k H locs ls hP hS hl)
theorem mw_lshl (C : mw_C p m c s args cc nL own b0 tb D cl cA A ad n w) {x : Int64} {y : Int32} (hd : decode cc pc = .ok (.lshl, 1)) (k : mw p l e R s m args below meth c Q cells slots D cl cA A ad sh n nL (pc + 1) (lv) (.inr (.inl (x <<< (y.toInt64 &&& 63))) :: st) (S)) : mw p l e R s m args below meth c Q cells slots D cl cA A ad sh n nL (pc) (lv) (.inl y :: .inr (.inl x) :: st) (S) := fun H locs ls hP hS hl => lv_lshl C.1.1 C.1.2.1 hd rfl (k H locs ls hP hS hl)
theorem mw_lshr (C : mw_C p m c s args cc nL own b0 tb D cl cA A ad n w) {x : Int64} {y : Int32} (hd : decode cc pc = .ok (.lshr, 1)) (k : mw p l e R s m args below meth c Q cells slots D cl cA A ad sh n nL (pc + 1) (lv) (.inr (.inl (x >>> (y.toInt64 &&& 63))) :: st) (S)) : mw p l e R s m args below meth c Q cells slots D cl cA A ad sh n nL (pc) (lv) (.inl y :: .inr (.inl x) :: st) (S) := fun H locs ls hP hS hl => lv_lshr C.1.1 C.1.2.1 hd rfl (k H locs ls hP hS hl)
theorem mw_i2l (C : mw_C p m c s args cc nL own b0 tb D cl cA A ad n w) {x : Int32} (hd : decode cc pc = .ok (.i2l, 1)) (k : mw p l e R s m args below meth c Q cells slots D cl cA A ad sh n nL (pc + 1) (lv) (.inr (.inl x.toInt64) :: st) (S)) : mw p l e R s m args below meth c Q cells slots D cl cA A ad sh n nL (pc) (lv) (.inl x :: st) (S) := fun H locs ls hP hS hl => lv_i2l C.1.1 C.1.2.1 hd rfl (k H locs ls hP hS hl)
theorem mw_l2i (C : mw_C p m c s args cc nL own b0 tb D cl cA A ad n w) {x : Int64} (hd : decode cc pc = .ok (.l2i, 1)) (k : mw p l e R s m args below meth c Q cells slots D cl cA A ad sh n nL (pc + 1) (lv) (.inl x.toInt32 :: st) (S)) : mw p l e R s m args below meth c Q cells slots D cl cA A ad sh n nL (pc) (lv) (.inr (.inl x) :: st) (S) := fun H locs ls hP hS hl => lv_l2i C.1.1 C.1.2.1 hd rfl (k H locs ls hP hS hl)
theorem mw_lcmp (C : mw_C p m c s args cc nL own b0 tb D cl cA A ad n w) {x y : Int64} (hd : decode cc pc = .ok (.lcmp, 1)) (k : mw p l e R s m args below meth c Q cells slots D cl cA A ad sh n nL (pc + 1) (lv) (.inl (lg_cmp x y) :: st) (S)) : mw p l e R s m args below meth c Q cells slots D cl cA A ad sh n nL (pc) (lv) (.inr (.inl y) :: .inr (.inl x) :: st) (S) := fun H locs ls hP hS hl => W.lcmp C.1.1 C.1.2.1 hd (k H locs ls hP hS hl)
theorem mw_dup (C : mw_C p m c s args cc nL own b0 tb D cl cA A ad n w) {u : mw_V} (hd : decode cc pc = .ok (.dup, 1)) (hu : mw_is2 u = false) (k : mw p l e R s m args below meth c Q cells slots D cl cA A ad sh n nL (pc + 1) (lv) (u :: u :: st) (S)) : mw p l e R s m args below meth c Q cells slots D cl cA A ad sh n nL (pc) (lv) (u :: st) (S) := fun H locs ls hP hS hl => lv_dup C.1.1 C.1.2.1 hd (mw_cat1 hu) (k H locs ls hP hS hl)
theorem mw_pop (C : mw_C p m c s args cc nL own b0 tb D cl cA A ad n w) {u : mw_V} (hd : decode cc pc = .ok (.pop, 1)) (hu : mw_is2 u = false) (k : mw p l e R s m args below meth c Q cells slots D cl cA A ad sh n nL (pc + 1) (lv) (st) (S)) : mw p l e R s m args below meth c Q cells slots D cl cA A ad sh n nL (pc) (lv) (u :: st) (S) := fun H locs ls hP hS hl => lv_pop C.1.1 C.1.2.1 hd (mw_cat1 hu) (k H locs ls hP hS hl)
theorem mw_dup_x1 (C : mw_C p m c s args cc nL own b0 tb D cl cA A ad n w) {u v : mw_V} (hd : decode cc pc = .ok (.dup_x1, 1)) (hu : mw_is2 u = false) (hv : mw_is2 v = false) (k : mw p l e R s m args below meth c Q cells slots D cl cA A ad sh n nL (pc + 1) (lv) (u :: v :: u :: st) (S)) : mw p l e R s m args below meth c Q cells slots D cl cA A ad sh n nL (pc) (lv) (u :: v :: st) (S) := fun H locs ls hP hS hl => lv_dup_x1 C.1.1 C.1.2.1 hd (mw_cat1 hu) (mw_cat1 hv) (k H locs ls hP hS hl)
theorem mw_dup2_11 (C : mw_C p m c s args cc nL own b0 tb D cl cA A ad n w) {u v : mw_V} (hd : decode cc pc = .ok (.dup2, 1)) (hu : mw_is2 u = false) (hv : mw_is2 v = false) (k : mw p l e R s m args below meth c Q cells slots D cl cA A ad sh n nL (pc + 1) (lv) (u :: v :: u :: v :: st) (S)) : mw p l e R s m args below meth c Q cells slots D cl cA A ad sh n nL (pc) (lv) (u :: v :: st) (S) := fun H locs ls hP hS hl => lv_dup2_11 C.1.1 C.1.2.1 hd (mw_cat1 hu) (mw_cat1 hv) (k H locs ls hP hS hl)
theorem mw_dup2_2 (C : mw_C p m c s args cc nL own b0 tb D cl cA A ad n w) {u : mw_V} (hd : decode cc pc = .ok (.dup2, 1)) (hu : mw_is2 u = true) (k : mw p l e R s m args below meth c Q cells slots D cl cA A ad sh n nL (pc + 1) (lv) (u :: u :: st) (S)) : mw p l e R s m args below meth c Q cells slots D cl cA A ad sh n nL (pc) (lv) (u :: st) (S) := fun H locs ls hP hS hl => lv_dup2_2 C.1.1 C.1.2.1 hd (mw_cat2 hu) (k H locs ls hP hS hl)
theorem mw_dup2_x1_2 (C : mw_C p m c s args cc nL own b0 tb D cl cA A ad n w) {u v : mw_V} (hd : decode cc pc = .ok (.dup2_x1, 1)) (hu : mw_is2 u = true) (hv : mw_is2 v = false) (k : mw p l e R s m args below meth c Q cells slots D cl cA A ad sh n nL (pc + 1) (lv) (u :: v :: u :: st) (S)) : mw p l e R s m args below meth c Q cells slots D cl cA A ad sh n nL (pc) (lv) (u :: v :: st) (S) := fun H locs ls hP hS hl => lv_dup2_x1_2 C.1.1 C.1.2.1 hd (mw_cat2 hu) (mw_cat1 hv) (k H locs ls hP hS hl)
theorem mw_if_eq (C : mw_C p m c s args cc nL own b0 tb D cl cA A ad n w) {x : Int32} {off : Int} (tgt : Nat) (hd : decode cc pc = .ok (.ifCond .eq off, 3)) (ht : (pc : Int) + off = (tgt : Int)) (kt : x = 0 → mw p l e R s m args below meth c Q cells slots D cl cA A ad sh n nL (tgt) (lv) (st) (S)) (kf : ¬ x = 0 → mw p l e R s m args below meth c Q cells slots D cl cA A ad sh n nL (pc + 3) (lv) (st) (S)) : mw p l e R s m args below meth c Q cells slots D cl cA A ad sh n nL (pc) (lv) (.inl x :: st) (S) := fun H locs ls hP hS hl => lv_if_eq C.1.1 C.1.2.1 hd ht (fun h => kt h H locs ls hP hS hl) (fun h => kf h H locs ls hP hS hl)
theorem mw_icmp_eq (C : mw_C p m c s args cc nL own b0 tb D cl cA A ad n w) {x y : Int32} {off : Int} (tgt : Nat) (hd : decode cc pc = .ok (.if_icmp .eq off, 3)) (ht : (pc : Int) + off = (tgt : Int)) (kt : x = y → mw p l e R s m args below meth c Q cells slots D cl cA A ad sh n nL (tgt) (lv) (st) (S)) (kf : ¬ x = y → mw p l e R s m args below meth c Q cells slots D cl cA A ad sh n nL (pc + 3) (lv) (st) (S)) : mw p l e R s m args below meth c Q cells slots D cl cA A ad sh n nL (pc) (lv) (.inl y :: .inl x :: st) (S) := fun H locs ls hP hS hl => lv_icmp_eq C.1.1 C.1.2.1 hd ht (fun h => kt h H locs ls hP hS hl) (fun h => kf h H locs ls hP hS hl)
theorem mw_if_ne (C : mw_C p m c s args cc nL own b0 tb D cl cA A ad n w) {x : Int32} {off : Int} (tgt : Nat) (hd : decode cc pc = .ok (.ifCond .ne off, 3)) (ht : (pc : Int) + off = (tgt : Int)) (kt : ¬ x = 0 → mw p l e R s m args below meth c Q cells slots D cl cA A ad sh n nL (tgt) (lv) (st) (S)) (kf : x = 0 → mw p l e R s m args below meth c Q cells slots D cl cA A ad sh n nL (pc + 3) (lv) (st) (S)) : mw p l e R s m args below meth c Q cells slots D cl cA A ad sh n nL (pc) (lv) (.inl x :: st) (S) := fun H locs ls hP hS hl => lv_if_ne C.1.1 C.1.2.1 hd ht (fun h => kt h H locs ls hP hS hl) (fun h => kf h H locs ls hP hS hl)
theorem mw_icmp_ne (C : mw_C p m c s args cc nL own b0 tb D cl cA A ad n w) {x y : Int32} {off : Int} (tgt : Nat) (hd : decode cc pc = .ok (.if_icmp .ne off, 3)) (ht : (pc : Int) + off = (tgt : Int)) (kt : ¬ x = y → mw p l e R s m args below meth c Q cells slots D cl cA A ad sh n nL (tgt) (lv) (st) (S)) (kf : x = y → mw p l e R s m args below meth c Q cells slots D cl cA A ad sh n nL (pc + 3) (lv) (st) (S)) : mw p l e R s m args below meth c Q cells slots D cl cA A ad sh n nL (pc) (lv) (.inl y :: .inl x :: st) (S) := fun H locs ls hP hS hl => lv_icmp_ne C.1.1 C.1.2.1 hd ht (fun h => kt h H locs ls hP hS hl) (fun h => kf h H locs ls hP hS hl)
theorem mw_if_lt (C : mw_C p m c s args cc nL own b0 tb D cl cA A ad n w) {x : Int32} {off : Int} (tgt : Nat) (hd : decode cc pc = .ok (.ifCond .lt off, 3)) (ht : (pc : Int) + off = (tgt : Int)) (kt : x < 0 → mw p l e R s m args below meth c Q cells slots D cl cA A ad sh n nL (tgt) (lv) (st) (S)) (kf : ¬ x < 0 → mw p l e R s m args below meth c Q cells slots D cl cA A ad sh n nL (pc + 3) (lv) (st) (S)) : mw p l e R s m args below meth c Q cells slots D cl cA A ad sh n nL (pc) (lv) (.inl x :: st) (S) := fun H locs ls hP hS hl => lv_if_lt C.1.1 C.1.2.1 hd ht (fun h => kt h H locs ls hP hS hl) (fun h => kf h H locs ls hP hS hl)
theorem mw_icmp_lt (C : mw_C p m c s args cc nL own b0 tb D cl cA A ad n w) {x y : Int32} {off : Int} (tgt : Nat) (hd : decode cc pc = .ok (.if_icmp .lt off, 3)) (ht : (pc : Int) + off = (tgt : Int)) (kt : x < y → mw p l e R s m args below meth c Q cells slots D cl cA A ad sh n nL (tgt) (lv) (st) (S)) (kf : ¬ x < y → mw p l e R s m args below meth c Q cells slots D cl cA A ad sh n nL (pc + 3) (lv) (st) (S)) : mw p l e R s m args below meth c Q cells slots D cl cA A ad sh n nL (pc) (lv) (.inl y :: .inl x :: st) (S) := fun H locs ls hP hS hl => lv_icmp_lt C.1.1 C.1.2.1 hd ht (fun h => kt h H locs ls hP hS hl) (fun h => kf h H locs ls hP hS hl)
theorem mw_if_ge (C : mw_C p m c s args cc nL own b0 tb D cl cA A ad n w) {x : Int32} {off : Int} (tgt : Nat) (hd : decode cc pc = .ok (.ifCond .ge off, 3)) (ht : (pc : Int) + off = (tgt : Int)) (kt : 0 ≤ x → mw p l e R s m args below meth c Q cells slots D cl cA A ad sh n nL (tgt) (lv) (st) (S)) (kf : ¬ 0 ≤ x → mw p l e R s m args below meth c Q cells slots D cl cA A ad sh n nL (pc + 3) (lv) (st) (S)) : mw p l e R s m args below meth c Q cells slots D cl cA A ad sh n nL (pc) (lv) (.inl x :: st) (S) := fun H locs ls hP hS hl => lv_if_ge C.1.1 C.1.2.1 hd ht (fun h => kt h H locs ls hP hS hl) (fun h => kf h H locs ls hP hS hl)
theorem mw_icmp_ge (C : mw_C p m c s args cc nL own b0 tb D cl cA A ad n w) {x y : Int32} {off : Int} (tgt : Nat) (hd : decode cc pc = .ok (.if_icmp .ge off, 3)) (ht : (pc : Int) + off = (tgt : Int)) (kt : y ≤ x → mw p l e R s m args below meth c Q cells slots D cl cA A ad sh n nL (tgt) (lv) (st) (S)) (kf : ¬ y ≤ x → mw p l e R s m args below meth c Q cells slots D cl cA A ad sh n nL (pc + 3) (lv) (st) (S)) : mw p l e R s m args below meth c Q cells slots D cl cA A ad sh n nL (pc) (lv) (.inl y :: .inl x :: st) (S) := fun H locs ls hP hS hl => lv_icmp_ge C.1.1 C.1.2.1 hd ht (fun h => kt h H locs ls hP hS hl) (fun h => kf h H locs ls hP hS hl)
theorem mw_if_gt (C : mw_C p m c s args cc nL own b0 tb D cl cA A ad n w) {x : Int32} {off : Int} (tgt : Nat) (hd : decode cc pc = .ok (.ifCond .gt off, 3)) (ht : (pc : Int) + off = (tgt : Int)) (kt : 0 < x → mw p l e R s m args below meth c Q cells slots D cl cA A ad sh n nL (tgt) (lv) (st) (S)) (kf : ¬ 0 < x → mw p l e R s m args below meth c Q cells slots D cl cA A ad sh n nL (pc + 3) (lv) (st) (S)) : mw p l e R s m args below meth c Q cells slots D cl cA A ad sh n nL (pc) (lv) (.inl x :: st) (S) := fun H locs ls hP hS hl => lv_if_gt C.1.1 C.1.2.1 hd ht (fun h => kt h H locs ls hP hS hl) (fun h => kf h H locs ls hP hS hl)
theorem mw_icmp_gt (C : mw_C p m c s args cc nL own b0 tb D cl cA A ad n w) {x y : Int32} {off : Int} (tgt : Nat) (hd : decode cc pc = .ok (.if_icmp .gt off, 3)) (ht : (pc : Int) + off = (tgt : Int)) (kt : y < x → mw p l e R s m args below meth c Q cells slots D cl cA A ad sh n nL (tgt) (lv) (st) (S)) (kf : ¬ y < x → mw p l e R s m args below meth c Q cells slots D cl cA A ad sh n nL (pc + 3) (lv) (st) (S)) : mw p l e R s m args below meth c Q cells slots D cl cA A ad sh n nL (pc) (lv) (.inl y :: .inl x :: st) (S) := fun H locs ls hP hS hl => lv_icmp_gt C.1.1 C.1.2.1 hd ht (fun h => kt h H locs ls hP hS hl) (fun h => kf h H locs ls hP hS hl)
theorem mw_if_le (C : mw_C p m c s args cc nL own b0 tb D cl cA A ad n w) {x : Int32} {off : Int} (tgt : Nat) (hd : decode cc pc = .ok (.ifCond .le off, 3)) (ht : (pc : Int) + off = (tgt : Int)) (kt : x ≤ 0 → mw p l e R s m args below meth c Q cells slots D cl cA A ad sh n nL (tgt) (lv) (st) (S)) (kf : ¬ x ≤ 0 → mw p l e R s m args below meth c Q cells slots D cl cA A ad sh n nL (pc + 3) (lv) (st) (S)) : mw p l e R s m args below meth c Q cells slots D cl cA A ad sh n nL (pc) (lv) (.inl x :: st) (S) := fun H locs ls hP hS hl => lv_if_le C.1.1 C.1.2.1 hd ht (fun h => kt h H locs ls hP hS hl) (fun h => kf h H locs ls hP hS hl)
theorem mw_icmp_le (C : mw_C p m c s args cc nL own b0 tb D cl cA A ad n w) {x y : Int32} {off : Int} (tgt : Nat) (hd : decode cc pc = .ok (.if_icmp .le off, 3)) (ht : (pc : Int) + off = (tgt : Int)) (kt : x ≤ y → mw p l e R s m args below meth c Q cells slots D cl cA A ad sh n nL (tgt) (lv) (st) (S)) (kf : ¬ x ≤ y → mw p l e R s m args below meth c Q cells slots D cl cA A ad sh n nL (pc + 3) (lv) (st) (S)) : mw p l e R s m args below meth c Q cells slots D cl cA A ad sh n nL (pc) (lv) (.inl y :: .inl x :: st) (S) := fun H locs ls hP hS hl => lv_icmp_le C.1.1 C.1.2.1 hd ht (fun h => kt h H locs ls hP hS hl) (fun h => kf h H locs ls hP hS hl)
theorem mw_goto (C : mw_C p m c s args cc nL own b0 tb D cl cA A ad n w) {off : Int} (tgt : Nat) (hd : decode cc pc = .ok (.goto off, 3)) (ht : (pc : Int) + off = (tgt : Int)) (k : mw p l e R s m args below meth c Q cells slots D cl cA A ad sh n nL (tgt) (lv) (st) (S)) : mw p l e R s m args below meth c Q cells slots D cl cA A ad sh n nL (pc) (lv) (st) (S) := fun H locs ls hP hS hl => lv_goto C.1.1 C.1.2.1 hd ht (k H locs ls hP hS hl)
theorem mw_tableOut (C : mw_C p m c s args cc nL own b0 tb D cl cA A ad n w) {dflt lo hi : Int} {offs : Array Int} {len : Nat} {x : Int32} (tgt : Nat) (hd : decode cc pc = .ok (.tableswitch dflt lo hi offs, len)) (h : x.toInt < lo ∨ hi < x.toInt) (ht : (pc : Int) + dflt = (tgt : Int)) (k : mw p l e R s m args below meth c Q cells slots D cl cA A ad sh n nL (tgt) (lv) (st) (S)) : mw p l e R s m args below meth c Q cells slots D cl cA A ad sh n nL (pc) (lv) (.inl x :: st) (S) := fun H locs ls hP hS hl => lv_tableOut C.1.1 C.1.2.1 hd h ht (k H locs ls hP hS hl)
theorem mw_tableIn (C : mw_C p m c s args cc nL own b0 tb D cl cA A ad n w) {dflt lo hi : Int} {offs : Array Int} {len : Nat} {x : Int32} {off : Int} (tgt : Nat) (hd : decode cc pc = .ok (.tableswitch dflt lo hi offs, len)) (h1 : ¬ x.toInt < lo) (h2 : ¬ hi < x.toInt) (ho : offs[(x.toInt - lo).toNat]? = some off) (ht : (pc : Int) + off = (tgt : Int)) (k : mw p l e R s m args below meth c Q cells slots D cl cA A ad sh n nL (tgt) (lv) (st) (S)) : mw p l e R s m args below meth c Q cells slots D cl cA A ad sh n nL (pc) (lv) (.inl x :: st) (S) := fun H locs ls hP hS hl => lv_tableIn C.1.1 C.1.2.1 hd h1 h2 ho ht (k H locs ls hP hS hl)
theorem mw_lookup (C : mw_C p m c s args cc nL own b0 tb D cl cA A ad n w) {dflt : Int} {ps : Array (Int × Int)} {len : Nat} {x : Int32} {off : Int} (tgt : Nat) (hd : decode cc pc = .ok (.lookupswitch dflt ps, len)) (hp : (ps.toList.zip (ps.toList.drop 1)).all (fun (a, next) => a.1 < next.1) = true) (ho : Op.lookupswitch.offset ps.toList dflt x.toInt = off) (ht : (pc : Int) + off = (tgt : Int)) (k : mw p l e R s m args below meth c Q cells slots D cl cA A ad sh n nL (tgt) (lv) (st) (S)) : mw p l e R s m args below meth c Q cells slots D cl cA A ad sh n nL (pc) (lv) (.inl x :: st) (S) := fun H locs ls hP hS hl => lv_lookup C.1.1 C.1.2.1 hd hp ho ht (k H locs ls hP hS hl)
theorem mw_fv_at {fk : List (Nat ⊕ Nat)} {k j : Nat} {x : Nat ⊕ Nat} (h : fk[j]? = some x) : (mw_fv ad S k fk)[j]? = some (mw_f1 ad S k j x) := by
  unfold mw_fv
  rw [List.getElem?_map, List.getElem?_zipIdx, h]
  simp
theorem mw_fv_len {fk : List (Nat ⊕ Nat)} {k : Nat} : (mw_fv ad S k fk).length = fk.length := by simp [mw_fv]
/-- a field that a class's constant pool names: class ci of 'cl', its field j; by a link of its own or a nest mate's -/
def mw_F (own : String) (tb : List Cond) (cl : List vw_C) (index ci j : Nat) : Prop := ∃ (C : String) (T : u_T) (N : Nat), cl[ci]? = some (C, T, N) ∧ j < N ∧ (∀ w ∈ u_ws C T N, w ∈ mw_G tb) ∧ (T j).1 = C ∧ (Cond.fieldLink own index C (T j).2.1 (T j).2.2.1 ∈ mw_G tb ∨ ∃ host, Cond.fieldLinkNest own index C (T j).2.1 (T j).2.2.1 host ∈ mw_N tb)
theorem mw_getv (C : mw_C p m c s args cc nL own b0 tb D cl cA A ad n w) {index ci j kk : Nat} {fk : List (Nat ⊕ Nat)} {x : Nat ⊕ Nat} {u : mw_V} (hF : mw_F own tb cl index ci j) (hd : decode cc pc = .ok (.getfield index, 3)) (hk : kk < n) (hs : sh kk = .inr (ci, fk)) (hx : fk[j]? = some x) (hu : mw_f1 ad S kk j x = mw_tv ad u) (k : mw p l e R s m args below meth c Q cells slots D cl cA A ad sh n nL (pc + 3) (lv) (u :: st) (S)) : mw p l e R s m args below meth c Q cells slots D cl cA A ad sh n nL (pc) (lv) (.inr (.inr kk) :: st) (S) := fun H locs ls hP hS hl => by
  obtain ⟨Cn, T, N, h1, h2, h3, h4, h5⟩ := hF
  have he : (mw_W cA ad sh n S)[kk]? = some (ad kk, .inr (ci, mw_fv ad S kk fk)) := by rw [mw_W_get hk, hs]; rfl
  have hv : (mw_fv ad S kk fk)[j]? = some (mw_tv ad u) := by rw [mw_fv_at hx, hu]
  rcases h5 with h5 | ⟨host, h5⟩
  · exact va_get (ref := Cn) C.1.1 C.1.2.1 C.1.2.2.2.2 (fun z hz => List.mem_cons_of_mem _ (h3 z hz)) C.1.2.2.2.1 C.2.2.1 hP kk he h1 j h2 (C.1.2.2.2.2 _ (List.mem_cons_of_mem _ h5)) (fun y hy => by rw [h4] at hy; exact hy) hv hd (k H locs ls hP hS hl)
  · exact va_getN (ref := Cn) C.1.1 C.1.2.1 C.1.2.2.2.2 (fun z hz => List.mem_cons_of_mem _ (h3 z hz)) C.1.2.2.2.1 C.2.2.1 hP kk he h1 j h2 (va_Nw.use rfl (C.2.1 _ h5)) (fun y hy => by rw [h4] at hy; exact hy) hv hd (k H locs ls hP hS hl)
theorem mw_geti (C : mw_C p m c s args cc nL own b0 tb D cl cA A ad n w) {index ci j kk : Nat} {fk : List (Nat ⊕ Nat)} (hF : mw_F own tb cl index ci j) (hd : decode cc pc = .ok (.getfield index, 3)) (hk : kk < n) (hs : sh kk = .inr (ci, fk)) (hx : fk[j]? = some (.inl 0)) (k : mw p l e R s m args below meth c Q cells slots D cl cA A ad sh n nL (pc + 3) (lv) (.inl (S.1 kk j) :: st) (S)) : mw p l e R s m args below meth c Q cells slots D cl cA A ad sh n nL (pc) (lv) (.inr (.inr kk) :: st) (S) := mw_getv C hF hd hk hs hx rfl k
theorem mw_getl (C : mw_C p m c s args cc nL own b0 tb D cl cA A ad n w) {index ci j kk : Nat} {fk : List (Nat ⊕ Nat)} (hF : mw_F own tb cl index ci j) (hd : decode cc pc = .ok (.getfield index, 3)) (hk : kk < n) (hs : sh kk = .inr (ci, fk)) (hx : fk[j]? = some (.inl 1)) (k : mw p l e R s m args below meth c Q cells slots D cl cA A ad sh n nL (pc + 3) (lv) (.inr (.inl (S.2 kk j)) :: st) (S)) : mw p l e R s m args below meth c Q cells slots D cl cA A ad sh n nL (pc) (lv) (.inr (.inr kk) :: st) (S) := mw_getv C hF hd hk hs hx rfl k
theorem mw_getr (C : mw_C p m c s args cc nL own b0 tb D cl cA A ad n w) {index ci j kk r : Nat} {fk : List (Nat ⊕ Nat)} (hF : mw_F own tb cl index ci j) (hd : decode cc pc = .ok (.getfield index, 3)) (hk : kk < n) (hs : sh kk = .inr (ci, fk)) (hx : fk[j]? = some (.inr r)) (k : mw p l e R s m args below meth c Q cells slots D cl cA A ad sh n nL (pc + 3) (lv) (.inr (.inr r) :: st) (S)) : mw p l e R s m args below meth c Q cells slots D cl cA A ad sh n nL (pc) (lv) (.inr (.inr kk) :: st) (S) := mw_getv C hF hd hk hs hx rfl k
/-- a field that may be written, of the type ty -/
def mw_P (cl : List vw_C) (ci j : Nat) (ty : FieldType) : Prop := ∃ (C : String) (T : u_T) (N : Nat) (ty0 : Nat → FieldType), cl[ci]? = some (C, T, N) ∧ (∀ k, k < N → parseFieldDescriptor (T k).2.2.1 = some (ty0 k)) ∧ (∀ a, a < N → ∀ b, b < N → a ≠ b → (T a).2.1 ≠ (T b).2.1) ∧ (T j).2.2.2 = false ∧ parseFieldDescriptor (T j).2.2.1 = some ty
theorem mw_putv (C : mw_C p m c s args cc nL own b0 tb D cl cA A ad n w) (hw0 : w = true) {index ci j kk : Nat} {fk : List (Nat ⊕ Nat)} {S' : mw_S} {u : mw_V} {ty : FieldType} (hF : mw_F own tb cl index ci j) (hW : mw_P cl ci j ty) (hd : decode cc pc = .ok (.putfield index, 3)) (hk : kk < n) (hs : sh kk = .inr (ci, fk)) (hj : j < fk.length) (h1 : ∀ i, i ≠ kk → S'.1 i = S.1 i) (h2 : ∀ i, i ≠ kk → S'.2 i = S.2 i) (hS' : mw_fv ad S' kk fk = (mw_fv ad S kk fk).set j (mw_tv ad u)) (hn : narrow ty (mw_tv ad u) = mw_tv ad u) (hfit : fits ty (mw_tv ad u) = true) (k : mw p l e R s m args below meth c Q cells slots D cl cA A ad sh n nL (pc + 3) (lv) (st) (S')) : mw p l e R s m args below meth c Q cells slots D cl cA A ad sh n nL (pc) (lv) (u :: .inr (.inr kk) :: st) (S) := fun H locs ls hP hS hl => by
  obtain ⟨Cn, T, N, g1, g2, g3, g4, g5⟩ := hF
  obtain ⟨Cn', T', N', ty0, w1, w2, w3, w4, w5⟩ := hW
  have e9 : (Cn, T, N) = (Cn', T', N') := Option.some.inj (g1.symm.trans w1)
  have e91 := congrArg Prod.fst e9
  have e92 := congrArg (fun z => z.2.1) e9
  have e93 := congrArg (fun z => z.2.2) e9
  dsimp only at e91 e92 e93
  subst e91; subst e92; subst e93
  have he : (mw_W cA ad sh n S)[kk]? = some (ad kk, .inr (ci, mw_fv ad S kk fk)) := by rw [mw_W_get hk, hs]; rfl
  have hset : (mw_W cA ad sh n S).set kk (ad kk, .inr (ci, (mw_fv ad S kk fk).set j (mw_tv ad u))) = mw_W cA ad sh n S' := mw_W_set hk h1 h2 (by rw [hs]; show Sum.inr (ci, mw_fv ad S' kk fk) = _; rw [hS'])
  rcases g5 with g5 | ⟨host, g5⟩
  · refine va_put (ref := Cn) C.1.1 C.1.2.1 C.1.2.2.2.2 (fun z hz => List.mem_cons_of_mem _ (g3 z hz)) ty0 w2 w3 C.1.2.2.2.1 C.2.2.1 hP (mw_D C.2.2.2.2.1 (C.2.2.2.2.2 hw0)) hS kk he g1 j g2 (C.1.2.2.2.2 _ (List.mem_cons_of_mem _ g5)) (fun y hy => by rw [g4] at hy; exact hy) w4 w5 hn hfit (by rw [mw_fv_len]; exact hj) hd (fun H1 locs1 hP1 _ hS1 => ?_)
    rw [hset] at hP1
    exact k H1 locs1 ls hP1 hS1 hl
  · refine va_putN (ref := Cn) C.1.1 C.1.2.1 C.1.2.2.2.2 (fun z hz => List.mem_cons_of_mem _ (g3 z hz)) ty0 w2 w3 C.1.2.2.2.1 C.2.2.1 hP (mw_D C.2.2.2.2.1 (C.2.2.2.2.2 hw0)) hS kk he g1 j g2 (va_Nw.use rfl (C.2.1 _ g5)) (fun y hy => by rw [g4] at hy; exact hy) w4 w5 hn hfit (by rw [mw_fv_len]; exact hj) hd (fun H1 locs1 hP1 _ hS1 => ?_)
    rw [hset] at hP1
    exact k H1 locs1 ls hP1 hS1 hl
theorem mw_fv_uI {fk : List (Nat ⊕ Nat)} {k j : Nat} (x : Int32) (h : fk[j]? = some (.inl 0)) : mw_fv ad (mw_uI S k j x) k fk = (mw_fv ad S k fk).set j (.int x) := by
  apply List.ext_getElem?
  intro i
  have hj : j < fk.length := (List.getElem?_eq_some_iff.mp h).1
  by_cases e : i = j
  · subst e
    rw [List.getElem?_set_self (by rw [mw_fv_len]; exact hj), mw_fv_at h]
    simp [mw_f1, mw_uI, mw_rI, upd]
  · rw [List.getElem?_set_ne (Ne.symm e)]
    cases hx : fk[i]? with
    | none =>
      have hl : fk.length ≤ i := List.getElem?_eq_none_iff.mp hx
      rw [List.getElem?_eq_none (by rw [mw_fv_len]; exact hl), List.getElem?_eq_none (by rw [mw_fv_len]; exact hl)]
    | some z =>
      rw [mw_fv_at hx, mw_fv_at hx]
      match z with
      | .inl 0 => simp [mw_f1, mw_uI, mw_rI, upd, e]
      | .inl 1 => rfl
      | .inl (_ + 2) => rfl
      | .inr _ => rfl
theorem mw_fv_uL {fk : List (Nat ⊕ Nat)} {k j : Nat} (x : Int64) (h : fk[j]? = some (.inl 1)) : mw_fv ad (mw_uL S k j x) k fk = (mw_fv ad S k fk).set j (.long x) := by
  apply List.ext_getElem?
  intro i
  have hj : j < fk.length := (List.getElem?_eq_some_iff.mp h).1
  by_cases e : i = j
  · subst e
    rw [List.getElem?_set_self (by rw [mw_fv_len]; exact hj), mw_fv_at h]
    simp [mw_f1, mw_uL, mw_rL, vp_updL]
  · rw [List.getElem?_set_ne (Ne.symm e)]
    cases hx : fk[i]? with
    | none =>
      have hl : fk.length ≤ i := List.getElem?_eq_none_iff.mp hx
      rw [List.getElem?_eq_none (by rw [mw_fv_len]; exact hl), List.getElem?_eq_none (by rw [mw_fv_len]; exact hl)]
    | some z =>
      rw [mw_fv_at hx, mw_fv_at hx]
      match z with
      | .inl 0 => rfl
      | .inl 1 => simp [mw_f1, mw_uL, mw_rL, vp_updL, e]
      | .inl (_ + 2) => rfl
      | .inr _ => rfl
theorem mw_puti (C : mw_C p m c s args cc nL own b0 tb D cl cA A ad n w) (hw0 : w = true) {index ci j kk : Nat} {fk : List (Nat ⊕ Nat)} {x : Int32} (hF : mw_F own tb cl index ci j) (hW : mw_P cl ci j .int) (hd : decode cc pc = .ok (.putfield index, 3)) (hk : kk < n) (hs : sh kk = .inr (ci, fk)) (hx : fk[j]? = some (.inl 0)) (k : mw p l e R s m args below meth c Q cells slots D cl cA A ad sh n nL (pc + 3) (lv) (st) (mw_uI S kk j x)) : mw p l e R s m args below meth c Q cells slots D cl cA A ad sh n nL (pc) (lv) (.inl x :: .inr (.inr kk) :: st) (S) :=
  mw_putv C hw0 (u := .inl x) hF hW hd hk hs (List.getElem?_eq_some_iff.mp hx).1 (fun i hi => mw_rI_n S _ hi) (fun _ _ => rfl) (mw_fv_uI x hx) rfl rfl k
theorem mw_putz (C : mw_C p m c s args cc nL own b0 tb D cl cA A ad n w) (hw0 : w = true) {index ci j kk : Nat} {fk : List (Nat ⊕ Nat)} {x : Int32} (hF : mw_F own tb cl index ci j) (hW : mw_P cl ci j .boolean) (hd : decode cc pc = .ok (.putfield index, 3)) (hk : kk < n) (hs : sh kk = .inr (ci, fk)) (hx : fk[j]? = some (.inl 0)) (hb : narrow .boolean (.int x) = .int x) (hfit : fits .boolean (.int x) = true) (k : mw p l e R s m args below meth c Q cells slots D cl cA A ad sh n nL (pc + 3) (lv) (st) (mw_uI S kk j x)) : mw p l e R s m args below meth c Q cells slots D cl cA A ad sh n nL (pc) (lv) (.inl x :: .inr (.inr kk) :: st) (S) :=
  mw_putv C hw0 (u := .inl x) hF hW hd hk hs (List.getElem?_eq_some_iff.mp hx).1 (fun i hi => mw_rI_n S _ hi) (fun _ _ => rfl) (mw_fv_uI x hx) hb hfit k
theorem mw_putl (C : mw_C p m c s args cc nL own b0 tb D cl cA A ad n w) (hw0 : w = true) {index ci j kk : Nat} {fk : List (Nat ⊕ Nat)} {x : Int64} (hF : mw_F own tb cl index ci j) (hW : mw_P cl ci j .long) (hd : decode cc pc = .ok (.putfield index, 3)) (hk : kk < n) (hs : sh kk = .inr (ci, fk)) (hx : fk[j]? = some (.inl 1)) (k : mw p l e R s m args below meth c Q cells slots D cl cA A ad sh n nL (pc + 3) (lv) (st) (mw_uL S kk j x)) : mw p l e R s m args below meth c Q cells slots D cl cA A ad sh n nL (pc) (lv) (.inr (.inl x) :: .inr (.inr kk) :: st) (S) :=
  mw_putv C hw0 (u := .inr (.inl x)) (S' := mw_uL S kk j x) hF hW hd hk hs (List.getElem?_eq_some_iff.mp hx).1 (fun _ _ => rfl) (fun i hi => mw_rL_n S _ hi) (mw_fv_uL x hx) rfl rfl k
theorem mw_iald (C : mw_C p m c s args cc nL own b0 tb D cl cA A ad n w) {kk N : Nat} {i : Int32} (hd : decode cc pc = .ok (.iaload, 1)) (hk : kk < n) (hs : sh kk = .inl (0, N, .inl 0)) (hin : vp_in i N) (k : mw p l e R s m args below meth c Q cells slots D cl cA A ad sh n nL (pc + 1) (lv) (.inl (S.1 kk i.toNatClampNeg) :: st) (S)) : mw p l e R s m args below meth c Q cells slots D cl cA A ad sh n nL (pc) (lv) (.inl i :: .inr (.inr kk) :: st) (S) := fun H locs ls hP hS hl =>
  va_iald C.1.1 C.1.2.1 C.2.2.1 hP kk 0 (by rw [mw_W_get hk, hs]; rfl) rfl hin hd (k H locs ls hP hS hl)
theorem mw_zald (C : mw_C p m c s args cc nL own b0 tb D cl cA A ad n w) {kk N : Nat} {i : Int32} (hd : decode cc pc = .ok (.baload, 1)) (hk : kk < n) (hs : sh kk = .inl (2, N, .inl 0)) (hin : vp_in i N) (k : mw p l e R s m args below meth c Q cells slots D cl cA A ad sh n nL (pc + 1) (lv) (.inl (S.1 kk i.toNatClampNeg) :: st) (S)) : mw p l e R s m args below meth c Q cells slots D cl cA A ad sh n nL (pc) (lv) (.inl i :: .inr (.inr kk) :: st) (S) := fun H locs ls hP hS hl =>
  va_zald C.1.1 C.1.2.1 C.2.2.1 hP kk 2 (by rw [mw_W_get hk, hs]; rfl) rfl hin hd (k H locs ls hP hS hl)
theorem mw_lald (C : mw_C p m c s args cc nL own b0 tb D cl cA A ad n w) {kk N : Nat} {i : Int32} (hd : decode cc pc = .ok (.laload, 1)) (hk : kk < n) (hs : sh kk = .inl (1, N, .inl 1)) (hin : vp_in i N) (k : mw p l e R s m args below meth c Q cells slots D cl cA A ad sh n nL (pc + 1) (lv) (.inr (.inl (S.2 kk i.toNatClampNeg)) :: st) (S)) : mw p l e R s m args below meth c Q cells slots D cl cA A ad sh n nL (pc) (lv) (.inl i :: .inr (.inr kk) :: st) (S) := fun H locs ls hP hS hl =>
  va_lald C.1.1 C.1.2.1 C.2.2.1 hP kk 1 (by rw [mw_W_get hk, hs]; rfl) rfl hin hd (k H locs ls hP hS hl)
theorem mw_aald (C : mw_C p m c s args cc nL own b0 tb D cl cA A ad n w) {kk N : Nat} {ps : List Nat} {i : Int32} (hd : decode cc pc = .ok (.aaload, 1)) (hk : kk < n) (hs : sh kk = .inl (3, N, .inr ps)) (hin : vp_in i N) {r : Nat} (hr : ps.getD i.toNatClampNeg 0 = r) (k : mw p l e R s m args below meth c Q cells slots D cl cA A ad sh n nL (pc + 1) (lv) (.inr (.inr r) :: st) (S)) (hlen : N ≤ ps.length := by decide) : mw p l e R s m args below meth c Q cells slots D cl cA A ad sh n nL (pc) (lv) (.inl i :: .inr (.inr kk) :: st) (S) := fun H locs ls hP hS hl =>
  va_aldq C.1.1 C.1.2.1 C.2.2.1 hP kk 3 (by rw [mw_W_get hk, hs]; rfl) rfl hin hd (by
    have h1 := k H locs ls hP hS hl
    have h2 : i.toNatClampNeg < ps.length := Nat.lt_of_lt_of_le (Nat.not_le.mp fun q => hin (Or.inr q)) hlen
    have h3 : ps[i.toNatClampNeg]? = some r := by
      rw [← hr, List.getD_eq_getElem?_getD, List.getElem?_eq_getElem h2]
      rfl
    show W _ _ _ _ _ _ _ _ _ _ _ _ _ _ _ (F0 m (pc + 1) ls (va_rf ((ps[i.toNatClampNeg]?).map ad) :: _))
    rw [h3]
    exact h1)
theorem mw_alen (C : mw_C p m c s args cc nL own b0 tb D cl cA A ad n w) {kk t N : Nat} {z : Nat ⊕ List Nat} {ty : FieldType} {v : Int32} (hd : decode cc pc = .ok (.arraylength, 1)) (hk : kk < n) (hs : sh kk = .inl (t, N, z)) (ht : (mw_T cA)[t]? = some (cA t, ty)) (hv : Int32.ofNat N = v) (k : mw p l e R s m args below meth c Q cells slots D cl cA A ad sh n nL (pc + 1) (lv) (.inl v :: st) (S)) : mw p l e R s m args below meth c Q cells slots D cl cA A ad sh n nL (pc) (lv) (.inr (.inr kk) :: st) (S) := fun H locs ls hP hS hl => by
  match z with
  | .inl 0 => exact va_alen C.1.1 C.1.2.1 C.2.2.1 hP kk t (by rw [mw_W_get hk, hs]; rfl) ht hv hd (k H locs ls hP hS hl)
  | .inl (_ + 1) => exact va_alen C.1.1 C.1.2.1 C.2.2.1 hP kk t (by rw [mw_W_get hk, hs]; rfl) ht hv hd (k H locs ls hP hS hl)
  | .inr f => exact va_alen C.1.1 C.1.2.1 C.2.2.1 hP kk t (by rw [mw_W_get hk, hs]; rfl) ht hv hd (k H locs ls hP hS hl)
theorem mw_iast (C : mw_C p m c s args cc nL own b0 tb D cl cA A ad n w) (hw0 : w = true) {kk N : Nat} {i x : Int32} (hd : decode cc pc = .ok (.iastore, 1)) (hk : kk < n) (hs : sh kk = .inl (0, N, .inl 0)) (hin : vp_in i N) (k : mw p l e R s m args below meth c Q cells slots D cl cA A ad sh n nL (pc + 1) (lv) (st) (mw_uI S kk i.toNatClampNeg x)) : mw p l e R s m args below meth c Q cells slots D cl cA A ad sh n nL (pc) (lv) (.inl x :: .inl i :: .inr (.inr kk) :: st) (S) := fun H locs ls hP hS hl => by
  refine va_iast C.1.1 C.1.2.1 C.2.2.1 hP (mw_D C.2.2.2.2.1 (C.2.2.2.2.2 hw0)) hS kk 0 (by rw [mw_W_get hk, hs]; rfl) rfl hin hd (fun H1 locs1 hP1 _ hS1 => ?_)
  rw [mw_W_set (S := S) (S' := mw_uI S kk i.toNatClampNeg x) hk (fun j hj => mw_rI_n S _ hj) (fun _ _ => rfl) (by rw [hs]; show Sum.inl (cA 0, N, Sum.inl ((mw_uI S kk i.toNatClampNeg x).1 kk)) = _; rw [mw_uI, mw_rI_s])] at hP1
  exact k H1 locs1 ls hP1 hS1 hl
theorem mw_zast (C : mw_C p m c s args cc nL own b0 tb D cl cA A ad n w) (hw0 : w = true) {kk N : Nat} {i x : Int32} (hd : decode cc pc = .ok (.bastore, 1)) (hk : kk < n) (hs : sh kk = .inl (2, N, .inl 0)) (hin : vp_in i N) (hb : vp_nar .boolean x = x) (k : mw p l e R s m args below meth c Q cells slots D cl cA A ad sh n nL (pc + 1) (lv) (st) (mw_uI S kk i.toNatClampNeg x)) : mw p l e R s m args below meth c Q cells slots D cl cA A ad sh n nL (pc) (lv) (.inl x :: .inl i :: .inr (.inr kk) :: st) (S) := fun H locs ls hP hS hl => by
  refine va_zast C.1.1 C.1.2.1 C.2.2.1 hP (mw_D C.2.2.2.2.1 (C.2.2.2.2.2 hw0)) hS kk 2 (by rw [mw_W_get hk, hs]; rfl) rfl hin hd (fun H1 locs1 hP1 _ hS1 => ?_)
  rw [hb, mw_W_set (S := S) (S' := mw_uI S kk i.toNatClampNeg x) hk (fun j hj => mw_rI_n S _ hj) (fun _ _ => rfl) (by rw [hs]; show Sum.inl (cA 2, N, Sum.inl ((mw_uI S kk i.toNatClampNeg x).1 kk)) = _; rw [mw_uI, mw_rI_s])] at hP1
  exact k H1 locs1 ls hP1 hS1 hl
theorem mw_last (C : mw_C p m c s args cc nL own b0 tb D cl cA A ad n w) (hw0 : w = true) {kk N : Nat} {i : Int32} {x : Int64} (hd : decode cc pc = .ok (.lastore, 1)) (hk : kk < n) (hs : sh kk = .inl (1, N, .inl 1)) (hin : vp_in i N) (k : mw p l e R s m args below meth c Q cells slots D cl cA A ad sh n nL (pc + 1) (lv) (st) (mw_uL S kk i.toNatClampNeg x)) : mw p l e R s m args below meth c Q cells slots D cl cA A ad sh n nL (pc) (lv) (.inr (.inl x) :: .inl i :: .inr (.inr kk) :: st) (S) := fun H locs ls hP hS hl => by
  refine va_last C.1.1 C.1.2.1 C.2.2.1 hP (mw_D C.2.2.2.2.1 (C.2.2.2.2.2 hw0)) hS kk 1 (by rw [mw_W_get hk, hs]; rfl) rfl hin hd (fun H1 locs1 hP1 _ hS1 => ?_)
  rw [mw_W_set (S := S) (S' := mw_uL S kk i.toNatClampNeg x) hk (fun _ _ => rfl) (fun j hj => mw_rL_n S _ hj) (by rw [hs]; show Sum.inl (cA 1, N, Sum.inr (Sum.inl ((mw_uL S kk i.toNatClampNeg x).2 kk))) = _; rw [mw_uL, mw_rL_s])] at hP1
  exact k H1 locs1 ls hP1 hS1 hl
/-- System.arraycopy within one row of ints -/
theorem mw_copy (C : mw_C p m c s args cc nL own b0 tb D cl cA A ad n w) (hw0 : w = true) {index kk N : Nat} {sp dp z : Int32} (hw : Cond.methodLink own index arraycopyName ∈ mw_G tb) (hw2 : Cond.native arraycopyName ∈ mw_G tb) (hw3 : Cond.static arraycopyName ∈ mw_G tb) (hw4 : Cond.initialized "java/lang/System" ∈ mw_G tb) (hd : decode cc pc = .ok (.invokestatic index, 3)) (hk : kk < n) (hs : sh kk = .inl (0, N, .inl 0)) (h1 : ¬ sp < 0) (h2 : ¬ dp < 0) (h3 : ¬ z < 0) (h4 : sp.toNatClampNeg + z.toNatClampNeg ≤ N) (h5 : dp.toNatClampNeg + z.toNatClampNeg ≤ N) (hframes : 1 ≤ R.frames) (hlocals : ((st.map (mw_tv ad)).map fun v => v.category).sum + (nativeFrameWords "java/lang/System" "arraycopy" 5 + 11) ≤ R.locals) (k : mw p l e R s m args below meth c Q cells slots D cl cA A ad sh n nL (pc + 3) (lv) (st) (mw_rI S kk (va_cpy (S.1 kk) (S.1 kk) sp.toNatClampNeg dp.toNatClampNeg z.toNatClampNeg))) : mw p l e R s m args below meth c Q cells slots D cl cA A ad sh n nL (pc) (lv) (.inl z :: .inl dp :: .inr (.inr kk) :: .inl sp :: .inr (.inr kk) :: st) (S) := fun H locs ls hP hS hl => by
  refine va_copyi C.1.1 C.1.2.1 (C.1.2.2.1.trans hl.1.symm) C.1.2.2.2.1 (C.1.2.2.2.2 _ (List.mem_cons_of_mem _ hw)) (C.1.2.2.2.2 _ (List.mem_cons_of_mem _ hw2)) (C.1.2.2.2.2 _ (List.mem_cons_of_mem _ hw3)) (C.1.2.2.2.2 _ (List.mem_cons_of_mem _ hw4)) C.2.2.1 hP (mw_D C.2.2.2.2.1 (C.2.2.2.2.2 hw0)) hS kk kk 0 0 (f := S.1 kk) (g := S.1 kk) (ty := .int) (by rw [mw_W_get hk, hs]; rfl) (by rw [mw_W_get hk, hs]; rfl) rfl rfl rfl h1 h2 h3 h4 h5 (fun _ _ => rfl) hframes hlocals hd (fun H1 locs1 hP1 _ hS1 => ?_)
  rw [mw_W_set (S := S) (S' := mw_rI S kk (va_cpy (S.1 kk) (S.1 kk) sp.toNatClampNeg dp.toNatClampNeg z.toNatClampNeg)) hk (fun j hj => mw_rI_n S _ hj) (fun _ _ => rfl) (by rw [hs]; show Sum.inl (cA 0, N, Sum.inl ((mw_rI S kk _).1 kk)) = _; rw [mw_rI_s])] at hP1
  exact k H1 locs1 ls hP1 hS1 hl
end MWR
