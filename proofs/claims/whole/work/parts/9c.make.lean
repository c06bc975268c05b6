/-! MAKING CELLS: the world grows -/
def mw_z (S : mw_S) (n : Nat) : mw_S := (fun i => if i = n then (fun _ => 0) else S.1 i, fun i => if i = n then (fun _ => 0) else S.2 i)
def mw_shU (sh : Nat → mw_H) (k : Nat) (h : mw_H) : Nat → mw_H := fun i => if i = k then h else sh i
/-- not among the places lo .. hi - 1 -/
def mw_ok0 (lo hi k : Nat) : Bool := Nat.blt k lo || Nat.ble hi k
def mw_ok1 (P : Nat → Bool) : mw_V → Bool
  | .inr (.inr k) => P k
  | _ => true
def mw_okv (P : Nat → Bool) : List mw_V → Bool
  | [] => true
  | v :: l => mw_ok1 P v && mw_okv P l
def mw_okl (P : Nat → Bool) : List (Nat × mw_V) → Bool
  | [] => true
  | v :: l => mw_ok1 P v.2 && mw_okl P l
def mw_okf (P : Nat → Bool) : List (Nat ⊕ Nat) → Bool
  | [] => true
  | .inr r :: l => P r && mw_okf P l
  | .inl _ :: l => mw_okf P l
def mw_okH (P : Nat → Bool) : mw_H → Bool
  | .inl (_, _, .inr f) => f.all P
  | .inl (_, _, .inl _) => true
  | .inr (_, fk) => mw_okf P fk
def mw_oks (P : Nat → Bool) (sh : Nat → mw_H) (n : Nat) : Bool := (List.range n).all (fun k => mw_okH P (sh k))
theorem mw_ok0_of {lo hi k : Nat} (h : mw_ok0 lo hi k = true) : k < lo ∨ hi ≤ k := by
  unfold mw_ok0 at h
  rcases (Bool.or_eq_true _ _).mp h with h | h
  · exact Or.inl (Nat.lt_of_lt_of_le (Nat.lt_succ_self k) (Nat.le_of_ble_eq_true h))
  · exact Or.inr (Nat.le_of_ble_eq_true h)
section MKA
variable {P : Nat → Bool} {n n' : Nat} {ad ad' : Nat → Nat} {S S' : mw_S} {cA : Nat → ClassId} {sh sh' : Nat → mw_H} {A : Nat → Prop}
theorem mw_tv_ad (ha : ∀ k, P k = true → ad' k = ad k) {v : mw_V} (h : mw_ok1 P v = true) : mw_tv ad' v = mw_tv ad v := by
  match v, h with
  | .inl _, _ => rfl
  | .inr (.inl _), _ => rfl
  | .inr (.inr k), h => show Value.ref (ad' k) = Value.ref (ad k); rw [ha k h]
theorem mw_tvs_ad (ha : ∀ k, P k = true → ad' k = ad k) : ∀ {l : List mw_V}, mw_okv P l = true → l.map (mw_tv ad') = l.map (mw_tv ad)
  | [], _ => rfl
  | v :: l, h => by
    have h2 := (Bool.and_eq_true _ _).mp h
    rw [List.map_cons, List.map_cons, mw_tv_ad ha h2.1, mw_tvs_ad ha h2.2]
theorem mw_lm_ad (ha : ∀ k, P k = true → ad' k = ad k) : ∀ {l : List (Nat × mw_V)}, mw_okl P l = true → mw_lm ad' l = mw_lm ad l
  | [], _ => rfl
  | v :: l, h => by
    have h2 := (Bool.and_eq_true _ _).mp h
    have e1 := mw_lm_ad ha h2.2
    show (v.1, mw_tv ad' v.2) :: mw_lm ad' l = (v.1, mw_tv ad v.2) :: mw_lm ad l
    rw [mw_tv_ad ha h2.1, e1]
theorem mw_okf_at : ∀ {fk : List (Nat ⊕ Nat)} {r : Nat}, mw_okf P fk = true → .inr r ∈ fk → P r = true
  | [], _, _, h => by cases h
  | .inr q :: l, r, h, hm => by
    have h2 := (Bool.and_eq_true _ _).mp h
    rcases List.mem_cons.mp hm with e | hm
    · cases e; exact h2.1
    · exact mw_okf_at h2.2 hm
  | .inl q :: l, r, h, hm => by
    rcases List.mem_cons.mp hm with e | hm
    · cases e
    · exact mw_okf_at (fk := l) h hm
theorem mw_fv_ad (ha : ∀ k, P k = true → ad' k = ad k) {k : Nat} (h1 : S'.1 k = S.1 k) (h2 : S'.2 k = S.2 k) {fk : List (Nat ⊕ Nat)} (h : mw_okf P fk = true) : mw_fv ad' S' k fk = mw_fv ad S k fk := by
  apply List.ext_getElem?
  intro j
  cases hx : fk[j]? with
  | none =>
    have hl : fk.length ≤ j := List.getElem?_eq_none_iff.mp hx
    rw [List.getElem?_eq_none (by rw [mw_fv_len]; exact hl), List.getElem?_eq_none (by rw [mw_fv_len]; exact hl)]
  | some z =>
    rw [mw_fv_at hx, mw_fv_at hx]
    match z, hx with
    | .inl 0, _ => simp only [mw_f1, h1]
    | .inl 1, _ => simp only [mw_f1, h2]
    | .inl (_ + 2), _ => rfl
    | .inr r, hx =>
      show some (Value.ref (ad' r)) = some (Value.ref (ad r))
      rw [ha r (mw_okf_at h (List.mem_of_getElem? hx))]
theorem mw_e_ad (ha : ∀ k, P k = true → ad' k = ad k) {k : Nat} (h1 : S'.1 k = S.1 k) (h2 : S'.2 k = S.2 k) {h : mw_H} (ho : mw_okH P h = true) : mw_e cA ad' S' k h = mw_e cA ad S k h := by
  match h, ho with
  | .inl (t, n, .inl 0), _ => simp only [mw_e, h1]
  | .inl (t, n, .inl (_ + 1)), _ => simp only [mw_e, h2]
  | .inl (t, n, .inr f), ho =>
    have e : (fun j : Nat => (f[j]?).map ad') = (fun j : Nat => (f[j]?).map ad) := by
      funext j
      cases hj : f[j]? with
      | none => rfl
      | some r =>
        show some (ad' r) = some (ad r)
        rw [ha r (List.all_eq_true.mp ho r (List.mem_of_getElem? hj))]
    simp only [mw_e, e]
  | .inr (ci, fk), ho => simp only [mw_e, mw_fv_ad ha h1 h2 (fk := fk) ho]
theorem mw_oks_at (h : mw_oks P sh n = true) {k : Nat} (hk : k < n) : mw_okH P (sh k) = true := List.all_eq_true.mp h k (List.mem_range.mpr hk)
theorem mw_ok0_lt {lo hi k : Nat} (h : k < lo) : mw_ok0 lo hi k = true := by
  unfold mw_ok0
  rw [Bool.or_eq_true]
  exact Or.inl (Nat.ble_eq_true_of_le h)
theorem mw_ok0_ge {lo hi k : Nat} (h : hi ≤ k) : mw_ok0 lo hi k = true := by
  unfold mw_ok0
  rw [Bool.or_eq_true]
  exact Or.inr (Nat.ble_eq_true_of_le h)
theorem mw_W_push {q : Nat} {x : va_E} (ha : ∀ k, mw_ok0 n (n + 1) k = true → ad' k = ad k) (hq : ad' n = q) (hs : ∀ k, k < n → sh' k = sh k) (h1 : ∀ k, k < n → S'.1 k = S.1 k) (h2 : ∀ k, k < n → S'.2 k = S.2 k) (ho : mw_oks (mw_ok0 n (n + 1)) sh n = true) (hx : mw_e cA ad' S' n (sh' n) = x) : mw_W cA ad' sh' (n + 1) S' = mw_W cA ad sh n S ++ [(q, x)] := by
  unfold mw_W
  rw [List.range_succ, List.map_append]
  congr 1
  · refine List.map_congr_left (fun k hk => ?_)
    have hk' := List.mem_range.mp hk
    rw [ha k (mw_ok0_lt hk'), hs k hk', mw_e_ad ha (h1 k hk') (h2 k hk') (mw_oks_at ho hk')]
  · show [(ad' n, mw_e cA ad' S' n (sh' n))] = _
    rw [hq, hx]
def mw_adn (ad : Nat → Nat) (n q : Nat) : Nat → Nat := fun k => if k = n then q else ad k
theorem mw_adn_o {q : Nat} (k : Nat) (h : mw_ok0 n (n + 1) k = true) : mw_adn ad n q k = ad k := by
  have h2 := mw_ok0_of h
  unfold mw_adn
  rw [if_neg (by omega)]
theorem mw_adn_n {q : Nat} : mw_adn ad n q n = q := if_pos rfl
theorem mw_z_o {k : Nat} (h : k < n) : (mw_z S n).1 k = S.1 k ∧ (mw_z S n).2 k = S.2 k := by
  unfold mw_z
  exact ⟨if_neg (by omega), if_neg (by omega)⟩
theorem mw_z_n : (mw_z S n).1 n = (fun _ => 0) ∧ (mw_z S n).2 n = (fun _ => 0) := ⟨if_pos rfl, if_pos rfl⟩
theorem mw_shU_o {k i : Nat} {h : mw_H} (hi : i ≠ k) : mw_shU sh k h i = sh i := if_neg hi
theorem mw_shU_s {k : Nat} {h : mw_H} : mw_shU sh k h k = h := if_pos rfl
theorem mw_DW (h : va_D A (mw_W cA ad sh n S)) : (∀ i j, i < n → j < n → ad i = ad j → i = j) ∧ ∀ k, k < n → A (ad k) :=
  ⟨fun i j hi hj e => h.1 i j _ _ (mw_W_get hi) (mw_W_get hj) e, fun k hk => h.2 k _ (mw_W_get hk)⟩
end MKA
/-- what a field of this type holds at first -/
def mw_dv : FieldType → Option (Nat ⊕ Nat)
  | .int => some (.inl 0)
  | .boolean => some (.inl 0)
  | .long => some (.inl 1)
  | .object _ => some (.inl 2)
  | .array _ => some (.inl 2)
  | _ => none
theorem mw_dv_ok {ad : Nat → Nat} {S : mw_S} {n j : Nat} {t : FieldType} {x : Nat ⊕ Nat} (h1 : S.1 n = fun _ => 0) (h2 : S.2 n = fun _ => 0) (h : mw_dv t = some x) : defaultValue t = mw_f1 ad S n j x := by
  cases t <;> first | (cases h; done) | (cases h; first | rfl | (simp only [mw_f1, h1]; rfl) | (simp only [mw_f1, h2]; rfl))
section MKR
variable {p : Program} {l : Launch} {e : Env} {R : Room} {s : State} {m : MethodId} {args : Array Value} {below : List Frame} {meth : Method} {c : Code} {Q : State → Prop} {cells slots : Nat}
variable {cc : ByteArray} {nL : Nat} {own : String} {b0 : Cond} {tb : List Cond} {D : va_G} {cl : List vw_C} {cA : Nat → ClassId} {A : Nat → Prop} {ad : Nat → Nat} {sh : Nat → mw_H} {n : Nat}
variable {pc : Nat} {lv : List (Nat × mw_V)} {st : List mw_V} {S : mw_S}
/-- the same world, its shapes said otherwise -/
theorem mw_shEq {sh' : Nat → mw_H} (h : (List.range n).all (fun k => decide (sh k = sh' k)) = true) (k : mw p l e R s m args below meth c Q cells slots D cl cA A ad (sh') n nL (pc) (lv) (st) (S)) : mw p l e R s m args below meth c Q cells slots D cl cA A ad sh n nL (pc) (lv) (st) (S) := fun H locs ls hP hS hl => k H locs ls (by
  have e : mw_W cA ad sh n S = mw_W cA ad sh' n S := by
    unfold mw_W
    refine List.map_congr_left (fun k hk => ?_)
    have h1 := List.all_eq_true.mp h k hk
    rw [of_decide_eq_true h1]
  rw [← e]; exact hP) hS hl
theorem mw_widen {k1 n1 : Nat} (h1 : cells ≤ k1) (h2 : slots ≤ n1) (k : mw p l e R s m args below meth c Q (k1) (n1) D cl cA A ad sh n nL (pc) (lv) (st) (S)) : mw p l e R s m args below meth c Q cells slots D cl cA A ad sh n nL (pc) (lv) (st) (S) := fun H locs ls hP hS hl => W.widen h1 h2 (k H locs ls hP hS hl)
/-- a cell was pushed: go on in the world with it -/
theorem mw_pushed (C : mw_C p m c s args cc nL own b0 tb D cl cA A ad n true) {h : mw_H} {q : Nat} {x : va_E} {H : Heap} {locs : List Loc} {ls : Array Slot} {pc1 : Nat} (hx : mw_e cA (mw_adn ad n q) (mw_z S n) n h = x) (hsh : mw_oks (mw_ok0 n (n + 1)) sh n = true) (hlv : mw_okl (mw_ok0 n (n + 1)) lv = true) (hst : mw_okv (mw_ok0 n (n + 1)) st = true)
    (k : ∀ ad', (∀ i, mw_ok0 n (n + 1) i = true → ad' i = ad i) → mw_C p m c s args cc nL own b0 tb D cl cA A ad' (n + 1) true → mw p l e R s m args below meth c Q cells slots D cl cA A (ad') (mw_shU sh n h) (n + 1) nL (pc1) (lv) (.inr (.inr n) :: st) (mw_z S n))
    (hP : va_P D cl (mw_W cA ad sh n S ++ [(q, x)]) H) (hD : va_D A (mw_W cA ad sh n S ++ [(q, x)])) (hS : va_S A s.heap H locs) (hl : lv_has ls nL (mw_lm ad lv)) : W p l e R s m args below meth c H locs cells slots Q (F0 m pc1 ls (.ref q :: st.map (mw_tv ad))) := by
  have eW : mw_W cA (mw_adn ad n q) (mw_shU sh n h) (n + 1) (mw_z S n) = mw_W cA ad sh n S ++ [(q, x)] := mw_W_push mw_adn_o mw_adn_n (fun k hk => mw_shU_o (Nat.ne_of_lt hk)) (fun k hk => (mw_z_o hk).1) (fun k hk => (mw_z_o hk).2) hsh (by rw [mw_shU_s]; exact hx)
  rw [← eW] at hP hD
  have hD2 := mw_DW hD
  have h9 := k (mw_adn ad n q) mw_adn_o ⟨C.1, C.2.1, C.2.2.1, C.2.2.2.1, hD2.1, fun _ => hD2.2⟩ H locs ls hP hS (by rw [mw_lm_ad mw_adn_o hlv]; exact hl)
  have e9 : (.inr (.inr n) :: st : List mw_V).map (mw_tv (mw_adn ad n q)) = .ref q :: st.map (mw_tv ad) := by
    rw [List.map_cons, mw_tvs_ad mw_adn_o hst]
    show Value.ref (mw_adn ad n q n) :: _ = _
    rw [mw_adn_n]
  rw [e9] at h9
  exact h9
theorem mw_new (C : mw_C p m c s args cc nL own b0 tb D cl cA A ad n true) {index ci : Nat} {Cn : String} {T : u_T} {N : Nat} (fk : List (Nat ⊕ Nat)) {ty : Nat → FieldType} (hc : cl[ci]? = some (Cn, T, N)) (hty : ∀ k, k < N → parseFieldDescriptor (T k).2.2.1 = some (ty k)) (hu : ∀ w ∈ u_ws Cn T N, w ∈ mw_G tb) (hcl : Cond.classLink own index Cn ∈ mw_G tb) (hin : Cond.instantiable Cn N ∈ mw_G tb) (hini : Cond.initialized Cn ∈ mw_G tb) (hfk : ((List.range N).all fun j => decide (mw_dv (ty j) = fk[j]?) && (fk[j]?).isSome) = true) (hfo : mw_okf (mw_ok0 n (n + 1)) fk = true) (hd : decode cc pc = .ok (.new index, 3)) (hsh : mw_oks (mw_ok0 n (n + 1)) sh n = true) (hlv : mw_okl (mw_ok0 n (n + 1)) lv = true) (hst : mw_okv (mw_ok0 n (n + 1)) st = true) (hRc : cells + 1 ≤ R.cells) (hRs : slots + N ≤ R.slots)
    (k : ∀ ad', (∀ i, mw_ok0 n (n + 1) i = true → ad' i = ad i) → mw_C p m c s args cc nL own b0 tb D cl cA A ad' (n + 1) true → mw p l e R s m args below meth c Q (cells + 1) (slots + N) D cl cA A (ad') (mw_shU sh n (.inr (ci, fk))) (n + 1) nL (pc + 3) (lv) (.inr (.inr n) :: st) (mw_z S n)) : mw p l e R s m args below meth c Q cells slots D cl cA A ad sh n nL (pc) (lv) (st) (S) := fun H locs ls hP hS hl => by
  have hmem : ∀ w, w ∈ mw_G tb → w.before args s = true := fun w h => C.1.2.2.2.2 w (List.mem_cons_of_mem _ h)
  refine va_new (ci := ci) (C := Cn) (T := T) (N := N) (fs := mw_fv ad (mw_z S n) n fk) C.1.1 C.1.2.1 C.1.2.2.2.2 (fun w hw => List.mem_cons_of_mem _ (hu w hw)) ty hty C.1.2.2.2.1 (hmem _ hcl) (hmem _ hin) (hmem _ hini) C.2.2.1 hP (mw_D C.2.2.2.2.1 (C.2.2.2.2.2 rfl)) hS C.2.2.2.1 hc ?_ hRc hRs hd (fun q H1 hP1 hD1 hS1 => ?_)
  · intro j hj
    have h1 := List.all_eq_true.mp hfk j (List.mem_range.mpr hj)
    have h2 := (Bool.and_eq_true _ _).mp h1
    obtain ⟨x, hx⟩ := Option.isSome_iff_exists.mp h2.2
    have h3 : mw_dv (ty j) = some x := (of_decide_eq_true h2.1).trans hx
    rw [mw_dv_ok (ad := ad) (S := mw_z S n) (n := n) (j := j) mw_z_n.1 mw_z_n.2 h3]
    unfold vp_V
    rw [List.getD_eq_getElem?_getD, mw_fv_at hx]
    rfl
  · exact mw_pushed C (h := .inr (ci, fk)) (x := .inr (ci, mw_fv ad (mw_z S n) n fk)) (by show Sum.inr (ci, mw_fv (mw_adn ad n q) (mw_z S n) n fk) = _; rw [mw_fv_ad (P := mw_ok0 n (n + 1)) (S := mw_z S n) mw_adn_o rfl rfl hfo]) hsh hlv hst k hP1 hD1 hS1 hl
theorem mw_newaI (C : mw_C p m c s args cc nL own b0 tb D cl cA A ad n true) {atype : ArrayType} {N : Nat} (t : Nat) {ty : FieldType} (hty : newarray.typeOf atype = ty) (hT : (mw_T cA)[t]? = some (cA t, ty)) (hRA : ∀ (U : State) (x : ClassId), va_RA U x ty → U.vm.findClass ("[" ++ ty.toString) = some x) (hdf : defaultValue ty = .int 0) (harr : Cond.arrayClass ty ∈ mw_G tb) (hN : N < 2 ^ 31) (hby : N * componentBytes ty ≤ 536870912) (hd : decode cc pc = .ok (.newarray atype, 2)) (hsh : mw_oks (mw_ok0 n (n + 1)) sh n = true) (hlv : mw_okl (mw_ok0 n (n + 1)) lv = true) (hst : mw_okv (mw_ok0 n (n + 1)) st = true) (hRc : cells + 1 ≤ R.cells) (hRs : slots + N ≤ R.slots)
    (k : ∀ ad', (∀ i, mw_ok0 n (n + 1) i = true → ad' i = ad i) → mw_C p m c s args cc nL own b0 tb D cl cA A ad' (n + 1) true → mw p l e R s m args below meth c Q (cells + 1) (slots + N) D cl cA A (ad') (mw_shU sh n (.inl (t, N, .inl 0))) (n + 1) nL (pc + 2) (lv) (.inr (.inr n) :: st) (mw_z S n)) : mw p l e R s m args below meth c Q cells slots D cl cA A ad sh n nL (pc) (lv) (.inl (nI N) :: st) (S) := fun H locs ls hP hS hl => by
  have hmem : ∀ w, w ∈ mw_G tb → w.before args s = true := fun w h => C.1.2.2.2.2 w (List.mem_cons_of_mem _ h)
  subst hty
  refine va_newa (a0 := (N, .inl (fun _ => 0))) C.1.1 C.1.2.1 (hmem _ harr) rfl C.2.2.1 hP (mw_D C.2.2.2.2.1 (C.2.2.2.2.2 rfl)) hS C.2.2.2.1 (fun x => by rw [hdf]; rfl) (nI_pos hN) (nI_clamp hN) hby hRc hRs hd (fun q cA1 H1 hK1 hP1 hD1 hS1 => ?_)
  have hc1 := hRA s cA1 (hK1.2 (mw_T cA).length _ (by rw [List.getElem?_append_right (Nat.le_refl _), Nat.sub_self]; rfl)).2
  have hc2 := hRA s (cA t) (C.2.2.1.2 t _ hT).2
  have ec : cA1 = cA t := Option.some.inj (hc1.symm.trans hc2)
  subst ec
  exact mw_pushed C (h := .inl (t, N, .inl 0)) (by show Sum.inl (cA t, N, Sum.inl ((mw_z S n).1 n)) = _; rw [mw_z_n.1]) hsh hlv hst k hP1 hD1 hS1 hl
theorem mw_newaL (C : mw_C p m c s args cc nL own b0 tb D cl cA A ad n true) {N : Nat} (harr : Cond.arrayClass .long ∈ mw_G tb) (hN : N < 2 ^ 31) (hby : N * componentBytes .long ≤ 536870912) (hd : decode cc pc = .ok (.newarray .long, 2)) (hsh : mw_oks (mw_ok0 n (n + 1)) sh n = true) (hlv : mw_okl (mw_ok0 n (n + 1)) lv = true) (hst : mw_okv (mw_ok0 n (n + 1)) st = true) (hRc : cells + 1 ≤ R.cells) (hRs : slots + N ≤ R.slots)
    (k : ∀ ad', (∀ i, mw_ok0 n (n + 1) i = true → ad' i = ad i) → mw_C p m c s args cc nL own b0 tb D cl cA A ad' (n + 1) true → mw p l e R s m args below meth c Q (cells + 1) (slots + N) D cl cA A (ad') (mw_shU sh n (.inl (1, N, .inl 1))) (n + 1) nL (pc + 2) (lv) (.inr (.inr n) :: st) (mw_z S n)) : mw p l e R s m args below meth c Q cells slots D cl cA A ad sh n nL (pc) (lv) (.inl (nI N) :: st) (S) := fun H locs ls hP hS hl => by
  have hmem : ∀ w, w ∈ mw_G tb → w.before args s = true := fun w h => C.1.2.2.2.2 w (List.mem_cons_of_mem _ h)
  refine va_newa (atype := .long) (ty := .long) (a0 := (N, .inr (.inl (fun _ => 0)))) C.1.1 C.1.2.1 (hmem _ harr) rfl C.2.2.1 hP (mw_D C.2.2.2.2.1 (C.2.2.2.2.2 rfl)) hS C.2.2.2.1 (fun x => rfl) (nI_pos hN) (nI_clamp hN) hby hRc hRs hd (fun q cA1 H1 hK1 hP1 hD1 hS1 => ?_)
  have hc1 : s.vm.findClass ("[" ++ FieldType.long.toString) = some cA1 := (hK1.2 (mw_T cA).length (cA1, .long) (by rw [List.getElem?_append_right (Nat.le_refl _), Nat.sub_self]; rfl)).2
  have hc2 : s.vm.findClass ("[" ++ FieldType.long.toString) = some (cA 1) := (C.2.2.1.2 1 _ rfl).2
  have ec : cA1 = cA 1 := Option.some.inj (hc1.symm.trans hc2)
  subst ec
  exact mw_pushed C (h := .inl (1, N, .inl 1)) (by show Sum.inl (cA 1, N, Sum.inr (Sum.inl ((mw_z S n).2 n))) = _; rw [mw_z_n.2]) hsh hlv hst k hP1 hD1 hS1 hl
theorem mw_newaR (C : mw_C p m c s args cc nL own b0 tb D cl cA A ad n true) {index N : Nat} (hcl : Cond.classLink own index "WaveLedger$Node" ∈ mw_G tb) (hao : va_AO "WaveLedger$Node" s) (hN : N < 2 ^ 31) (hby : N * 4 ≤ 536870912) (hd : decode cc pc = .ok (.anewarray index, 3)) (hsh : mw_oks (mw_ok0 n (n + 1)) sh n = true) (hlv : mw_okl (mw_ok0 n (n + 1)) lv = true) (hst : mw_okv (mw_ok0 n (n + 1)) st = true) (hRc : cells + 1 ≤ R.cells) (hRs : slots + N ≤ R.slots)
    (k : ∀ ad', (∀ i, mw_ok0 n (n + 1) i = true → ad' i = ad i) → mw_C p m c s args cc nL own b0 tb D cl cA A ad' (n + 1) true → mw p l e R s m args below meth c Q (cells + 1) (slots + N) D cl cA A (ad') (mw_shU sh n (.inl (3, N, .inr []))) (n + 1) nL (pc + 3) (lv) (.inr (.inr n) :: st) (mw_z S n)) : mw p l e R s m args below meth c Q cells slots D cl cA A ad sh n nL (pc) (lv) (.inl (nI N) :: st) (S) := fun H locs ls hP hS hl => by
  have hmem : ∀ w, w ∈ mw_G tb → w.before args s = true := fun w h => C.1.2.2.2.2 w (List.mem_cons_of_mem _ h)
  refine va_newq C.1.1 C.1.2.1 C.1.2.2.2.1 (hmem _ hcl) hao C.2.2.1 hP (mw_D C.2.2.2.2.1 (C.2.2.2.2.2 rfl)) hS C.2.2.2.1 (nI_pos hN) (nI_clamp hN) hby hRc hRs hd (fun q cA1 H1 hK1 hP1 hD1 hS1 => ?_)
  obtain ⟨_, _, -, -, -, hc1⟩ := (hK1.2 (mw_T cA).length _ (by rw [List.getElem?_append_right (Nat.le_refl _), Nat.sub_self]; rfl)).2
  obtain ⟨_, _, -, -, -, hc2⟩ := (C.2.2.1.2 3 (cA 3, .object "WaveLedger$Node") rfl).2
  have ec : cA1 = cA 3 := Option.some.inj (hc1.symm.trans hc2)
  subst ec
  exact mw_pushed C (h := .inl (3, N, .inr [])) rfl hsh hlv hst k hP1 hD1 hS1 hl
/-- a field of the class itself, by its own link; a final one is written in <init> alone -/
def mw_FO (own : String) (tb : List Cond) (cl : List vw_C) (index ci j : Nat) (ty : FieldType) : Prop := ∃ (T : u_T) (N : Nat) (ty0 : Nat → FieldType), cl[ci]? = some (own, T, N) ∧ j < N ∧ (∀ w ∈ u_ws own T N, w ∈ mw_G tb) ∧ (T j).1 = own ∧ Cond.fieldLink own index own (T j).2.1 (T j).2.2.1 ∈ mw_G tb ∧ (∀ k, k < N → parseFieldDescriptor (T k).2.2.1 = some (ty0 k)) ∧ (∀ a, a < N → ∀ b, b < N → a ≠ b → (T a).2.1 ≠ (T b).2.1) ∧ parseFieldDescriptor (T j).2.2.1 = some ty
theorem mw_W_set2 {sh' : Nat → mw_H} {S' : mw_S} {k : Nat} (hk : k < n) (hs : ∀ i, i ≠ k → sh' i = sh i) (h1 : ∀ i, i ≠ k → S'.1 i = S.1 i) (h2 : ∀ i, i ≠ k → S'.2 i = S.2 i) {x : va_E} (hx : mw_e cA ad S' k (sh' k) = x) : (mw_W cA ad sh n S).set k (ad k, x) = mw_W cA ad sh' n S' := by
  subst hx
  apply List.ext_getElem?
  intro i
  by_cases hi : i < n
  · by_cases e : i = k
    · subst e
      rw [List.getElem?_set_self (by rw [mw_W_len]; exact hi), mw_W_get hi]
    · rw [List.getElem?_set_ne (Ne.symm e), mw_W_get hi, mw_W_get hi, hs i e, mw_e_congr (h1 i e) (h2 i e)]
  · rw [List.getElem?_eq_none (by rw [List.length_set, mw_W_len]; omega), List.getElem?_eq_none (by rw [mw_W_len]; omega)]
theorem mw_putG (C : mw_C p m c s args cc nL own b0 tb D cl cA A ad n true) {sh' : Nat → mw_H} {index ci j kk : Nat} {fk fk' : List (Nat ⊕ Nat)} {S' : mw_S} {u : mw_V} {ty : FieldType} (hF : mw_FO own tb cl index ci j ty) (hnm : meth.name = "<init>") (hd : decode cc pc = .ok (.putfield index, 3)) (hk : kk < n) (hs : sh kk = .inr (ci, fk)) (hs' : sh' kk = .inr (ci, fk')) (hsn : ∀ i, i ≠ kk → sh' i = sh i) (hj : j < fk.length) (h1 : ∀ i, i ≠ kk → S'.1 i = S.1 i) (h2 : ∀ i, i ≠ kk → S'.2 i = S.2 i) (hS' : mw_fv ad S' kk fk' = (mw_fv ad S kk fk).set j (mw_tv ad u)) (hn : narrow ty (mw_tv ad u) = mw_tv ad u) (hfit : fits ty (mw_tv ad u) = true) (k : mw p l e R s m args below meth c Q cells slots D cl cA A ad (sh') n nL (pc + 3) (lv) (st) (S')) : mw p l e R s m args below meth c Q cells slots D cl cA A ad sh n nL (pc) (lv) (u :: .inr (.inr kk) :: st) (S) := fun H locs ls hP hS hl => by
  obtain ⟨T, N, ty0, g1, g2, g3, g4, g5, w2, w3, w5⟩ := hF
  have he : (mw_W cA ad sh n S)[kk]? = some (ad kk, .inr (ci, mw_fv ad S kk fk)) := by rw [mw_W_get hk, hs]; rfl
  have hset : (mw_W cA ad sh n S).set kk (ad kk, .inr (ci, (mw_fv ad S kk fk).set j (mw_tv ad u))) = mw_W cA ad sh' n S' := mw_W_set2 hk hsn h1 h2 (by rw [hs']; show Sum.inr (ci, mw_fv ad S' kk fk') = _; rw [hS'])
  cases hfin : (T j).2.2.2 with
  | false =>
    refine va_put (ref := own) C.1.1 C.1.2.1 C.1.2.2.2.2 (fun z hz => List.mem_cons_of_mem _ (g3 z hz)) ty0 w2 w3 C.1.2.2.2.1 C.2.2.1 hP (mw_D C.2.2.2.2.1 (C.2.2.2.2.2 rfl)) hS kk he g1 j g2 (C.1.2.2.2.2 _ (List.mem_cons_of_mem _ g5)) (fun y hy => by rw [g4] at hy; exact hy) hfin w5 hn hfit (by rw [mw_fv_len]; exact hj) hd (fun H1 locs1 hP1 _ hS1 => ?_)
    rw [hset] at hP1
    exact k H1 locs1 ls hP1 hS1 hl
  | true =>
    refine va_putF (ref := own) C.1.1 C.1.2.1 C.1.2.2.2.2 (fun z hz => List.mem_cons_of_mem _ (g3 z hz)) ty0 w2 w3 C.1.2.2.2.1 C.2.2.1 hP (mw_D C.2.2.2.2.1 (C.2.2.2.2.2 rfl)) hS kk he g1 j g2 (C.1.2.2.2.2 _ (List.mem_cons_of_mem _ g5)) (fun y hy => by rw [g4] at hy; exact hy) hfin hnm g4 w5 hn hfit (by rw [mw_fv_len]; exact hj) hd (fun H1 locs1 hP1 _ hS1 => ?_)
    rw [hset] at hP1
    exact k H1 locs1 ls hP1 hS1 hl
theorem mw_putIi (C : mw_C p m c s args cc nL own b0 tb D cl cA A ad n true) {index ci j kk : Nat} {fk : List (Nat ⊕ Nat)} {x : Int32} (hF : mw_FO own tb cl index ci j .int) (hnm : meth.name = "<init>") (hd : decode cc pc = .ok (.putfield index, 3)) (hk : kk < n) (hs : sh kk = .inr (ci, fk)) (hx : fk[j]? = some (.inl 0)) (k : mw p l e R s m args below meth c Q cells slots D cl cA A ad sh n nL (pc + 3) (lv) (st) (mw_uI S kk j x)) : mw p l e R s m args below meth c Q cells slots D cl cA A ad sh n nL (pc) (lv) (.inl x :: .inr (.inr kk) :: st) (S) :=
  mw_putG C (u := .inl x) hF hnm hd hk hs hs (fun _ _ => rfl) (List.getElem?_eq_some_iff.mp hx).1 (fun i hi => mw_rI_n S _ hi) (fun _ _ => rfl) (mw_fv_uI x hx) rfl rfl k
theorem mw_fv_setR {fk : List (Nat ⊕ Nat)} {k j r : Nat} (hj : j < fk.length) : mw_fv ad S k (fk.set j (.inr r)) = (mw_fv ad S k fk).set j (.ref (ad r)) := by
  apply List.ext_getElem?
  intro i
  by_cases e : i = j
  · subst e
    rw [List.getElem?_set_self (by rw [mw_fv_len]; exact hj), mw_fv_at (x := .inr r) (by rw [List.getElem?_set_self hj])]
    rfl
  · rw [List.getElem?_set_ne (Ne.symm e)]
    cases hx : fk[i]? with
    | none =>
      have hl : fk.length ≤ i := List.getElem?_eq_none_iff.mp hx
      rw [List.getElem?_eq_none (by rw [mw_fv_len, List.length_set]; exact hl), List.getElem?_eq_none (by rw [mw_fv_len]; exact hl)]
    | some z => rw [mw_fv_at (x := z) (by rw [List.getElem?_set_ne (Ne.symm e)]; exact hx), mw_fv_at hx]
theorem mw_putIr (C : mw_C p m c s args cc nL own b0 tb D cl cA A ad n true) {index ci j kk r : Nat} {fk : List (Nat ⊕ Nat)} {ty : FieldType} (hF : mw_FO own tb cl index ci j ty) (hnm : meth.name = "<init>") (hty : ∀ a, narrow ty (.ref a) = .ref a ∧ fits ty (.ref a) = true) (hd : decode cc pc = .ok (.putfield index, 3)) (hk : kk < n) (hs : sh kk = .inr (ci, fk)) (hj : j < fk.length) (k : mw p l e R s m args below meth c Q cells slots D cl cA A ad (mw_shU sh kk (.inr (ci, fk.set j (.inr r)))) n nL (pc + 3) (lv) (st) (S)) : mw p l e R s m args below meth c Q cells slots D cl cA A ad sh n nL (pc) (lv) (.inr (.inr r) :: .inr (.inr kk) :: st) (S) :=
  mw_putG C (u := .inr (.inr r)) (fk' := fk.set j (.inr r)) hF hnm hd hk hs mw_shU_s (fun i hi => mw_shU_o hi) hj (fun _ _ => rfl) (fun _ _ => rfl) (mw_fv_setR hj) (hty _).1 (hty _).2 k
theorem mw_aast (C : mw_C p m c s args cc nL own b0 tb D cl cA A ad n true) {kk N r i ci : Nat} {ps : List Nat} {T : u_T} {M : Nat} {fk : List (Nat ⊕ Nat)} (hd : decode cc pc = .ok (.aastore, 1)) (hk : kk < n) (hs : sh kk = .inl (3, N, .inr ps)) (hr : r < n) (hsr : sh r = .inr (ci, fk)) (hci : cl[ci]? = some ("WaveLedger$Node", T, M)) (hi : i < N) (hN : N < 2 ^ 31) (hps : ps.length = i) (k : mw p l e R s m args below meth c Q cells slots D cl cA A ad (mw_shU sh kk (.inl (3, N, .inr (ps ++ [r])))) n nL (pc + 1) (lv) (st) (S)) : mw p l e R s m args below meth c Q cells slots D cl cA A ad sh n nL (pc) (lv) (.inr (.inr r) :: .inl (nI i) :: .inr (.inr kk) :: st) (S) := fun H locs ls hP hS hl => by
  have he : (mw_W cA ad sh n S)[kk]? = some (ad kk, .inl (cA 3, N, .inr (.inr (.inr (.inr (fun j : Nat => (ps[j]?).map ad)))))) := by rw [mw_W_get hk, hs]; rfl
  have hv : (mw_W cA ad sh n S)[r]? = some (ad r, .inr (ci, mw_fv ad S r fk)) := by rw [mw_W_get hr, hsr]; rfl
  refine va_astq (r := ("WaveLedger$Node", T, M)) C.1.1 C.1.2.1 C.2.2.1 hP (mw_D C.2.2.2.2.1 (C.2.2.2.2.2 rfl)) hS kk 3 r ci he rfl hv hci (vp_in_nI hi hN) hd (fun H1 locs1 hP1 _ hS1 => ?_)
  have hf : va_up (fun j : Nat => (ps[j]?).map ad) (nI i).toNatClampNeg (some (ad r)) = (fun j : Nat => ((ps ++ [r])[j]?).map ad) := by
    rw [nI_clamp (Nat.lt_trans hi hN)]
    funext j
    by_cases e : j = i
    · subst e
      rw [List.getElem?_append_right (by omega), hps, Nat.sub_self]
      simp [va_up]
    · by_cases h : j < ps.length
      · rw [List.getElem?_append_left h]
        simp [va_up, e]
      · rw [List.getElem?_eq_none (l := ps ++ [r]) (by rw [List.length_append]; simp; omega)]
        have h0 : ps[j]? = none := List.getElem?_eq_none (by omega)
        simp [va_up, e, h0]
  rw [hf, mw_W_set2 (sh' := mw_shU sh kk (.inl (3, N, .inr (ps ++ [r])))) (S := S) (S' := S) hk (fun i hi => mw_shU_o hi) (fun _ _ => rfl) (fun _ _ => rfl) (by rw [mw_shU_s]; rfl)] at hP1
  exact k H1 locs1 ls hP1 hS1 hl
theorem mw_obj (C : mw_C p m c s args cc nL own b0 tb D cl cA A ad n true) {idx kk : Nat} (h1 : Cond.methodLink own idx Lib.objectInit ∈ mw_G tb) (h2 : Cond.instanceMethod Lib.objectInit ∈ mw_G tb) (h3 : Cond.code Lib.objectInit ⟨#[0xb1]⟩ 1 none ∈ mw_G tb) (hd : decode cc pc = .ok (.invokespecial idx, 3)) (hf : 1 ≤ R.frames) (hlo : mw_words st + 12 ≤ R.locals) (k : mw p l e R s m args below meth c Q cells slots D cl cA A ad sh n nL (pc + 3) (lv) (st) (S)) : mw p l e R s m args below meth c Q cells slots D cl cA A ad sh n nL (pc) (lv) (.inr (.inr kk) :: st) (S) := fun H locs ls hP hS hl => by
  have hmem : ∀ w, w ∈ mw_G tb → w.before args s = true := fun w h => C.1.2.2.2.2 w (List.mem_cons_of_mem _ h)
  refine W.objInit C.1.1 C.1.2.1 C.1.2.2.2.1 (hmem _ h1) (hmem _ h2) (hmem _ h3) (g := F0 m pc ls (.ref (ad kk) :: st.map (mw_tv ad))) rfl (by rw [C.1.2.2.1]; exact hl.1) rfl hd hf ?_ (k H locs ls hP hS hl)
  have h9 : ((st.map (mw_tv ad)).map fun v => v.category).sum ≤ mw_words st := mw_sum_le (Nat.le_refl _)
  show 2 * 0 + _ + 12 ≤ _
  omega
end MKR
/-! constructors: contracts and calls -/
def mw_QI (D : va_G) (cl : List vw_C) (cA : Nat → ClassId) (ad : Nat → Nat) (sh : Nat → mw_H) (n sz : Nat) (S : mw_S) (sh1 : Nat → mw_H) (n1 : Nat) (post : mw_S → Prop) : Array Value → State → Outcome → State → Prop := fun _ st oc t => (∃ (ad1 : Nat → Nat) (S' : mw_S), oc = .returned none ∧ post S' ∧ (∀ k, k < n → ad1 k = ad k) ∧ (∀ k, n ≤ k → k < n1 → sz ≤ ad1 k) ∧ (∀ i j, i < n1 → j < n1 → ad1 i = ad1 j → i = j) ∧ va_P D cl (mw_W cA ad1 sh1 n1 S') t.heap) ∧ va_F (mw_fr true (mw_W cA ad sh n S) sz) st t
def mw_MI (l : Launch) (tb : List Cond) (Z : State → Prop) (y : MethodName) (cc : ByteArray) (maxL : Nat) (rm : Room) (D : va_G) (cl : List vw_C) (cA : Nat → ClassId) (sh : Nat → mw_H) (n : Nat) (as : List mw_V) (S : mw_S) (sh1 : Nat → mw_H) (n1 mc ms : Nat) (post : mw_S → Prop) : Prop := ∀ (ad : Nat → Nat) (sz : Nat), Met l y (Cond.code y cc maxL none :: mw_G tb) rm (fun v U => mw_Pc D cl cA tb ad sh n sz as S v U ∧ Z U) (mw_QI D cl cA ad sh n sz S sh1 n1 post) mc ms (mw_fr true (mw_W cA ad sh n S) sz)
theorem mw_MI_of {l : Launch} {y : MethodName} {tb : List Cond} {Z : State → Prop} {rm : Room} {D : va_G} {cl : List vw_C} {cA : Nat → ClassId} {sh sh1 : Nat → mw_H} {n n1 mc ms : Nat} {as : List mw_V} {S : mw_S} {post : mw_S → Prop} {cc : ByteArray} {maxL : Nat}
    (hy : plainName y.cls = true) (hyn : y.name = "<init>") (hlen : mw_words as ≤ maxL)
    (body : ∀ (p : Program) (e : Env) (s : State) (m : MethodId) (args : Array Value) (below : List Frame) (meth : Method) (c : Code) (A : Nat → Prop) (ad : Nat → Nat), mw_C p m c s args cc maxL y.cls (Cond.code y cc maxL none) tb D cl cA A ad n true → (meth.sig.returnType = none ∧ meth.locks = false ∧ A = mw_fr true (mw_W cA ad sh n S) s.heap.size) → (meth.name = "<init>" ∧ Z s) → (∀ k, k < n → ad k = ad k) →
      mw p l e rm s m args below meth c (MQ below (mw_QI D cl cA ad sh n s.heap.size S sh1 n1 post) args s mc ms A) 0 0 D cl cA A ad sh n maxL 0 (mw_args 0 as) [] S) : mw_MI l tb Z y cc maxL rm D cl cA sh n as S sh1 n1 mc ms post := by
  intro ad sz
  refine Met.ofW (cc := cc) (maxL := maxL) (ret := none) hy rfl ?_
  intro p e s m args below meth c s₁ B hml hv
  obtain ⟨⟨rfl, hsz, hP, hK, hN, hi⟩, hZ⟩ := hv
  subst hsz
  have hts := atoms_spec (ws := Cond.code y cc maxL none :: mw_G tb) B.pre
  have hown : s.vm.findClass y.cls = some m.cls := findClass_of_methodNamed B.named
  have hin : meth.name = y.name := (name_of_methodNamed B.named B.method).1
  have hl := lv_entry (as.map (mw_tv ad)) (n := maxL) (by rw [mw_words_len]; exact hlen)
  rw [mw_args_map] at hl
  rw [lg_entry_eq]
  exact body p e s m _ below meth c _ ad ⟨⟨B.exec, B.bytes, hml, hown, hts⟩, hN, hK, fun q h => Or.inr h, hi, fun hw k hk => Or.inl ⟨hw, k, _, mw_W_get hk⟩⟩ ⟨B.returns, B.notSynchronized, rfl⟩ ⟨hin.trans hyn, hZ⟩ (fun _ _ => rfl) s.heap [] _ hP va_S.rf hl
section MKC
variable {p : Program} {l : Launch} {e : Env} {R : Room} {s : State} {m : MethodId} {args : Array Value} {below : List Frame} {meth : Method} {c : Code} {Q : State → Prop} {cells slots : Nat}
variable {cc : ByteArray} {nL : Nat} {own : String} {b0 : Cond} {tb : List Cond} {D : va_G} {cl : List vw_C} {cA : Nat → ClassId} {A : Nat → Prop} {ad : Nat → Nat} {sh : Nat → mw_H} {n : Nat}
variable {pc : Nat} {lv : List (Nat × mw_V)} {st : List mw_V} {S : mw_S}
theorem mw_vretI (C : mw_C p m c s args cc nL own b0 tb D cl cA A ad n true) {ad0 : Nat → Nat} {sh0 : Nat → mw_H} {n0 mc ms : Nat} {S0 : mw_S} {post : mw_S → Prop} (hR : meth.sig.returnType = none ∧ meth.locks = false ∧ A = mw_fr true (mw_W cA ad0 sh0 n0 S0) s.heap.size) (hx : ∀ k, k < n0 → ad k = ad0 k) (hn : n0 ≤ n) (hd : decode cc pc = .ok (.return_, 1)) (h1 : cells ≤ mc) (h2 : slots ≤ ms) (hq : post S) : mw p l e R s m args below meth c (MQ below (mw_QI D cl cA ad0 sh0 n0 s.heap.size S0 sh n post) args s mc ms A) cells slots D cl cA A ad sh n nL (pc) (lv) ([]) (S) := fun H locs ls hP hS hl => by
  refine W.widen h1 h2 ?_
  refine W.vret C.1.1 C.1.2.1 hR.1 (fun t ht _ => ⟨⟨ad, S, rfl, hq, hx, fun k hk1 hk2 => ?_, C.2.2.2.2.1, by rw [ht]; exact hP⟩, by have h9 := hS.F ht; rw [hR.2.2] at h9; exact h9⟩) hS.2.2 hd hR.2.1
  have hA := C.2.2.2.2.2 rfl k hk2
  rw [hR.2.2] at hA
  rcases hA with ⟨-, i, z, hz⟩ | hA
  · obtain ⟨hi, hz⟩ := mw_W_some hz
    have e9 : ad k = ad0 i := congrArg Prod.fst hz
    rw [← hx i hi] at e9
    have := C.2.2.2.2.1 _ _ hk2 (Nat.lt_of_lt_of_le hi hn) e9
    omega
  · exact hA
/-- the caller's world behind a constructor's call: its new cells come last -/
def mw_gr (sh : Nat → mw_H) (n : Nat) (ix : List Nat) (n' : Nat) (sh1 : Nat → mw_H) (n1 : Nat) (sh2 : Nat → mw_H) (n2 : Nat) (ix2 : List Nat) : Bool :=
  decide (n' ≤ n1) && (decide (n2 = n + (n1 - n')) && ((List.range n').all (fun k => decide (mw_ixf ix2 k = mw_ixf ix k)) && ((List.range (n1 - n')).all (fun d => decide (mw_ixf ix2 (n' + d) = n + d)) && ((List.range n).all (fun i => (mw_pos ix i).isSome || (decide (sh2 i = sh i) && mw_okH (mw_ok0 n n2) (sh i))) && (List.range n1).all (fun k => mw_okH (fun r => Nat.blt r n1) (sh1 k))))))
theorem mw_gr_of {ix : List Nat} {n' : Nat} {sh1 : Nat → mw_H} {n1 : Nat} {sh2 : Nat → mw_H} {n2 : Nat} {ix2 : List Nat} (h : mw_gr sh n ix n' sh1 n1 sh2 n2 ix2 = true) : n' ≤ n1 ∧ n2 = n + (n1 - n') ∧ (∀ k, k < n' → mw_ixf ix2 k = mw_ixf ix k) ∧ (∀ d, d < n1 - n' → mw_ixf ix2 (n' + d) = n + d) ∧ (∀ i, i < n → mw_pos ix i = none → sh2 i = sh i ∧ mw_okH (mw_ok0 n n2) (sh i) = true) ∧ (∀ k, k < n1 → mw_okH (fun r => Nat.blt r n1) (sh1 k) = true) := by
  unfold mw_gr at h
  simp only [Bool.and_eq_true, List.all_eq_true, decide_eq_true_eq, List.mem_range, Bool.or_eq_true] at h
  obtain ⟨h1, h2, h3, h4, h5, h6⟩ := h
  refine ⟨h1, h2, h3, h4, fun i hi hp => ?_, h6⟩
  rcases h5 i hi with h | h
  · rw [hp] at h; cases h
  · exact h
theorem mw_runI (C : mw_C p m c s args cc nL own b0 tb D cl cA A ad n true) {index : Nat} {y : MethodName} {bytes : ByteArray} {maxL np kk mc ms : Nat} {rm : Room} {Z : State → Prop} {sh' sh1 : Nat → mw_H} {n' n1 : Nat} {ix : List Nat} {as rest : List mw_V} {post : mw_S → Prop} (sh2 : Nat → mw_H) (n2 : Nat) (ix2 : List Nat)
    (hM : mw_MI l tb Z y bytes maxL rm D cl cA sh' n' (.inr (.inr kk) :: as) (mw_rs S ix) sh1 n1 mc ms post) (hx : mw_ix sh' n' sh n ix) (hx2 : mw_ix sh1 n1 sh2 n2 ix2) (hg : mw_gr sh n ix n' sh1 n1 sh2 n2 ix2 = true) (hK : mw_KB tb own index y bytes maxL none np) (hin : Cond.instanceMethod y ∈ mw_G tb) (hyn : y.name = "<init>") (hZb : ∀ (U : State) (g : JFrame) (mk : MethodId) (a : Array Value), Z U → Z (U.calling g mk a)) (hZ : ∀ (H : Heap) (locs : List Loc), va_S A s.heap H locs → ∀ U : State, U.heap = H → s.WarmedH U.vm → Z U) (hd : decode cc pc = .ok (.invokespecial index, 3)) (hn : as.length = np) (hs : (as.map (mw_rv ix)).reverse ++ .inr (.inr (mw_ixf ix kk)) :: rest = st) (hrest : mw_words rest ≤ 8)
    (hrc : rm.cells = mc) (hrs : rm.slots = ms) (hR : rm.frames + 1 ≤ R.frames ∧ 8 + (maxL + 11) + rm.locals ≤ R.locals) (hc : cells + mc ≤ R.cells ∧ slots + ms ≤ R.slots) (hlv : mw_okl (mw_ok0 n n2) lv = true) (hst : mw_okv (mw_ok0 n n2) rest = true)
    (k : ∀ ad', (∀ i, mw_ok0 n n2 i = true → ad' i = ad i) → mw_C p m c s args cc nL own b0 tb D cl cA A ad' n2 true → ∀ S1, post S1 → mw p l e R s m args below meth c Q (cells + mc) (slots + ms) D cl cA A (ad') (sh2) (n2) nL (pc + 3) (lv) (rest) (mw_mg S ix2 S1)) : mw p l e R s m args below meth c Q cells slots D cl cA A ad sh n nL (pc) (lv) (st) (S) := by
  subst hs
  intro H locs ls hP hS hl T hT X
  obtain ⟨k1, k2, k3, k4⟩ := hK
  have ht := C.1.2.2.2.2
  have hmem : ∀ w, w ∈ mw_G tb → w.before args s = true := fun w h => ht w (List.mem_cons_of_mem _ h)
  have hstk : (((as.map (mw_rv ix)).reverse ++ .inr (.inr (mw_ixf ix kk)) :: rest).map (mw_tv ad)) = (as.map (mw_tv (fun k => ad (mw_ixf ix k)))).reverse ++ .ref (ad (mw_ixf ix kk)) :: rest.map (mw_tv ad) := mw_asr ix as (.inr (.inr (mw_ixf ix kk)) :: rest)
  have hbl : FrameBlind (fun v U => mw_Pc D cl cA tb (fun k => ad (mw_ixf ix k)) sh' n' H.size (.inr (.inr kk) :: as) (mw_rs S ix) v U ∧ Z U) := fun a U g mk q => ⟨mw_blind a U g mk q.1, hZb U g mk a q.2⟩
  have hpre : ∀ U : State, U.heap = H → s.WarmedH U.vm → (mw_Pc D cl cA tb (fun k => ad (mw_ixf ix k)) sh' n' H.size (.inr (.inr kk) :: as) (mw_rs S ix) ((.ref (ad (mw_ixf ix kk)) :: as.map (mw_tv (fun k => ad (mw_ixf ix k)))).toArray) U ∧ Z U) := fun U hU hW => ⟨mw_pre C hx hP U hU hW, hZ H locs hS U hU hW⟩
  have hrun : ∃ a : Array Value, va_Run p l e R s m args below meth c H locs cells slots mc ms (F0 m pc ls (((as.map (mw_rv ix)).reverse ++ .inr (.inr (mw_ixf ix kk)) :: rest).map (mw_tv ad))) (rest.map (mw_tv ad)) (mw_QI D cl cA (fun k => ad (mw_ixf ix k)) sh' n' H.size (mw_rs S ix) sh1 n1 post a) (mw_fr true (mw_W cA (fun k => ad (mw_ixf ix k)) sh' n' (mw_rs S ix)) H.size) := by
    refine ⟨(.ref (ad (mw_ixf ix kk)) :: as.map (mw_tv (fun k => ad (mw_ixf ix k)))).toArray, ?_⟩
    rcases k4 with k4 | ⟨host, k4⟩
    · exact va_runI (As := as.map (mw_tv (fun k => ad (mw_ixf ix k)))) C.1 (hM (fun k => ad (mw_ixf ix k)) H.size) ⟨callB_of np ht (mw_good k1) rfl hrc hrs (hmem _ k2) (hmem _ k4) k3 hR, hyn, hmem _ hin⟩ ⟨hbl, hpre⟩ rfl (by rw [List.length_map]; exact hn) hl.1 hstk (lv_room (mw_sum_le hrest)) hd hc
    · exact va_runIN (As := as.map (mw_tv (fun k => ad (mw_ixf ix k)))) C.1 (hM (fun k => ad (mw_ixf ix k)) H.size) ⟨va_cnB np ht (mw_good k1) rfl hrc hrs (C.2.1 _ k4) (hmem _ k2) k3 hR, hyn, hmem _ hin⟩ ⟨hbl, hpre⟩ rfl (by rw [List.length_map]; exact hn) hl.1 hstk (lv_room (mw_sum_le hrest)) hd hc
  obtain ⟨a, hrun⟩ := hrun
  obtain ⟨v, st₀, t, T', L, h0, X', hL, e1, e2, ⟨⟨adc, S1, hv, hpost, had, hsz1, hinj, hP1⟩, hF⟩, hgo⟩ := hrun T hT X
  obtain ⟨q1, q2, q3, q4, q5, q6⟩ := mw_gr_of hg
  have hA1 : ∀ q, mw_fr true (mw_W cA (fun k => ad (mw_ixf ix k)) sh' n' (mw_rs S ix)) H.size q → A q := by
    intro q hq
    rcases hq with ⟨hw1, k, z, hz⟩ | hq
    · obtain ⟨hk, hz⟩ := mw_W_some hz
      have e9 : q = ad (mw_ixf ix k) := congrArg Prod.fst hz
      rw [e9]
      exact C.2.2.2.2.2 rfl _ (hx.2 k hk).1
    · exact C.2.2.2.1 q (Nat.le_trans hS.1 hq)
  have hF1 : ∀ q, q < H.size → ¬ mw_fr true (mw_W cA (fun k => ad (mw_ixf ix k)) sh' n' (mw_rs S ix)) H.size q → T'.heap[q]? = H[q]? := fun q h1 h2 => by
    rw [e1, ← h0]
    exact hF.2 q (by rw [h0]; exact h1) h2
  have hsz : H.size ≤ T'.heap.size := by rw [e1, ← h0]; exact hF.1
  -- the addresses
  obtain ⟨ad2, had2⟩ : ∃ f : Nat → Nat, f = fun k => if n ≤ k ∧ k < n2 then adc (n' + (k - n)) else ad k := ⟨_, rfl⟩
  have a_o : ∀ i, mw_ok0 n n2 i = true → ad2 i = ad i := fun i hi => by
    have := mw_ok0_of hi
    rw [had2]
    exact if_neg (by omega)
  have a_n : ∀ i, n ≤ i → i < n2 → ad2 i = adc (n' + (i - n)) := fun i h1 h2 => by
    rw [had2]
    exact if_pos ⟨h1, h2⟩
  have a_c : ∀ k, k < n1 → ad2 (mw_ixf ix2 k) = adc k := fun k hk => by
    by_cases h : k < n'
    · rw [q3 k h, a_o _ (mw_ok0_lt (hx.2 k h).1), had k h]
    · have e9 := q4 (k - n') (by omega)
      rw [show n' + (k - n') = k by omega] at e9
      rw [e9, a_n _ (by omega) (by omega), show n' + (n + (k - n') - n) = k by omega]
  have hlt : ∀ i, i < n → ad i < H.size := fun i hi => (hP i _ (mw_W_get hi)).lt
  have hinj2 : ∀ i j, i < n2 → j < n2 → ad2 i = ad2 j → i = j := by
    intro i j hi hj h
    by_cases h1 : i < n
    · by_cases h2 : j < n
      · rw [a_o i (mw_ok0_lt h1), a_o j (mw_ok0_lt h2)] at h
        exact C.2.2.2.2.1 i j h1 h2 h
      · rw [a_o i (mw_ok0_lt h1), a_n j (by omega) hj] at h
        have := hlt i h1
        have := hsz1 (n' + (j - n)) (by omega) (by omega)
        omega
    · by_cases h2 : j < n
      · rw [a_n i (by omega) hi, a_o j (mw_ok0_lt h2)] at h
        have := hlt j h2
        have := hsz1 (n' + (i - n)) (by omega) (by omega)
        omega
      · rw [a_n i (by omega) hi, a_n j (by omega) hj] at h
        have := hinj _ _ (by omega) (by omega) h
        omega
  have hA2 : ∀ i, i < n2 → A (ad2 i) := by
    intro i hi
    by_cases h1 : i < n
    · rw [a_o i (mw_ok0_lt h1)]
      exact C.2.2.2.2.2 rfl i h1
    · rw [a_n i (by omega) hi]
      exact C.2.2.2.1 _ (Nat.le_trans hS.1 (hsz1 _ (by omega) (by omega)))
  have hP2 : va_P D cl (mw_W cA ad2 sh2 n2 (mw_mg S ix2 S1)) T'.heap := by
    intro i q hq
    obtain ⟨hi, rfl⟩ := mw_W_some hq
    cases hp : mw_pos ix2 i with
    | some k =>
      obtain ⟨hk, hik⟩ := mw_pos_lt hp
      rw [hx2.1] at hk
      obtain ⟨-, h2, -⟩ := hx2.2 k hk
      have h3 := hP1 k _ (mw_W_get hk)
      have e8 : mw_e cA adc S1 k (sh1 k) = mw_e cA ad2 (mw_mg S ix2 S1) i (sh2 i) := by
        have e7 : mw_e cA adc S1 k (sh1 k) = mw_e cA (fun k => ad2 (mw_ixf ix2 k)) (mw_rs (mw_mg S ix2 S1) ix2) k (sh1 k) := by
          refine mw_e_ad (P := fun r => Nat.blt r n1) (fun r hr => ?_) ?_ ?_ (q6 k hk)
          · exact (a_c r (Nat.le_of_ble_eq_true hr)).symm
          · show S1.1 k = (mw_mg S ix2 S1).1 (mw_ixf ix2 k)
            simp only [mw_mg, hik, hp]
          · show S1.2 k = (mw_mg S ix2 S1).2 (mw_ixf ix2 k)
            simp only [mw_mg, hik, hp]
        rw [e7, mw_okc_e h2, hik]
      have h4 : va_at D cl (adc k, mw_e cA adc S1 k (sh1 k)) t.heap := h3
      rw [e8, ← a_c k hk, hik] at h4
      rw [e1]
      exact h4
    | none =>
      have hin1 : i < n := by
        by_cases h : i < n
        · exact h
        · have e9 := q4 (i - n) (by omega)
          have e10 := (hx2.2 (n' + (i - n)) (by omega)).2.2
          rw [e9, show n + (i - n) = i by omega, hp] at e10
          cases e10
      have hp' : mw_pos ix i = none := by
        cases hp' : mw_pos ix i with
        | none => rfl
        | some k =>
          obtain ⟨hk, hik⟩ := mw_pos_lt hp'
          rw [hx.1] at hk
          have e10 := (hx2.2 k (by omega)).2.2
          rw [q3 k hk, hik, hp] at e10
          cases e10
      obtain ⟨s1, s2⟩ := q5 i hin1 hp'
      have h3 := hP i _ (mw_W_get hin1)
      have e8 : mw_e cA ad2 (mw_mg S ix2 S1) i (sh i) = mw_e cA ad S i (sh i) := by
        refine mw_e_ad a_o ?_ ?_ s2
        · simp only [mw_mg, hp]
        · simp only [mw_mg, hp]
      rw [s1, e8, a_o i (mw_ok0_lt hin1)]
      refine h3.kept (hF1 _ h3.lt ?_)
      rintro (⟨-, k, z, hz⟩ | hq)
      · obtain ⟨hk, hz⟩ := mw_W_some hz
        have e9 : ad i = ad (mw_ixf ix k) := congrArg Prod.fst hz
        have e10 := C.2.2.2.2.1 _ _ hin1 (hx.2 k hk).1 e9
        rw [e10, (hx.2 k hk).2.2] at hp'
        cases hp'
      · exact absurd h3.lt (Nat.not_lt.mpr hq)
  have hS2 : va_S A s.heap T'.heap (locs ++ L) := by
    refine ⟨Nat.le_trans hS.1 hsz, fun q h1 h2 => ?_, fun q hq => ?_⟩
    · rw [hF1 q (Nat.lt_of_lt_of_le h1 hS.1) (fun h => h2 (hA1 q h))]
      exact hS.2.1 q h1 h2
    · rcases List.mem_append.mp hq with hq | hq
      · exact hS.2.2 q hq
      · exact hA1 _ (hL q hq)
  have hvn : v = none := by injection hv
  subst hvn
  obtain ⟨t2, a1, b1⟩ := k ad2 a_o ⟨C.1, C.2.1, C.2.2.1, C.2.2.2.1, hinj2, fun _ => hA2⟩ S1 hpost T'.heap (locs ++ L) ls hP2 hS2 (by rw [mw_lm_ad a_o hlv]; exact hl) T' rfl X'
  refine ⟨t2, hgo t2 ?_, b1⟩
  rw [mw_tvs_ad a_o hst] at a1
  exact a1
end MKC
