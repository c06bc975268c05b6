/-! the reference's world, and rows over it -/
def sh_Mo : Nat → mw_H := fun k => [.inr (8, [.inl 0, .inl 0, .inl 0, .inl 0, .inl 0, .inl 0, .inr 1, .inr 2, .inr 3, .inr 4, .inl 0, .inr 5, .inl 0, .inr 6, .inr 7, .inr 8, .inr 9, .inr 10, .inr 11, .inr 12, .inr 13, .inr 14, .inr 15, .inr 16, .inr 17, .inr 18, .inr 19, .inr 20, .inr 21]),
  .inl (0, 80, .inl 0), .inl (0, 80, .inl 0), .inl (1, 80, .inl 1), .inl (0, 80, .inl 0), .inl (0, 2400, .inl 0), .inl (2, 192, .inl 0), .inl (2, 192, .inl 0), .inl (0, 192, .inl 0), .inl (2, 192, .inl 0), .inl (2, 192, .inl 0), .inl (0, 192, .inl 0), .inl (0, 768, .inl 0), .inl (0, 768, .inl 0), .inl (0, 4, .inl 0), .inl (2, 4, .inl 0), .inl (0, 4, .inl 0), .inl (0, 4, .inl 0), .inl (0, 16, .inl 0), .inl (0, 48, .inl 0), .inl (0, 4, .inl 0), .inl (0, 4, .inl 0)].getD k (.inr (0, []))
def sh_I768 : Nat → mw_H := fun k => [.inl (0, 768, .inl 0)].getD k (.inr (0, []))
theorem ix_Mo : mw_ix sh_Mo 22 sh_Mo 22 [0, 1, 2, 3, 4, 5, 6, 7, 8, 9, 10, 11, 12, 13, 14, 15, 16, 17, 18, 19, 20, 21] := mw_ix_of (by decide +kernel)
theorem ix_I_Mo12 : mw_ix sh_I768 1 sh_Mo 22 [12] := mw_ix_of (by decide +kernel)
theorem ix_I_Mo13 : mw_ix sh_I768 1 sh_Mo 22 [13] := mw_ix_of (by decide +kernel)
def mo_sc (j : Nat) : Bool := j == 0 || (j == 4 || (j == 5 || (j == 10 || j == 12)))
def mo_ar (f : Nat) : Bool := decide (1 ≤ f) && (decide (f ≤ 21) && decide (f ≠ 3))
def mR (cn fv : Int32) (σ : aS) (S : mw_S) : Prop := S.1 0 1 = σ.2.2 ∧ S.1 0 2 = cn ∧ S.1 0 3 = fv ∧ (∀ j, mo_sc j = true → S.1 0 j = nI (σ.1 0 j)) ∧ (∀ f j, mo_ar f = true → S.1 f j = nI (σ.1 f j)) ∧ ∀ j, S.2 3 j = σ.2.1 j
theorem mo_sc1 {j : Nat} (h : mo_sc j = true) : j ≠ 1 ∧ j ≠ 2 ∧ j ≠ 3 := by
  refine ⟨?_, ?_, ?_⟩ <;> (rintro rfl; cases h)
theorem mo_ar0 {f : Nat} (h : mo_ar f = true) : f ≠ 0 ∧ f ≠ 3 := by
  refine ⟨?_, ?_⟩ <;> (rintro rfl; cases h)
theorem mR_ar {cn fv : Int32} {σ : aS} {S : mw_S} (h : mR cn fv σ S) {f : Nat} (hf : mo_ar f = true) (j x : Nat) : mR cn fv (a_up σ f j x) (mw_uI S f j (nI x)) := by
  obtain ⟨h1, h2, h3, h4, h5, h6⟩ := h
  have h0 : (mw_uI S f j (nI x)).1 0 = S.1 0 := by rw [mw_uI_1, if_neg (Ne.symm (mo_ar0 hf).1)]
  refine ⟨by rw [h0]; exact h1, by rw [h0]; exact h2, by rw [h0]; exact h3, fun i hi => ?_, fun f' i hf' => ?_, h6⟩
  · rw [h0, a_up_f _ _ _ _ (Ne.symm (mo_ar0 hf).1)]; exact h4 i hi
  · rw [mw_uI_1]
    by_cases e : f' = f
    · subst e
      rw [if_pos rfl]
      unfold upd
      by_cases e2 : i = j
      · rw [if_pos e2, e2, a_up_s]
      · rw [if_neg e2, a_up_j _ _ _ _ e2]; exact h5 _ i hf'
    · rw [if_neg e, a_up_f _ _ _ _ e]; exact h5 f' i hf'
theorem mR_sc {cn fv : Int32} {σ : aS} {S : mw_S} (h : mR cn fv σ S) {j : Nat} (hj : mo_sc j = true) (x : Nat) : mR cn fv (a_up σ 0 j x) (mw_uI S 0 j (nI x)) := by
  obtain ⟨h1, h2, h3, h4, h5, h6⟩ := h
  obtain ⟨j1, j2, j3⟩ := mo_sc1 hj
  have e0 : ∀ i, i ≠ j → (mw_uI S 0 j (nI x)).1 0 i = S.1 0 i := fun i hi => by
    rw [mw_uI_1, if_pos rfl]; unfold upd; rw [if_neg hi]
  refine ⟨by rw [e0 1 (Ne.symm j1)]; exact h1, by rw [e0 2 (Ne.symm j2)]; exact h2, by rw [e0 3 (Ne.symm j3)]; exact h3, fun i hi => ?_, fun f' i hf' => ?_, h6⟩
  · by_cases e : i = j
    · subst e; rw [a_up_s, mw_uI_1, if_pos rfl]; unfold upd; rw [if_pos rfl]
    · rw [e0 i e, a_up_j _ _ _ _ e]; exact h4 i hi
  · rw [mw_uI_1, if_neg (mo_ar0 hf').1, a_up_f _ _ _ _ (mo_ar0 hf').1]; exact h5 f' i hf'
theorem mR_dr {cn fv : Int32} {σ : aS} {S : mw_S} (h : mR cn fv σ S) (x : Int32) : mR cn fv (a_dr σ x) (mw_uI S 0 1 x) := by
  obtain ⟨h1, h2, h3, h4, h5, h6⟩ := h
  have e0 : ∀ i, i ≠ 1 → (mw_uI S 0 1 x).1 0 i = S.1 0 i := fun i hi => by
    rw [mw_uI_1, if_pos rfl]; unfold upd; rw [if_neg hi]
  exact ⟨rfl, by rw [e0 2 (by decide)]; exact h2, by rw [e0 3 (by decide)]; exact h3, fun i hi => by rw [e0 i (mo_sc1 hi).1]; exact h4 i hi, fun f' i hf' => by rw [mw_uI_1, if_neg (mo_ar0 hf').1]; exact h5 f' i hf', h6⟩
theorem mR_wk {cn fv : Int32} {σ : aS} {S : mw_S} (h : mR cn fv σ S) (j : Nat) (x : Int64) : mR cn fv (a_wk σ j x) (mw_uL S 3 j x) := by
  obtain ⟨h1, h2, h3, h4, h5, h6⟩ := h
  refine ⟨h1, h2, h3, h4, h5, fun i => ?_⟩
  show vp_updL (S.2 3) j x i = if i = j then x else σ.2.1 i
  unfold vp_updL
  by_cases e : i = j
  · rw [if_pos e, if_pos e]
  · rw [if_neg e, if_neg e]; exact h6 i
theorem mR_mg {cn fv : Int32} {σ : aS} {S S1 : mw_S} (h : mR cn fv σ S1) : mR cn fv σ (mw_mg S [0, 1, 2, 3, 4, 5, 6, 7, 8, 9, 10, 11, 12, 13, 14, 15, 16, 17, 18, 19, 20, 21] S1) := by
  obtain ⟨h1, h2, h3, h4, h5, h6⟩ := h
  refine ⟨h1, h2, h3, h4, fun f j hf => ?_, h6⟩
  have hf2 : f < 22 := by
    unfold mo_ar at hf
    simp only [Bool.and_eq_true, decide_eq_true_eq] at hf
    omega
  rw [mw_mg_1 ix_Mo (k := f) (i := f) hf2 ?_]
  · exact h5 f j hf
  · have hall : ∀ k, k < 22 → mw_ixf [0, 1, 2, 3, 4, 5, 6, 7, 8, 9, 10, 11, 12, 13, 14, 15, 16, 17, 18, 19, 20, 21] k = k := by decide
    exact hall f hf2
section MO
variable {p : Program} {l : Launch} {e : Env} {R : Room} {s : State} {m : MethodId} {args : Array Value} {below : List Frame} {meth : Method} {c : Code} {Q : State → Prop} {cells slots : Nat}
variable {cc : ByteArray} {nL : Nat} {own : String} {b0 : Cond} {tb : List Cond} {D : va_G} {cl : List vw_C} {cA : Nat → ClassId} {A : Nat → Prop} {ad : Nat → Nat} {w : Bool}
variable {pc : Nat} {lv : List (Nat × mw_V)} {st : List mw_V} {S : mw_S} {cn fv : Int32} {σ : aS}
theorem mo_get (C : mw_C p m c s args cc nL own b0 tb D cl cA A ad 22 w) {index j : Nat} (h : mR cn fv σ S) (hF : mw_F own tb cl index 8 j) (hd : decode cc pc = .ok (.getfield index, 3)) (hj : mo_sc j = true) (hx : ([.inl 0, .inl 0, .inl 0, .inl 0, .inl 0, .inl 0, .inr 1, .inr 2, .inr 3, .inr 4, .inl 0, .inr 5, .inl 0, .inr 6, .inr 7, .inr 8, .inr 9, .inr 10, .inr 11, .inr 12, .inr 13, .inr 14, .inr 15, .inr 16, .inr 17, .inr 18, .inr 19, .inr 20, .inr 21] : List (Nat ⊕ Nat))[j]? = some (.inl 0)) (k : mw p l e R s m args below meth c Q cells slots D cl cA A ad sh_Mo 22 nL (pc + 3) (lv) (.inl (nI (σ.1 0 j)) :: st) (S)) : mw p l e R s m args below meth c Q cells slots D cl cA A ad sh_Mo 22 nL (pc) (lv) (.inr (.inr 0) :: st) (S) := mw_geti C hF hd (by decide) rfl hx (by rw [h.2.2.2.1 j hj]; exact k)
theorem mo_getD (C : mw_C p m c s args cc nL own b0 tb D cl cA A ad 22 w) {index : Nat} (h : mR cn fv σ S) (hF : mw_F own tb cl index 8 1) (hd : decode cc pc = .ok (.getfield index, 3)) (k : mw p l e R s m args below meth c Q cells slots D cl cA A ad sh_Mo 22 nL (pc + 3) (lv) (.inl σ.2.2 :: st) (S)) : mw p l e R s m args below meth c Q cells slots D cl cA A ad sh_Mo 22 nL (pc) (lv) (.inr (.inr 0) :: st) (S) := mw_geti C hF hd (by decide) rfl rfl (by rw [h.1]; exact k)
theorem mo_getC (C : mw_C p m c s args cc nL own b0 tb D cl cA A ad 22 w) {index : Nat} (h : mR cn fv σ S) (hF : mw_F own tb cl index 8 2) (hd : decode cc pc = .ok (.getfield index, 3)) (k : mw p l e R s m args below meth c Q cells slots D cl cA A ad sh_Mo 22 nL (pc + 3) (lv) (.inl cn :: st) (S)) : mw p l e R s m args below meth c Q cells slots D cl cA A ad sh_Mo 22 nL (pc) (lv) (.inr (.inr 0) :: st) (S) := mw_geti C hF hd (by decide) rfl rfl (by rw [h.2.1]; exact k)
theorem mo_getF (C : mw_C p m c s args cc nL own b0 tb D cl cA A ad 22 w) {index : Nat} (h : mR cn fv σ S) (hF : mw_F own tb cl index 8 3) (hd : decode cc pc = .ok (.getfield index, 3)) (k : mw p l e R s m args below meth c Q cells slots D cl cA A ad sh_Mo 22 nL (pc + 3) (lv) (.inl fv :: st) (S)) : mw p l e R s m args below meth c Q cells slots D cl cA A ad sh_Mo 22 nL (pc) (lv) (.inr (.inr 0) :: st) (S) := mw_geti C hF hd (by decide) rfl rfl (by rw [h.2.2.1]; exact k)
theorem mo_put (C : mw_C p m c s args cc nL own b0 tb D cl cA A ad 22 w) (hw0 : w = true) {index j x : Nat} (h : mR cn fv σ S) (hF : mw_F own tb cl index 8 j) (hW : mw_P cl 8 j .int) (hd : decode cc pc = .ok (.putfield index, 3)) (hj : mo_sc j = true) (hx : ([.inl 0, .inl 0, .inl 0, .inl 0, .inl 0, .inl 0, .inr 1, .inr 2, .inr 3, .inr 4, .inl 0, .inr 5, .inl 0, .inr 6, .inr 7, .inr 8, .inr 9, .inr 10, .inr 11, .inr 12, .inr 13, .inr 14, .inr 15, .inr 16, .inr 17, .inr 18, .inr 19, .inr 20, .inr 21] : List (Nat ⊕ Nat))[j]? = some (.inl 0)) (k : ∀ S', mR cn fv (a_up σ 0 j x) S' → mw p l e R s m args below meth c Q cells slots D cl cA A ad sh_Mo 22 nL (pc + 3) (lv) (st) (S')) : mw p l e R s m args below meth c Q cells slots D cl cA A ad sh_Mo 22 nL (pc) (lv) (.inl (nI x) :: .inr (.inr 0) :: st) (S) := mw_puti C hw0 hF hW hd (by decide) rfl hx (k _ (mR_sc h hj x))
theorem mo_putB (C : mw_C p m c s args cc nL own b0 tb D cl cA A ad 22 w) (hw0 : w = true) {index x : Nat} (h : mR cn fv σ S) (hF : mw_F own tb cl index 8 4) (hW : mw_P cl 8 4 .boolean) (hd : decode cc pc = .ok (.putfield index, 3)) (hb : narrow .boolean (.int (nI x)) = .int (nI x)) (hfit : fits .boolean (.int (nI x)) = true) (k : ∀ S', mR cn fv (a_up σ 0 4 x) S' → mw p l e R s m args below meth c Q cells slots D cl cA A ad sh_Mo 22 nL (pc + 3) (lv) (st) (S')) : mw p l e R s m args below meth c Q cells slots D cl cA A ad sh_Mo 22 nL (pc) (lv) (.inl (nI x) :: .inr (.inr 0) :: st) (S) := mw_putz C hw0 hF hW hd (by decide) rfl rfl hb hfit (k _ (mR_sc h rfl x))
theorem mo_putD (C : mw_C p m c s args cc nL own b0 tb D cl cA A ad 22 w) (hw0 : w = true) {index : Nat} {x : Int32} (h : mR cn fv σ S) (hF : mw_F own tb cl index 8 1) (hW : mw_P cl 8 1 .int) (hd : decode cc pc = .ok (.putfield index, 3)) (k : ∀ S', mR cn fv (a_dr σ x) S' → mw p l e R s m args below meth c Q cells slots D cl cA A ad sh_Mo 22 nL (pc + 3) (lv) (st) (S')) : mw p l e R s m args below meth c Q cells slots D cl cA A ad sh_Mo 22 nL (pc) (lv) (.inl x :: .inr (.inr 0) :: st) (S) := mw_puti C hw0 hF hW hd (by decide) rfl rfl (k _ (mR_dr h x))
theorem mo_ald (C : mw_C p m c s args cc nL own b0 tb D cl cA A ad 22 w) {f N i : Nat} (h : mR cn fv σ S) (hd : decode cc pc = .ok (.iaload, 1)) (hk : f < 22) (hs : sh_Mo f = .inl (0, N, .inl 0)) (hf : mo_ar f = true) (hi : i < N) (hN : N < 2 ^ 31) (k : mw p l e R s m args below meth c Q cells slots D cl cA A ad sh_Mo 22 nL (pc + 1) (lv) (.inl (nI (σ.1 f i)) :: st) (S)) : mw p l e R s m args below meth c Q cells slots D cl cA A ad sh_Mo 22 nL (pc) (lv) (.inl (nI i) :: .inr (.inr f) :: st) (S) := mw_ialdN C hd hk hs hi hN (by rw [h.2.2.2.2.1 f i hf]; exact k)
theorem mo_zald (C : mw_C p m c s args cc nL own b0 tb D cl cA A ad 22 w) {f N i : Nat} (h : mR cn fv σ S) (hd : decode cc pc = .ok (.baload, 1)) (hk : f < 22) (hs : sh_Mo f = .inl (2, N, .inl 0)) (hf : mo_ar f = true) (hi : i < N) (hN : N < 2 ^ 31) (k : mw p l e R s m args below meth c Q cells slots D cl cA A ad sh_Mo 22 nL (pc + 1) (lv) (.inl (nI (σ.1 f i)) :: st) (S)) : mw p l e R s m args below meth c Q cells slots D cl cA A ad sh_Mo 22 nL (pc) (lv) (.inl (nI i) :: .inr (.inr f) :: st) (S) := mw_zaldN C hd hk hs hi hN (by rw [h.2.2.2.2.1 f i hf]; exact k)
theorem mo_lald (C : mw_C p m c s args cc nL own b0 tb D cl cA A ad 22 w) {i : Nat} (h : mR cn fv σ S) (hd : decode cc pc = .ok (.laload, 1)) (hi : i < 80) (k : mw p l e R s m args below meth c Q cells slots D cl cA A ad sh_Mo 22 nL (pc + 1) (lv) (.inr (.inl (σ.2.1 i)) :: st) (S)) : mw p l e R s m args below meth c Q cells slots D cl cA A ad sh_Mo 22 nL (pc) (lv) (.inl (nI i) :: .inr (.inr 3) :: st) (S) := mw_laldN C hd (by decide) rfl hi (by decide) (by rw [h.2.2.2.2.2 i]; exact k)
theorem mo_ast (C : mw_C p m c s args cc nL own b0 tb D cl cA A ad 22 w) (hw0 : w = true) {f N i x : Nat} (h : mR cn fv σ S) (hd : decode cc pc = .ok (.iastore, 1)) (hk : f < 22) (hs : sh_Mo f = .inl (0, N, .inl 0)) (hf : mo_ar f = true) (hi : i < N) (hN : N < 2 ^ 31) (k : ∀ S', mR cn fv (a_up σ f i x) S' → mw p l e R s m args below meth c Q cells slots D cl cA A ad sh_Mo 22 nL (pc + 1) (lv) (st) (S')) : mw p l e R s m args below meth c Q cells slots D cl cA A ad sh_Mo 22 nL (pc) (lv) (.inl (nI x) :: .inl (nI i) :: .inr (.inr f) :: st) (S) := mw_iastN C hw0 hd hk hs hi hN (k _ (mR_ar h hf i x))
theorem mo_zast (C : mw_C p m c s args cc nL own b0 tb D cl cA A ad 22 w) (hw0 : w = true) {f N i x : Nat} (h : mR cn fv σ S) (hd : decode cc pc = .ok (.bastore, 1)) (hk : f < 22) (hs : sh_Mo f = .inl (2, N, .inl 0)) (hf : mo_ar f = true) (hi : i < N) (hN : N < 2 ^ 31) (hb : vp_nar .boolean (nI x) = nI x) (k : ∀ S', mR cn fv (a_up σ f i x) S' → mw p l e R s m args below meth c Q cells slots D cl cA A ad sh_Mo 22 nL (pc + 1) (lv) (st) (S')) : mw p l e R s m args below meth c Q cells slots D cl cA A ad sh_Mo 22 nL (pc) (lv) (.inl (nI x) :: .inl (nI i) :: .inr (.inr f) :: st) (S) := mw_zastN C hw0 hd hk hs hi hN hb (k _ (mR_ar h hf i x))
theorem mo_last (C : mw_C p m c s args cc nL own b0 tb D cl cA A ad 22 w) (hw0 : w = true) {i : Nat} {x : Int64} (h : mR cn fv σ S) (hd : decode cc pc = .ok (.lastore, 1)) (hi : i < 80) (k : ∀ S', mR cn fv (a_wk σ i x) S' → mw p l e R s m args below meth c Q cells slots D cl cA A ad sh_Mo 22 nL (pc + 1) (lv) (st) (S')) : mw p l e R s m args below meth c Q cells slots D cl cA A ad sh_Mo 22 nL (pc) (lv) (.inr (.inl x) :: .inl (nI i) :: .inr (.inr 3) :: st) (S) := mw_lastN C hw0 hd (by decide) rfl hi (by decide) (k _ (mR_wk h i x))
theorem mo_runv (C : mw_C p m c s args cc nL own b0 tb D cl cA A ad 22 w) (hw0 : w = true) {τ : aS} {rest : List mw_V} (hr : mw_Rn true p l e R s m args below meth c cells slots D cl cA A ad sh_Mo 22 nL pc lv st rest S sh_Mo 22 [0, 1, 2, 3, 4, 5, 6, 7, 8, 9, 10, 11, 12, 13, 14, 15, 16, 17, 18, 19, 20, 21] (mw_Pv (fun S' => mR cn fv τ S'))) (k : ∀ S', mR cn fv τ S' → mw p l e R s m args below meth c Q cells slots D cl cA A ad sh_Mo 22 nL (pc + 3) (lv) (rest) (S')) : mw p l e R s m args below meth c Q cells slots D cl cA A ad sh_Mo 22 nL (pc) (lv) (st) (S) := mw_runv C ix_Mo hw0 hr (fun S1 h1 => k _ (mR_mg h1))
theorem mo_runi (C : mw_C p m c s args cc nL own b0 tb D cl cA A ad 22 w) (hw0 : w = true) {τ : aS} {x : Int32} {rest : List mw_V} (hr : mw_Rn true p l e R s m args below meth c cells slots D cl cA A ad sh_Mo 22 nL pc lv st rest S sh_Mo 22 [0, 1, 2, 3, 4, 5, 6, 7, 8, 9, 10, 11, 12, 13, 14, 15, 16, 17, 18, 19, 20, 21] (mw_Pi (fun z S' => z = x ∧ mR cn fv τ S'))) (k : ∀ S', mR cn fv τ S' → mw p l e R s m args below meth c Q cells slots D cl cA A ad sh_Mo 22 nL (pc + 3) (lv) (.inl x :: rest) (S')) : mw p l e R s m args below meth c Q cells slots D cl cA A ad sh_Mo 22 nL (pc) (lv) (st) (S) := mw_runi C ix_Mo hw0 hr (fun z S1 h1 => by obtain ⟨rfl, h1⟩ := h1; exact k _ (mR_mg h1))
end MO
