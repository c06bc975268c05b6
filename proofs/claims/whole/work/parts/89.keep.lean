/-! what a node's step leaves alone; the votes -/
def a_nd (f x : Nat) : Nat := if f ≤ 11 then x / 48 else if f ≤ 13 then x / 192 else if f = 18 then x / 4 else if f = 19 then x / 12 else x
/-- τ is σ after a step of node i: what is the other nodes' own is as it was -/
def a_ag (i : Nat) (σ τ : aS) : Prop := (∀ f x, 6 ≤ f → f ≤ 20 → a_nd f x ≠ i → τ.1 f x = σ.1 f x) ∧ (∀ v, v ≤ σ.1 0 5 → τ.1 1 v = σ.1 1 v ∧ τ.1 2 v = σ.1 2 v ∧ τ.2.1 v = σ.2.1 v) ∧ σ.1 0 5 ≤ τ.1 0 5 ∧ (∀ j, j ≠ 5 → j ≠ 12 → τ.1 0 j = σ.1 0 j) ∧ τ.2.2 = σ.2.2
theorem ag_r (i : Nat) (σ : aS) : a_ag i σ σ := ⟨fun _ _ _ _ _ => rfl, fun _ _ => ⟨rfl, rfl, rfl⟩, Nat.le_refl _, fun _ _ _ => rfl, rfl⟩
theorem ag_t {i : Nat} {σ τ ρ : aS} (h : a_ag i σ τ) (h2 : a_ag i τ ρ) : a_ag i σ ρ :=
  ⟨fun f x a b c => (h2.1 f x a b c).trans (h.1 f x a b c), fun v hv => by
    have a := h.2.1 v hv
    have b := h2.2.1 v (Nat.le_trans hv h.2.2.1)
    exact ⟨b.1.trans a.1, b.2.1.trans a.2.1, b.2.2.trans a.2.2⟩, Nat.le_trans h.2.2.1 h2.2.2.1, fun j a b => (h2.2.2.2.1 j a b).trans (h.2.2.2.1 j a b), h2.2.2.2.2.trans h.2.2.2.2⟩
theorem ag_up {i f x : Nat} (σ : aS) (y : Nat) (hf : f ≠ 0 ∧ f ≠ 1 ∧ f ≠ 2) (hx : f = 5 ∨ f = 21 ∨ a_nd f x = i) : a_ag i σ (a_up σ f x y) := by
  refine ⟨fun g z a b c => ?_, fun v _ => ⟨a_up_f _ _ _ _ (Ne.symm hf.2.1), a_up_f _ _ _ _ (Ne.symm hf.2.2), rfl⟩, Nat.le_of_eq (a_up_f _ _ _ _ (Ne.symm hf.1)).symm, fun j _ _ => a_up_f _ _ _ _ (Ne.symm hf.1), rfl⟩
  rw [a_up_at, if_neg]
  rintro ⟨rfl, rfl⟩
  rcases hx with h | h | h
  · omega
  · omega
  · exact c h
theorem ag_m {i : Nat} (σ : aS) (y : Nat) : a_ag i σ (a_up σ 0 12 y) := by
  refine ⟨fun g z a b c => a_up_f _ _ _ _ (by omega), fun v _ => ⟨rfl, rfl, rfl⟩, Nat.le_of_eq (a_up_j _ _ _ _ (by decide)).symm, fun j _ h => a_up_j _ _ _ _ h, rfl⟩
theorem ag_newV (i : Nat) (σ : aS) (place k t : Nat) (w : Int64) : a_ag i σ (a_newV σ place k w t) := by
  refine ⟨fun f x a b c => ?_, fun v hv => ?_, ?_, fun j a b => ?_, rfl⟩
  · unfold a_newV
    rw [a_up_f _ _ _ _ (by omega)]
    show (a_up (a_up (a_up σ 0 5 (σ.1 0 5 + 1)) 1 (σ.1 0 5 + 1) place) 2 (σ.1 0 5 + 1) k).1 f x = _
    rw [a_up_f _ _ _ _ (by omega), a_up_f _ _ _ _ (by omega), a_up_f _ _ _ _ (by omega)]
  · have hne : v ≠ σ.1 0 5 + 1 := by omega
    refine ⟨?_, ?_, ?_⟩
    · show (if 1 = 1 ∧ v = σ.1 0 5 + 1 then place else σ.1 1 v) = _
      rw [if_neg (fun h => hne h.2)]
    · show (if 2 = 2 ∧ v = σ.1 0 5 + 1 then k else σ.1 2 v) = _
      rw [if_neg (fun h => hne h.2)]
    · show (if v = σ.1 0 5 + 1 then w else σ.2.1 v) = _
      rw [if_neg hne]
  · show σ.1 0 5 ≤ σ.1 0 5 + 1
    omega
  · unfold a_newV
    rw [a_up_f _ _ _ _ (by decide)]
    show (a_up (a_up (a_up σ 0 5 (σ.1 0 5 + 1)) 1 (σ.1 0 5 + 1) place) 2 (σ.1 0 5 + 1) k).1 0 j = _
    rw [a_up_f _ _ _ _ (by decide), a_up_f _ _ _ _ (by decide), a_up_j _ _ _ _ a]
theorem nd48 {f i q : Nat} (hf : f ≤ 11) (hq : q < 48) : a_nd f (48 * i + q) = i := by
  unfold a_nd
  rw [if_pos hf]
  omega
theorem ag_make {i : Nat} (σ : aS) {t : Nat} (ht : a_tok t) : a_ag i σ (a_make σ i t) := by
  obtain ⟨t1, t2, t3⟩ := ht
  unfold a_make
  split
  · exact ag_r _ _
  · exact ag_t (ag_up σ _ (by decide) (Or.inr (Or.inr (by unfold a_nd; simp; omega)))) (ag_up _ _ (by decide) (Or.inr (Or.inr (by unfold a_nd; simp; omega))))
theorem ag_ordS {fy B i : Nat} {σ : aS} (hI : aI fy B σ) (hi : i < 4) (all : Int64) {q : Nat} (hq : q < 48) : a_ag i σ (a_ordS σ i all q) := by
  unfold a_ordS
  split
  · rename_i hc
    have hoc := hI.oc i hi
    have hps := a_c0_pos (g := fun q => σ.1 10 (48 * i + q)) (j := q) (n := 48) hc.2 hq
    refine ag_t (ag_t (ag_t (ag_up σ _ (by decide) (Or.inr (Or.inr (nd48 (by decide) hq)))) (ag_up _ _ (by decide) (Or.inr (Or.inr (nd48 (by decide) (by omega)))))) (ag_up _ _ (by decide) (Or.inr (Or.inr rfl)))) (ag_make _ (hI.tr _))
  · exact ag_r _ _
theorem ag_ordL {fy B i : Nat} {σ : aS} (hI : aI fy B σ) (hi : i < 4) (all : Int64) : ∀ q, q ≤ 48 → a_ag i σ (a_ordL i all q σ)
  | 0, _ => ag_r _ _
  | q + 1, hq => ag_t (ag_ordL hI hi all q (by omega)) (ag_ordS (aI_ordL hI all hi q (by omega)) hi all (by omega))
theorem ag_ordAll {fy B i : Nat} (hi : i < 4) : ∀ (k : Nat) {σ : aS}, aI fy B σ → a_ag i σ (a_ordAll i k σ)
  | 0, _, _ => ag_r _ _
  | k + 1, _, hI => ag_t (ag_ordL hI hi _ 48 (Nat.le_refl _)) (ag_ordAll hi k (aI_ordB hI _ hi))
theorem ag_chain (cn : Int32) (i cm : Nat) : ∀ (d len : Nat) (σ : aS), a_ag i σ (a_chain cn i cm d len σ).2
  | 0, len, σ => ag_r _ _
  | d + 1, len, σ => by
    unfold a_chain
    split
    · exact ag_t (ag_up σ _ (by decide) (Or.inr (Or.inl rfl))) (ag_chain cn i cm d _ _)
    · exact ag_chain cn i cm d _ _
theorem ag_done {fy B i : Nat} {σ : aS} (hI : aI fy B σ) (cn : Int32) (hi : i < 4) {w : Nat} (hw : w ≤ 3) : a_ag i σ (a_done cn σ i w) := by
  unfold a_done a_fin
  split
  · exact ag_r _ _
  · split
    · exact ag_r _ _
    · have h1 := ag_up (i := i) (f := 21) (x := 0) σ (a_lead cn w) (by decide) (Or.inr (Or.inl rfl))
      have h2 := ag_chain cn i (σ.1 16 i) (w - 1 - σ.1 16 i) 1 (a_up σ 21 0 (a_lead cn w))
      exact ag_t (ag_t (ag_t h1 h2) (ag_up _ _ (by decide) (Or.inr (Or.inr rfl)))) (ag_ordAll hi _ (aI_16 (aI_chain cn i _ _ _ (aI_21 hI _ _)) _ hw))
theorem ag_shQ (i : Nat) (σ : aS) : ∀ n, n ≤ 12 → a_ag i σ (a_shQ i n σ)
  | 0, _ => ag_r _ _
  | n + 1, hn => ag_t (ag_shQ i σ n (by omega)) (ag_up _ _ (by decide) (Or.inr (Or.inr (by unfold a_nd; simp; omega))))
theorem ag_first {fy B : Nat} {σ : aS} (hI : aI fy B σ) (i : Nat) : a_ag i σ (a_first σ i).2 := by
  have hq := hI.qd i
  unfold a_first
  split
  · exact ag_r _ _
  · exact ag_t (ag_up σ _ (by decide) (Or.inr (Or.inr rfl))) (ag_shQ i _ _ (by omega))
theorem ag_send (i fy : Nat) (σ : aS) (kind fr to v : Nat) : a_ag i σ (a_send fy σ kind fr to v) := by
  unfold a_send
  split
  · exact ag_r _ _
  · exact ag_t (ag_up σ _ (by decide) (Or.inl rfl)) (ag_m _ _)
theorem ag_cast (i fy kind fr v : Nat) (σ : aS) : ∀ k, a_ag i σ (a_cast fy kind fr v k σ)
  | 0 => ag_r _ _
  | k + 1 => ag_t (ag_cast i fy kind fr v σ k) (ag_send i fy _ kind fr k v)
theorem ag_mkV {fy B : Nat} {σ : aS} (hI : aI fy B σ) (i r fy' : Nat) : a_ag i σ (a_mkV fy' σ i r) := ag_t (ag_t (ag_first hI i) (ag_newV i _ _ _ _ _)) (ag_cast i _ _ _ _ _ 4)
theorem ag_wave {fy B i : Nat} {σ : aS} (hI : aI fy B σ) (cn : Int32) (hi : i < 4) : a_ag i σ (a_wave cn σ i) := by
  have ho := hI.ow i
  unfold a_wave
  split
  · exact ag_done hI cn hi (by omega)
  · exact ag_r _ _
theorem ag_step {fy B i : Nat} {σ : aS} (hI : aI fy B σ) (cn : Int32) (hi : i < 4) (ho : σ.1 14 i < 12) : a_ag i σ (a_step cn fy σ i) := ag_t (ag_t (ag_wave hI cn hi) (ag_up _ _ (by decide) (Or.inr (Or.inr rfl)))) (ag_mkV (aI_pre hI cn hi ho).2.1 i _ fy)
theorem ag_goL {fy B i : Nat} (cn : Int32) (hi : i < 4) : ∀ (k : Nat) {σ : aS}, aI fy B σ → a_ag i σ (a_goL cn fy i k σ)
  | 0, _, _ => ag_r _ _
  | k + 1, σ, hI => by
    unfold a_goL
    split
    · rename_i hc
      exact ag_t (ag_step hI cn hi hc.1) (ag_goL cn hi k (aI_step hI cn hi hc.1))
    · exact ag_r _ _
theorem ag_goOn {fy B i : Nat} {σ : aS} (hI : aI fy B σ) (cn : Int32) (hi : i < 4) : a_ag i σ (a_goOn cn fy σ i) := by
  unfold a_goOn a_goE
  split
  · exact ag_t (ag_t (ag_goL cn hi 12 hI) (ag_up _ _ (by decide) (Or.inr (Or.inr rfl)))) (ag_done (aI_15 (aI_goL cn hi 12 hI) _) cn hi (by decide))
  · exact ag_goL cn hi 12 hI
theorem ag_sendC {i : Nat} (fy : Nat) (σ : aS) (fr v : Nat) {q : Nat} (hq : q < 48) : a_ag i σ (a_sendC fy σ fr i v (48 * i + q)) := by
  unfold a_sendC
  split
  · exact ag_t (ag_up σ _ (by decide) (Or.inr (Or.inr (nd48 (by decide) hq)))) (ag_cast i _ _ _ _ _ 4)
  · exact ag_r _ _
theorem ag_ready {i : Nat} (fy : Nat) (σ : aS) (v : Nat) {q : Nat} (hq : q < 48) : a_ag i σ (a_ready fy σ i v (48 * i + q)) := by
  unfold a_ready
  split
  · exact ag_t (ag_up σ _ (by decide) (Or.inr (Or.inr (nd48 (by decide) hq)))) (ag_cast i _ _ _ _ _ 4)
  · exact ag_r _ _
theorem nd192 {f i q s : Nat} (hf : f = 12 ∨ f = 13) (hq : q < 48) (hs : s < 4) : a_nd f (4 * (48 * i + q) + s) = i := by
  unfold a_nd
  rw [if_neg (by omega), if_pos (by omega)]
  omega
theorem ag_echoC {i : Nat} (fy : Nat) (σ : aS) {fr : Nat} (hfr : fr < 4) (v : Nat) {q : Nat} (hq : q < 48) : a_ag i σ (a_echoC fy σ fr i v (48 * i + q)) := by
  have h1 := ag_up (i := i) (f := 12) (x := 4 * (48 * i + q) + fr) σ v (by decide) (Or.inr (Or.inr (nd192 (Or.inl rfl) hq hfr)))
  unfold a_echoC
  split
  · split
    · exact ag_t h1 (ag_ready fy _ v hq)
    · exact h1
  · exact ag_r _ _
theorem ag_addL (i : Nat) (σ : aS) : ∀ n, n ≤ 48 → a_ag i σ (a_addL i n σ)
  | 0, _ => ag_r _ _
  | n + 1, hn => by
    rw [a_addL]
    split
    · exact ag_t (ag_addL i σ n (by omega)) (ag_up _ _ (by decide) (Or.inr (Or.inr (nd48 (by decide) (by omega)))))
    · exact ag_addL i σ n (by omega)
theorem ag_readyC {i : Nat} (fy : Nat) (σ : aS) {fr : Nat} (hfr : fr < 4) (v : Nat) {q : Nat} (hq : q < 48) : a_ag i σ (a_readyC fy σ fr i v (48 * i + q)) := by
  have h1 := ag_up (i := i) (f := 13) (x := 4 * (48 * i + q) + fr) σ v (by decide) (Or.inr (Or.inr (nd192 (Or.inr rfl) hq hfr)))
  unfold a_readyC
  split
  · split
    · exact ag_t (ag_t (ag_t h1 (ag_ready fy _ v hq)) (ag_up _ _ (by decide) (Or.inr (Or.inr (nd48 (by decide) hq))))) (ag_addL i _ 48 (Nat.le_refl _))
    · split
      · exact ag_t h1 (ag_ready fy _ v hq)
      · exact h1
  · exact ag_r _ _
/-! the votes -/
theorem a_V_eq {σ τ : aS} (h : a_V σ) (h7 : ∀ j, ¬ σ.1 7 j = 0 → ¬ τ.1 7 j = 0) (h8 : ∀ j, ¬ σ.1 8 j = 0 → ¬ τ.1 8 j = 0) (h12 : ∀ j, τ.1 12 j = σ.1 12 j) (h13 : ∀ j, τ.1 13 j = σ.1 13 j) : a_V τ := by
  have e12 : τ.1 12 = σ.1 12 := funext h12
  have e13 : τ.1 13 = σ.1 13 := funext h13
  intro n q v hn hq hv
  rw [e12, e13]
  obtain ⟨a, b, c⟩ := h n q v hn hq hv
  exact ⟨fun x => h7 _ (a x), fun x => h7 _ (b x), fun x => h8 _ (c x)⟩
theorem a_V_kp {σ τ : aS} {fs : Nat → Prop} (h : a_V σ) (hk : a_kp fs σ τ) (hf : ¬ fs 7 ∧ ¬ fs 8 ∧ ¬ fs 12 ∧ ¬ fs 13) : a_V τ :=
  a_V_eq h (fun j hj => by rw [hk.1 7 j hf.1]; exact hj) (fun j hj => by rw [hk.1 8 j hf.2.1]; exact hj) (fun j => hk.1 12 j hf.2.2.1) (fun j => hk.1 13 j hf.2.2.2)
theorem a_ready_7 (fy : Nat) (σ : aS) (to v at_ : Nat) : ¬ (a_ready fy σ to v at_).1 7 at_ = 0 := by
  unfold a_ready
  split
  · rw [(a_cast_kp _ _ _ _ _ 4).1.1 7 _ (by unfold a_S; decide), a_up_s]
    decide
  · rename_i h
    exact h
theorem a_ready_7m (fy : Nat) (σ : aS) (to v at_ j : Nat) (h : ¬ σ.1 7 j = 0) : ¬ (a_ready fy σ to v at_).1 7 j = 0 := by
  unfold a_ready
  split
  · rw [(a_cast_kp _ _ _ _ _ 4).1.1 7 _ (by unfold a_S; decide), a_up_at]
    split
    · decide
    · exact h
  · exact h
theorem a_noted_eq {f g : Nat → Nat} {at_ v : Nat} : ∀ {k : Nat}, (∀ s, s < k → (f (4 * at_ + s) = v ↔ g (4 * at_ + s) = v)) → a_noted f at_ v k = a_noted g at_ v k
  | 0, _ => rfl
  | k + 1, h => by
    rw [a_noted, a_noted, a_noted_eq (fun s hs => h s (by omega))]
    congr 1
    by_cases e : f (4 * at_ + k) = v
    · rw [if_pos e, if_pos ((h k (by omega)).mp e)]
    · rw [if_neg e, if_neg (fun x => e ((h k (by omega)).mpr x))]
/-- a new vote changes no other count -/
theorem a_noted_up {σ : aS} {f at_ fr v a' v' : Nat} (hfr : fr < 4) (h0 : σ.1 f (4 * at_ + fr) = 0) (hv' : 1 ≤ v') (hne : a' ≠ at_ ∨ v' ≠ v) : a_noted ((a_up σ f (4 * at_ + fr) v).1 f) a' v' 4 = a_noted (σ.1 f) a' v' 4 := by
  refine a_noted_eq (fun s hs => ?_)
  rw [a_up_at]
  by_cases e : 4 * a' + s = 4 * at_ + fr
  · rw [if_pos ⟨rfl, e⟩]
    have hea : a' = at_ := by omega
    rcases hne with hne | hne
    · exact absurd hea hne
    · rw [e, h0]
      constructor
      · intro h; exact absurd h.symm hne
      · intro h; omega
  · rw [if_neg (fun h => e h.2)]
theorem a_V_echoC {σ : aS} (h : a_V σ) (fy : Nat) {fr to v at_ : Nat} (hfr : fr < 4) : a_V (a_echoC fy σ fr to v at_) := by
  unfold a_echoC
  split
  · rename_i h0
    have P : ∀ τ : aS, a_kp (fun f => f = 0 ∨ f = 5 ∨ f = 7) (a_up σ 12 (4 * at_ + fr) v) τ → (∀ j, ¬ σ.1 7 j = 0 → ¬ τ.1 7 j = 0) → (3 ≤ a_noted ((a_up σ 12 (4 * at_ + fr) v).1 12) at_ v 4 → ¬ τ.1 7 at_ = 0) → a_V τ := by
      intro τ hk h7 h3 n q v' hn hq hv'
      have e12 : τ.1 12 = (a_up σ 12 (4 * at_ + fr) v).1 12 := funext (fun j => hk.1 12 j (by decide))
      have e13 : τ.1 13 = σ.1 13 := funext (fun j => (hk.1 13 j (by decide)).trans (a_up_f _ _ _ _ (by decide)))
      have e8 : τ.1 8 (48 * n + q) = σ.1 8 (48 * n + q) := (hk.1 8 _ (by decide)).trans (a_up_f _ _ _ _ (by decide))
      obtain ⟨a, b, c⟩ := h n q v' hn hq hv'
      rw [e12, e13, e8]
      refine ⟨fun hx => ?_, fun x => h7 _ (b x), c⟩
      by_cases e : 48 * n + q = at_ ∧ v' = v
      · obtain ⟨ea, ev⟩ := e
        rw [ea, ev] at hx
        rw [ea]
        exact h3 hx
      · rw [a_noted_up hfr h0 hv' (by omega)] at hx
        exact h7 _ (a hx)
    split
    · exact P _ (a_ready_kp _ _ _ _ _) (fun j hj => a_ready_7m _ _ _ _ _ j hj) (fun _ => a_ready_7 _ _ _ _ _)
    · rename_i h3
      exact P _ (a_kp_r _ _) (fun j hj => hj) (fun h => absurd h h3)
  · exact h
theorem a_V_readyC {σ : aS} (h : a_V σ) (fy : Nat) {fr to v at_ : Nat} (hfr : fr < 4) (hv : 1 ≤ v) : a_V (a_readyC fy σ fr to v at_) := by
  unfold a_readyC
  split
  · rename_i h0
    have P : ∀ τ : aS, a_kp (fun f => f = 0 ∨ f = 5 ∨ f = 7 ∨ f = 8 ∨ f = 9) (a_up σ 13 (4 * at_ + fr) v) τ → (∀ j, ¬ σ.1 7 j = 0 → ¬ τ.1 7 j = 0) → (∀ j, ¬ σ.1 8 j = 0 → ¬ τ.1 8 j = 0) → (2 ≤ a_noted ((a_up σ 13 (4 * at_ + fr) v).1 13) at_ v 4 → ¬ τ.1 7 at_ = 0) → (3 ≤ a_noted ((a_up σ 13 (4 * at_ + fr) v).1 13) at_ v 4 → ¬ τ.1 8 at_ = 0) → a_V τ := by
      intro τ hk h7 h8 h2 h3 n q v' hn hq hv'
      have e13 : τ.1 13 = (a_up σ 13 (4 * at_ + fr) v).1 13 := funext (fun j => hk.1 13 j (by decide))
      have e12 : τ.1 12 = σ.1 12 := funext (fun j => (hk.1 12 j (by decide)).trans (a_up_f _ _ _ _ (by decide)))
      obtain ⟨a, b, c⟩ := h n q v' hn hq hv'
      rw [e12, e13]
      refine ⟨fun x => h7 _ (a x), fun hx => ?_, fun hx => ?_⟩
      · by_cases e : 48 * n + q = at_ ∧ v' = v
        · obtain ⟨ea, ev⟩ := e
          rw [ea, ev] at hx
          rw [ea]
          exact h2 hx
        · rw [a_noted_up hfr h0 hv' (by omega)] at hx
          exact h7 _ (b hx)
      · by_cases e : 48 * n + q = at_ ∧ v' = v
        · obtain ⟨ea, ev⟩ := e
          rw [ea, ev] at hx
          rw [ea]
          exact h3 hx
        · rw [a_noted_up hfr h0 hv' (by omega)] at hx
          exact h8 _ (c hx)
    have k3 : ∀ τ : aS, a_kp (fun f => f = 0 ∨ f = 5 ∨ f = 7) (a_up σ 13 (4 * at_ + fr) v) τ → a_kp (fun f => f = 0 ∨ f = 5 ∨ f = 7 ∨ f = 8 ∨ f = 9) (a_up σ 13 (4 * at_ + fr) v) τ := fun τ hk => a_kp_w hk (fun f hf => by omega)
    split
    · rename_i h3
      have kp9 := a_add_kp to (a_up (a_ready fy (a_up σ 13 (4 * at_ + fr) v) to v at_) 8 at_ v) 48
      refine P _ (a_kp_t (a_kp_t (k3 _ (a_ready_kp _ _ _ _ _)) (a_kp_u (fs := fun f => f = 0 ∨ f = 5 ∨ f = 7 ∨ f = 8 ∨ f = 9) (f := 8) (by decide) _ _ _)) (a_kp_w kp9 (fun f hf => by omega))) (fun j hj => ?_) (fun j hj => ?_) (fun _ => ?_) (fun _ => ?_)
      · rw [a_add, kp9.1 7 j (by decide), a_up_f _ _ _ _ (by decide)]
        exact a_ready_7m _ _ _ _ _ j hj
      · rw [a_add, kp9.1 8 j (by decide), a_up_at]
        split
        · omega
        · rw [a_ready_8]
          exact hj
      · rw [a_add, kp9.1 7 _ (by decide), a_up_f _ _ _ _ (by decide)]
        exact a_ready_7 _ _ _ _ _
      · rw [a_add, kp9.1 8 _ (by decide), a_up_s]
        omega
    · rename_i h3
      have h3' : 3 ≤ a_noted ((a_up σ 13 (4 * at_ + fr) v).1 13) at_ v 4 → ¬ σ.1 8 at_ = 0 := fun x y => h3 ⟨x, y⟩
      split
      · exact P _ (k3 _ (a_ready_kp _ _ _ _ _)) (fun j hj => a_ready_7m _ _ _ _ _ j hj) (fun j hj => by rw [a_ready_8]; exact hj) (fun _ => a_ready_7 _ _ _ _ _) (fun x => by rw [a_ready_8]; exact h3' x)
      · rename_i h2
        exact P _ (a_kp_r _ _) (fun j hj => hj) (fun j hj => hj) (fun x => absurd x h2) h3'
  · exact h
