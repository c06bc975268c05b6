/-! the law's loop -/
theorem sub6 {L i : Nat} (hL : L < 2 ^ 31) (hi : i < 2 ^ 31) : nI L - nI 6 < nI i ↔ L < i + 6 := by
  rw [Int32.lt_iff_toInt_lt, Int32.toInt_sub, nI_toInt hL, nI_toInt hi, nI_toInt (by decide : 6 < 2 ^ 31)]
  unfold Int.bmod
  dsimp only
  split <;> omega
theorem and15 (x : Int32) : ∃ v, v < 16 ∧ x &&& nI 15 = nI v := by
  refine ⟨x.toBitVec.toNat % 16, Nat.mod_lt _ (by decide), ?_⟩
  apply Int32.toBitVec_inj.mp
  apply BitVec.eq_of_toNat_eq
  rw [Int32.toBitVec_and, BitVec.toNat_and]
  show x.toBitVec.toNat &&& 15 = (BitVec.ofNat 32 (x.toBitVec.toNat % 16)).toNat
  rw [BitVec.toNat_ofNat, show 15 = 2 ^ 4 - 1 from rfl, Nat.and_two_pow_sub_one_eq_mod]
  have := x.toBitVec.isLt
  omega
set_option maxHeartbeats 4000000 in
set_option maxRecDepth 100000 in
theorem law_loop {p : Program} {l : Launch} {e : Env} {s : State} {m : MethodId} {args : Array Value} {below : List Frame} {meth : Method} {c : Code} {Q : State → Prop} {b0 : Cond} {D : va_G} {cA : Nat → ClassId} {A : Nat → Prop} {ad : Nat → Nat} {b L : Nat} {xs : Nat → Int32} {cn fv : Int32} {fy : Nat} (htr : l.stackTraces = false) (C : mw_C p m c s args code 7 "WaveLedgerLaw" b0 lw_tbl D vCl cA A ad 92 true) (hX : va_X b L xs s s.heap) (hbl : b < s.heap.size) (hbA : ¬ A b) (hkb : ad 1000 = b) (hLN : L ≤ 3075) (hZ : mh_X s.heap.size s) (hA : ∀ q, A q → s.heap.size ≤ q) (hfy : fyR fv fy) {c0 s0 : Nat} (hc0 : c0 + 513 ≤ room_1.cells) (hs0 : s0 + 3078 ≤ room_1.slots)
    (fin : ∀ (t : Nat) (S : mw_S), t ≤ 513 → mw p l e room_1 s m args below meth c Q (c0 + t) (s0 + 6 * t) D vCl cA A ad sh_La 92 7 739 (lLV t) [] S) : ∀ (d t : Nat), t + d = 513 → ∀ (σ : aS) (S : mw_S), cR cn fy σ (mw_rs S ixW) → mR cn fv σ (mw_rs S ixM) → aJ fy (1728 + t) σ → mw p l e room_1 s m args below meth c Q (c0 + t) (s0 + 6 * t) D vCl cA A ad sh_La 92 7 53 (lLV t) [] S := by
  have hL : L < 2 ^ 31 := by omega
  intro d
  induction d with
  | zero =>
    intro t ht σ S hw hm hJ
    refine mw_iload C d_La_law_53 rfl ?_
    refine mw_aload_n C 0 d_La_law_55 rfl rfl ?_
    refine mw_slen C hX hbl hbA hkb d_La_law_56 ?_
    refine mw_bipush C (v := nI 6) d_La_law_57 (by decide) ?_
    refine mw_isub C d_La_law_59 ?_
    refine mw_icmp_gt C 739 d_La_law_60 (by decide) (fun _ => fin t S (by omega)) (fun h9 => absurd ((sub6 hL (by omega)).mpr (by omega)) h9)
  | succ d ih =>
    intro t ht σ S hw hm hJ
    refine mw_iload C d_La_law_53 rfl ?_
    refine mw_aload_n C 0 d_La_law_55 rfl rfl ?_
    refine mw_slen C hX hbl hbA hkb d_La_law_56 ?_
    refine mw_bipush C (v := nI 6) d_La_law_57 (by decide) ?_
    refine mw_isub C d_La_law_59 ?_
    refine mw_icmp_gt C 739 d_La_law_60 (by decide) (fun _ => fin t S (by omega)) (fun h9 => ?_)
    have hi : 3 + 6 * t + 6 ≤ L := Nat.le_of_not_lt (fun q => h9 ((sub6 hL (by omega)).mpr q))
    have hc : c0 + t + 1 ≤ room_1.cells ∧ s0 + 6 * t + 6 ≤ room_1.slots := ⟨by omega, by omega⟩
    have next : ∀ (τ : aS) (S' : mw_S), cR cn fy τ (mw_rs S' ixW) → mR cn fv τ (mw_rs S' ixM) → aJ fy (1728 + t + 1) τ → mw p l e room_1 s m args below meth c Q (c0 + t + 1) (s0 + 6 * t + 6) D vCl cA A ad sh_La 92 7 733 (lLV t) [] S' := by
      intro τ S' h1 h2 h3
      refine mw_iinc C (v := nI (3 + 6 * (t + 1))) d_La_law_733 rfl (by rw [show (Int32.ofInt 6) = nI 6 from by decide, nI_add, show 3 + 6 * t + 6 = 3 + 6 * (t + 1) from by omega]) (by decide) ?_
      refine mw_goto C 53 d_La_law_736 (by decide) ?_
      refine mw_to (lLV (t + 1)) (by exact And.intro rfl (And.intro rfl (And.intro rfl (And.intro rfl (And.intro rfl trivial))))) ?_
      have h9 := ih (t + 1) (by omega) τ S' h1 h2 h3
      rw [show c0 + (t + 1) = c0 + t + 1 from rfl, show s0 + 6 * (t + 1) = s0 + 6 * t + 6 from by omega] at h9
      exact h9
    refine mw_aload_n C 0 d_La_law_63 rfl rfl ?_
    refine mw_iload C d_La_law_64 rfl ?_
    refine mw_sld C hX hbl hbA hkb (by omega) hL d_La_law_66 ?_
    refine mw_bipush C (v := nI 15) d_La_law_67 (by decide) ?_
    refine mw_iand C d_La_law_69 ?_
    refine mw_topi (fun y hy => ?_)
    obtain ⟨v, hv, ev⟩ := and15 (xs (3 + 6 * t))
    rw [ev] at hy
    subst hy
    have h16 : v = 0 ∨ v = 1 ∨ v = 2 ∨ v = 3 ∨ v = 4 ∨ v = 5 ∨ v = 6 ∨ v = 7 ∨ v = 8 ∨ v = 9 ∨ v = 10 ∨ v = 11 ∨ v = 12 ∨ v = 13 ∨ v = 14 ∨ v = 15 := by omega
    rcases h16 with rfl | rfl | rfl | rfl | rfl | rfl | rfl | rfl | rfl | rfl | rfl | rfl | rfl | rfl | rfl | rfl
    · refine mw_tableIn C 132 d_La_law_70 (by decide) (by decide) (off := 62) (by decide) (by decide) ?_
      obtain ⟨kk, z, τ, pH, pM, h1, h2, h3, h4, h5, h6, h7⟩ := mt_transfer l htr D cA s.heap.size (lH hw) hfy hJ (by omega) (xs (3 + 6 * t + 1)) (xs (3 + 6 * t + 2)) (xs (3 + 6 * t + 3)) (xs (3 + 6 * t + 4))
      exact law_transfer C hX hbl hbA hkb hi hL hc hZ hA hm h1 h2 h4 h5 h6 h7 (fun S' q1 q2 => next τ S' q1 q2 h3)
    · refine mw_tableIn C 224 d_La_law_70 (by decide) (by decide) (off := 154) (by decide) (by decide) ?_
      obtain ⟨z, τ, pW, pM, h3, h4, h5, h6, h7⟩ := mt_begin l D cA hw hfy hJ (by omega) 
      exact law_begin C hX hbl hbA hkb hi hL hc hm h4 h5 h6 h7 (fun S' q1 q2 => next τ S' q1 q2 h3)
    · refine mw_tableIn C 237 d_La_law_70 (by decide) (by decide) (off := 167) (by decide) (by decide) ?_
      obtain ⟨kk, z, τ, pH, pM, h1, h2, h3, h4, h5, h6, h7⟩ := mt_run l htr D cA s.heap.size (lH hw) hfy hJ (by omega) (xs (3 + 6 * t + 1))
      exact law_run C hX hbl hbA hkb hi hL hc hZ hA hm h1 h2 h4 h5 h6 h7 (fun S' q1 q2 => next τ S' q1 q2 h3)
    · refine mw_tableIn C 293 d_La_law_70 (by decide) (by decide) (off := 223) (by decide) (by decide) ?_
      obtain ⟨z, τ, pW, pM, h3, h4, h5, h6, h7⟩ := mt_deliver l D cA hw hfy hJ (by omega) (xs (3 + 6 * t + 1))
      exact law_deliver C hX hbl hbA hkb hi hL hc hm h4 h5 h6 h7 (fun S' q1 q2 => next τ S' q1 q2 h3)
    · refine mw_tableIn C 318 d_La_law_70 (by decide) (by decide) (off := 248) (by decide) (by decide) ?_
      obtain ⟨kk, z, τ, pH, pM, h1, h2, h3, h4, h5, h6, h7⟩ := mt_forge l htr D cA s.heap.size (lH hw) hfy hJ (by omega) (xs (3 + 6 * t + 1)) (xs (3 + 6 * t + 2)) (x3w (xs (3 + 6 * t + 3)) (xs (3 + 6 * t + 4))) (xs (3 + 6 * t + 5))
      exact law_forge C hX hbl hbA hkb hi hL hc hZ hA hm h1 h2 h4 h5 h6 h7 (fun S' q1 q2 => next τ S' q1 q2 h3)
    · refine mw_tableIn C 442 d_La_law_70 (by decide) (by decide) (off := 372) (by decide) (by decide) ?_
      obtain ⟨kk, z, τ, pH, pM, h1, h2, h3, h4, h5, h6, h7⟩ := mt_whisper l htr D cA s.heap.size (lH hw) hfy hJ (by omega) (xs (3 + 6 * t + 1)) (xs (3 + 6 * t + 2)) (xs (3 + 6 * t + 3))
      exact law_whisper C hX hbl hbA hkb hi hL hc hZ hA hm h1 h2 h4 h5 h6 h7 (fun S' q1 q2 => next τ S' q1 q2 h3)
    · refine mw_tableIn C 522 d_La_law_70 (by decide) (by decide) (off := 452) (by decide) (by decide) ?_
      obtain ⟨z, τ, pW, pM, h3, h4, h5, h8, h6, h7⟩ := mt_message l D cA hw hfy hJ (by omega) (xs (3 + 6 * t + 1)) (xs (3 + 6 * t + 2))
      exact law_message C hX hbl hbA hkb hi hL hc hm h8 h4 h5 h6 h7 (fun S' q1 q2 => next τ S' q1 q2 h3)
    · refine mw_tableIn C 559 d_La_law_70 (by decide) (by decide) (off := 489) (by decide) (by decide) ?_
      obtain ⟨z, τ, pW, pM, h3, h4, h5, h8, h6, h7⟩ := mt_vertex l D cA hw hfy hJ (by omega) (xs (3 + 6 * t + 1)) (xs (3 + 6 * t + 2))
      exact law_vertex C hX hbl hbA hkb hi hL hc hm h8 h4 h5 h6 h7 (fun S' q1 q2 => next τ S' q1 q2 h3)
    · refine mw_tableIn C 596 d_La_law_70 (by decide) (by decide) (off := 526) (by decide) (by decide) ?_
      obtain ⟨z, τ, pW, pM, h3, h4, h5, h8, h6, h7⟩ := mt_weak l D cA hw hfy hJ (by omega) (xs (3 + 6 * t + 1))
      exact law_weak C hX hbl hbA hkb hi hL hc hm h8 h4 h5 h6 h7 (fun S' q1 q2 => next τ S' q1 q2 h3)
    · refine mw_tableIn C 622 d_La_law_70 (by decide) (by decide) (off := 552) (by decide) (by decide) ?_
      obtain ⟨z, τ, pW, pM, h3, h4, h5, h8, h6, h7⟩ := mt_node l D cA hw hfy hJ (by omega) (xs (3 + 6 * t + 1)) (xs (3 + 6 * t + 2))
      exact law_node C hX hbl hbA hkb hi hL hc hm h8 h4 h5 h6 h7 (fun S' q1 q2 => next τ S' q1 q2 h3)
    · refine mw_tableIn C 659 d_La_law_70 (by decide) (by decide) (off := 589) (by decide) (by decide) ?_
      obtain ⟨z, τ, pW, pM, h3, h4, h5, h8, h6, h7⟩ := mt_graph l D cA hw hfy hJ (by omega) (xs (3 + 6 * t + 1)) (xs (3 + 6 * t + 2))
      exact law_graph C hX hbl hbA hkb hi hL hc hm h8 h4 h5 h6 h7 (fun S' q1 q2 => next τ S' q1 q2 h3)
    · refine mw_tableIn C 696 d_La_law_70 (by decide) (by decide) (off := 626) (by decide) (by decide) ?_
      obtain ⟨z, τ, pW, pM, h3, h4, h5, h8, h6, h7⟩ := mt_ordered l D cA hw hfy hJ (by omega) (xs (3 + 6 * t + 1)) (xs (3 + 6 * t + 2))
      exact law_ordered C hX hbl hbA hkb hi hL hc hm h8 h4 h5 h6 h7 (fun S' q1 q2 => next τ S' q1 q2 h3)
    · refine mw_tableOut C 733 d_La_law_70 (Or.inr (by decide)) (by decide) ?_
      refine mw_widen (Nat.le_succ _) (Nat.le_add_right _ 6) ?_
      exact next σ S hw hm (aJ_le hJ (Nat.le_succ _))
    · refine mw_tableOut C 733 d_La_law_70 (Or.inr (by decide)) (by decide) ?_
      refine mw_widen (Nat.le_succ _) (Nat.le_add_right _ 6) ?_
      exact next σ S hw hm (aJ_le hJ (Nat.le_succ _))
    · refine mw_tableOut C 733 d_La_law_70 (Or.inr (by decide)) (by decide) ?_
      refine mw_widen (Nat.le_succ _) (Nat.le_add_right _ 6) ?_
      exact next σ S hw hm (aJ_le hJ (Nat.le_succ _))
    · refine mw_tableOut C 733 d_La_law_70 (Or.inr (by decide)) (by decide) ?_
      refine mw_widen (Nat.le_succ _) (Nat.le_add_right _ 6) ?_
      exact next σ S hw hm (aJ_le hJ (Nat.le_succ _))
