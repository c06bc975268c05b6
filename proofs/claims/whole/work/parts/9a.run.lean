/-! the invariants over a run -/
theorem aJ_runL {fy B : Nat} (cn : Int32) : ∀ (n : Nat) {σ : aS}, aJ fy B σ → aJ fy B (a_runL cn fy n σ)
  | 0, _, h => h
  | n + 1, σ, h => by
    rw [a_runL]
    split
    · exact h
    · exact aJ_runL cn n (aJ_comes (aJ_dr h _) cn (Nat.mod_lt _ (by omega)))
theorem aJ_le {fy B B' : Nat} {σ : aS} (h : aJ fy B σ) (hb : B ≤ B') : aJ fy B' σ := ⟨h.1.le hb, h.2⟩
/-- the state at the start -/
def a_0 (seed : Int32) : aS := (fun f j => if f = 18 ∧ j < 16 then 100 else 0, fun _ => 0, seed)
theorem a_c0_all (g : Nat → Nat) (h : ∀ i, g i = 0) : ∀ n, a_c0 g n = n
  | 0 => rfl
  | n + 1 => by rw [a_c0, a_c0_all g h n, if_pos (h n)]
theorem a_0_0 (seed : Int32) {f : Nat} (hf : f ≠ 18) (j : Nat) : (a_0 seed).1 f j = 0 := if_neg (fun h => hf h.1)
theorem aJ_0 (fy : Nat) (seed : Int32) : aJ fy 1728 (a_0 seed) := by
  have z := fun f (hf : f ≠ 18) j => a_0_0 seed hf j
  have tk : a_tok 0 := ⟨by decide, by decide, by decide⟩
  have n0 : ∀ (g : Nat → Nat), (∀ i, g i = 0) → ∀ a v, 1 ≤ v → ∀ k, a_noted g a v k = 0 := by
    intro g hg a v hv k
    induction k with
    | zero => rfl
    | succ k ih => rw [a_noted, ih, hg, if_neg (by omega)]
  refine ⟨aI_mk (fun v => by rw [z 1 (by decide)]; decide) (fun v => by rw [z 2 (by decide)]; decide) (fun v => by rw [z 4 (by decide)]; exact tk) (fun v => by rw [z 19 (by decide)]; exact tk) (fun v => by rw [z 6 (by decide)]; decide) (fun v => by rw [z 7 (by decide)]; decide) (fun v => by rw [z 9 (by decide)]; decide) (fun v => by rw [z 10 (by decide)]; decide) (fun v => by rw [z 15 (by decide)]; decide) (fun n q hn hq => ⟨by rw [z 8 (by decide)]; exact Nat.zero_le _, fun h => absurd (z 8 (by decide) _) h⟩) (fun v => by rw [z 12 (by decide), z 13 (by decide)]; decide) (fun n hn => ?_) (fun v => by rw [z 14 (by decide)]; decide) (fun v => by rw [z 16 (by decide)]; decide) (fun n hn => by rw [z 17 (by decide), a_c0_all _ (fun i => z 10 (by decide) _)]) (fun v => by rw [z 20 (by decide)]; decide) (by rw [z 0 (by decide)]; decide) (by rw [z 0 (by decide)]; decide) (by rw [z 0 (by decide)]; exact Nat.zero_le _) ?_ (fun k hk => by rw [z 0 (by decide)] at hk; exact absurd hk (Nat.not_lt_zero _)), ?_, ?_⟩
  · have e : ∀ i, i < 4 → (a_0 seed).1 18 (4 * n + i) = 100 := fun i hi => if_pos ⟨rfl, by omega⟩
    rw [e 0 (by decide), e 1 (by decide), e 2 (by decide), e 3 (by decide)]
  · rw [z 0 (by decide), a_c0_all _ (fun i => z 6 (by decide) i), a_c0_all _ (fun i => z 7 (by decide) i)]
    omega
  · intro n q v hn hq hv
    rw [n0 _ (fun i => z 12 (by decide) i) _ _ hv, n0 _ (fun i => z 13 (by decide) i) _ _ hv]
    exact ⟨fun h => absurd h (by decide), fun h => absurd h (by decide), fun h => absurd h (by decide)⟩
  · intro n _ q _ h
    exact absurd (z 9 (by decide) _) h
