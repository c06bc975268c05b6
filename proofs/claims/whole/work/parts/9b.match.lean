/-! both sides let in the same -/
theorem wAct_iff {S : mw_S} {fy : Nat} {x : Int32} (h : S.1 0 0 = slv fy) : wAct S x ↔ wActM fy x := by
  constructor
  · rintro ⟨k, hk, rfl, hne⟩
    rw [h] at hne
    exact ⟨k, hk, rfl, fun e => hne ((slv_eq hk).mpr e)⟩
  · rintro ⟨k, hk, rfl, hne⟩
    refine ⟨k, hk, rfl, ?_⟩
    rw [h]
    exact fun e => hne ((slv_eq hk).mp e)
theorem tok_of {x : Int32} (h : tOK x) : ∃ t, x = nI t ∧ a_tok t := by
  rcases h with rfl | ⟨t, rfl, t1, t2, t3, t4⟩
  · exact ⟨0, rfl, by decide, by decide, by decide⟩
  · exact ⟨t, rfl, t2, t4, t3⟩
theorem tok_tr {a b c : Nat} (ha : a ≤ 99) (hb : b < 4) (hc : c < 4) : a_tok (1000 * a + 10 * b + c) := ⟨by omega, by omega, by omega⟩
theorem slv_no {fy : Nat} (h : fy ≤ 4) : slv fy = -1 ↔ fy = 4 := by
  unfold slv
  by_cases h4 : fy < 4
  · rw [if_pos h4]
    have hd : ∀ c, c < 4 → ¬ nI c = -1 := by decide
    exact ⟨fun e => absurd e (hd fy h4), fun e => by omega⟩
  · rw [if_neg h4]
    exact ⟨fun _ => by omega, fun _ => rfl⟩
