/-! THE LEDGER AS NUMBERS: what the reference's cells hold, and what each of its methods does to them. Field f of the reference is σ.1 f (0: its own numbers, by their slots: 0 refusal, 4 begun, 5 vertices, 10 forged, 12 many); the weak places of a vertex σ.2.1; what was drawn σ.2.2. -/
abbrev aS : Type := (Nat → Nat → Nat) × (Nat → Int64) × Int32
def a_up (σ : aS) (f j x : Nat) : aS := (fun f' j' => if f' = f ∧ j' = j then x else σ.1 f' j', σ.2)
def a_wk (σ : aS) (j : Nat) (x : Int64) : aS := (σ.1, fun i => if i = j then x else σ.2.1 i, σ.2.2)
def a_dr (σ : aS) (x : Int32) : aS := (σ.1, σ.2.1, x)
theorem a_up_at (σ : aS) (f j x f' j' : Nat) : (a_up σ f j x).1 f' j' = if f' = f ∧ j' = j then x else σ.1 f' j' := rfl
theorem a_up_s (σ : aS) (f j x : Nat) : (a_up σ f j x).1 f j = x := by simp [a_up]
theorem a_up_f (σ : aS) {f f' : Nat} (j x j' : Nat) (h : f' ≠ f) : (a_up σ f j x).1 f' j' = σ.1 f' j' := by simp [a_up, h]
theorem a_up_j (σ : aS) (f f' : Nat) {j j' : Nat} (x : Nat) (h : j' ≠ j) : (a_up σ f j x).1 f' j' = σ.1 f' j' := by simp [a_up, h]
theorem a_up_2 (σ : aS) (f j x : Nat) : (a_up σ f j x).2 = σ.2 := rfl
def a_msg (kind fr to v : Nat) : Nat := ((kind * 4 + fr) * 4 + to) * 80 + v
def a_send (fy : Nat) (σ : aS) (kind fr to v : Nat) : aS := if to = fy then σ else a_up (a_up σ 5 (σ.1 0 12) (a_msg kind fr to v)) 0 12 (σ.1 0 12 + 1)
def a_cast (fy kind fr v : Nat) : Nat → aS → aS
  | 0, σ => σ
  | k + 1, σ => a_send fy (a_cast fy kind fr v k σ) kind fr k v
def a_sendC (fy : Nat) (σ : aS) (fr to v at_ : Nat) : aS := if fr = σ.1 1 v % 4 ∧ σ.1 6 at_ = 0 then a_cast fy 1 to v 4 (a_up σ 6 at_ 1) else σ
def a_noted (f : Nat → Nat) (at_ v : Nat) : Nat → Nat
  | 0 => 0
  | k + 1 => a_noted f at_ v k + (if f (4 * at_ + k) = v then 1 else 0)
def a_ready (fy : Nat) (σ : aS) (to v at_ : Nat) : aS := if σ.1 7 at_ = 0 then a_cast fy 2 to v 4 (a_up σ 7 at_ 1) else σ
def a_echoC (fy : Nat) (σ : aS) (fr to v at_ : Nat) : aS := if σ.1 12 (4 * at_ + fr) = 0 then (if 3 ≤ a_noted ((a_up σ 12 (4 * at_ + fr) v).1 12) at_ v 4 then a_ready fy (a_up σ 12 (4 * at_ + fr) v) to v at_ else a_up σ 12 (4 * at_ + fr) v) else σ
def a_graphN (σ : aS) (node : Nat) : Nat → Int64
  | 0 => 0
  | q + 1 => if σ.1 9 (48 * node + q) = 0 then a_graphN σ node q else a_graphN σ node q ||| lN (2 ^ q)
def a_right (σ : aS) (v : Nat) : Bool := ve_right (σ.1 1 v) (σ.1 2 v) (σ.2.1 v)
def a_points (σ : aS) (v : Nat) (so : Bool) : Int64 := if so = true then ve_down (σ.1 1 v) (σ.1 2 v) else ve_down (σ.1 1 v) (σ.1 2 v) ||| σ.2.1 v
/-- the place q may be added to the node's graph, of which g is known -/
def a_can (σ : aS) (node : Nat) (g : Int64) (q : Nat) : Prop := 0 < σ.1 8 (48 * node + q) ∧ σ.1 9 (48 * node + q) = 0 ∧ a_right σ (σ.1 8 (48 * node + q)) = true ∧ a_points σ (σ.1 8 (48 * node + q)) false &&& (g ^^^ (-1)) = 0
def a_below (σ : aS) (node : Nat) (so : Bool) : Nat → Int64 → Int64
  | 0, x => x
  | q + 1, x => a_below σ node so q (if lb x q = true ∧ 0 < σ.1 8 (48 * node + q) then x ||| a_points σ (σ.1 8 (48 * node + q)) so else x)
def a_inR (σ : aS) (node r : Nat) : Nat → Nat
  | 0 => 0
  | k + 1 => a_inR σ node r k + (if σ.1 9 (48 * node + 4 * (r - 1) + k) = 0 then 0 else 2 ^ k)
def a_lead (cn : Int32) (w : Nat) : Nat := 16 * (w - 1) + cn.toBitVec.toNat / 2 ^ (2 * (w - 1)) % 4
