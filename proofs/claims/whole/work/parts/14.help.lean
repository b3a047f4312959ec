/-! small facts for the walks -/
theorem rg_of {x : Int32} {n : Nat} (hn : n < 2 ^ 31) (h0 : ¬ x < 0) (h1 : x < nI n) : ∃ j : Nat, j < n ∧ x = nI j := by
  obtain ⟨j, hj, rfl⟩ := nI_of h0
  exact ⟨j, (nI_ltI hj hn).mp h1, rfl⟩
/-- an int in a range -/
def rg_in (x a b : Int32) : Prop := ¬ x < a ∧ x ≤ b
def rg_b (b : Bool) : Int32 := if b then 1 else 0
theorem rg_b01 (b : Bool) : rg_b b = 0 ∨ rg_b b = 1 := by cases b <;> simp [rg_b]
/-- no such number of n -/
def rg_out (x : Int32) (n : Nat) : Prop := x < 0 ∨ ¬ x < nI n
theorem rg_out_no {j n : Nat} (hj : j < n) (hn : n < 2 ^ 31) : ¬ rg_out (nI j) n := fun h => by
  rcases h with h | h
  · exact nI_pos (by omega) h
  · exact h (nI_lt hj hn)
theorem rg_b0 {b : Bool} : rg_b b = 0 ↔ b = false := by cases b <;> simp [rg_b]
theorem rg_b1 {b : Bool} : rg_b b = 1 ↔ b = true := by cases b <;> simp [rg_b]
/-- the class's own words: the rest of a division as floorMod has it; whether a day has come; too soon; due -/
def t_fm (x b : Int32) : Int32 := if (x ^^^ b) < 0 ∧ ¬ x - x / b * b = 0 then x - x / b * b + b else x - x / b * b
def t_come (w lt d n : Int32) : Bool := decide (¬ w = -1 ∧ lt + 1 + t_fm (w - (lt + 1)) n ≤ d)
def t_soon (et lt d le : Int32) : Bool := decide (¬ et = 0 ∧ d - lt < le)
def t_due (n sz wd mo le et lt d : Int32) : Bool := decide (¬ n = 0) && !(t_soon et lt d le) && ((decide (¬ sz = 0) && decide (sz ≤ n)) || t_come wd lt d 7 || t_come mo lt d 30)
