/-! small facts for the walks -/
theorem rg_of {x : Int32} {n : Nat} (hn : n < 2 ^ 31) (h0 : ¬ x < 0) (h1 : x < nI n) : ∃ j : Nat, j < n ∧ x = nI j := by
  obtain ⟨j, hj, rfl⟩ := nI_of h0
  exact ⟨j, (nI_ltI hj hn).mp h1, rfl⟩
/-- an int in a range -/
def rg_in (x a b : Int32) : Prop := ¬ x < a ∧ x ≤ b
def rg_b (b : Bool) : Int32 := if b then 1 else 0
theorem rg_b01 (b : Bool) : rg_b b = 0 ∨ rg_b b = 1 := by cases b <;> simp [rg_b]
/-- no such number of n -/
def rg_out (x : Int32) (n : Nat) : Prop := x < 0 ∨ ¬ x < nI n
theorem rg_out_no {j n : Nat} (hj : j < n) (hn : n < 2 ^ 31) : ¬ rg_out (nI j) n := fun h => by
  rcases h with h | h
  · exact nI_pos (by omega) h
  · exact h (nI_lt hj hn)
theorem rg_b0 {b : Bool} : rg_b b = 0 ↔ b = false := by cases b <;> simp [rg_b]
theorem rg_b1 {b : Bool} : rg_b b = 1 ↔ b = true := by cases b <;> simp [rg_b]
/-- the class's own words: the rest of a division as floorMod has it; whether a day has come; too soon; due -/
def t_fm (x b : Int32) : Int32 := if (x ^^^ b) < 0 ∧ ¬ x - x / b * b = 0 then x - x / b * b + b else x - x / b * b
def t_come (w lt d n : Int32) : Bool := decide (¬ w = -1 ∧ lt + 1 + t_fm (w - (lt + 1)) n ≤ d)
def t_soon (et lt d le : Int32) : Bool := decide (¬ et = 0 ∧ d - lt < le)
def t_due (n sz wd mo le et lt d : Int32) : Bool := decide (¬ n = 0) && !(t_soon et lt d le) && ((decide (¬ sz = 0) && decide (sz ≤ n)) || t_come wd lt d 7 || t_come mo lt d 30)
theorem gk_uu (G : gk_G) (a : Nat) (e1 e2 : va_E) : gk_up (gk_up G a e1) a e2 = gk_up G a e2 := by
  funext q
  simp only [gk_up]
  split <;> rfl
theorem gl_mm (a b : Nat) (h : a < 2 ^ 31) (hb : b < 2 ^ 31) : (if nI a < nI b then nI b else nI a) = nI (max a b) := by
  by_cases c : a < b
  · rw [if_pos (nI_lt c hb), Nat.max_eq_right (by omega)]
  · rw [if_neg (nI_nlt (by omega) h), Nat.max_eq_left (by omega)]
theorem gl_mn (a b : Nat) (h : a < 2 ^ 31) (hb : b < 2 ^ 31) : (if nI b < nI a then nI b else nI a) = nI (min a b) := by
  by_cases c : b < a
  · rw [if_pos (nI_lt c h), Nat.min_eq_right (by omega)]
  · rw [if_neg (nI_nlt (by omega) hb), Nat.min_eq_left (by omega)]
/-- an object Part -/
def gl_pt (G : gk_G) (t : Nat) : Prop := ∃ vs, G t = some (.inr (3, vs))
theorem gl_asg {y : ly_T} {A : Nat → Prop} {s : State} (hV : gk_V y A s) : ∀ comp c0 : ClassId, s.vm.findClass "java/lang/Object" = some comp → s.vm.findClass RX2 = some c0 → s.vm.assignable c0 comp = true := fun comp c0 h1 h2 => by
  obtain ⟨c, t, a1, a2, a3⟩ := Cond.castable_spec (args := #[]) (first := s) (s := s) (o := none) (idx := []) hV.2.2.1.2.2.2.1.2.2.2
  rw [h1] at a2
  rw [h2] at a1
  cases a1
  cases a2
  exact a3
theorem x_idx {row : List Nat} (hn : row.Nodup) {j k t : Nat} (hj : row[j]? = some t) (hk : row[k]? = some t) : j = k := by
  obtain ⟨h1, e1⟩ := List.getElem?_eq_some_iff.mp hj
  obtain ⟨h2, e2⟩ := List.getElem?_eq_some_iff.mp hk
  have pw := List.pairwise_iff_getElem.mp hn
  rcases Nat.lt_trichotomy j k with h | h | h
  · exact absurd (e1.trans e2.symm) (pw j k h1 h2 h)
  · exact h
  · exact absurd (e2.trans e1.symm) (pw k j h2 h1 h)
