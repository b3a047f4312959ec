/-! PURE: days that come, places, names -/
theorem n_m1 {n : Nat} (h : n < 2 ^ 31) : ¬ nI n = -1 := fun q => by
  have := nI_toInt h
  rw [q, show (-1 : Int32).toInt = -1 from rfl] at this
  omega
theorem x_fm7 : ∀ i, i < 72 → ∀ j, j < 72 → t_fm (nI (72 * i + j) - 5040) 7 = nI ((72 * i + j) % 7) := by decide +kernel
theorem x_fm30 : ∀ i, i < 72 → ∀ j, j < 72 → t_fm (nI (72 * i + j) - 5040) 30 = nI ((72 * i + j) % 30) := by decide +kernel
theorem x_fm {n s : Nat} (hs : s = 7 ∨ s = 30) (hn : n < 5184) : t_fm (nI n - 5040) (nI s) = nI (n % s) := by
  have e : 72 * (n / 72) + n % 72 = n := Nat.div_add_mod n 72
  rcases hs with rfl | rfl
  · have := x_fm7 (n / 72) (by omega) (n % 72) (by omega)
    rw [e] at this
    exact this
  · have := x_fm30 (n / 72) (by omega) (n % 72) (by omega)
    rw [e] at this
    exact this
theorem x_rng {w : Int32} {s : Nat} (hs : 1 < s) (hs2 : s < 2 ^ 31) (h : rg_in w (-1) (nI (s - 1))) : w = -1 ∨ ∃ u, u < s ∧ w = nI u := by
  by_cases h0 : w < 0
  · left
    have h1 := h.1
    rw [Int32.lt_iff_toInt_lt] at h0 h1
    rw [← Int32.toInt_inj]
    rw [show (-1 : Int32).toInt = -1 from rfl] at h1 ⊢
    rw [show (0 : Int32).toInt = 0 from rfl] at h0
    omega
  · obtain ⟨j, hj, rfl⟩ := nI_of h0
    have := (nI_leI hj (by omega)).mp h.2
    exact Or.inr ⟨j, by omega, rfl⟩
theorem x_le0 {x : Int32} (h : ¬ x < 0) : x ≤ 0 ↔ x = 0 := by
  rw [Int32.le_iff_toInt_le, ← Int32.toInt_inj]
  rw [Int32.lt_iff_toInt_lt] at h
  rw [show (0 : Int32).toInt = 0 from rfl] at h ⊢
  omega
/-- the days that come: some day behind a, of the next thirty and not behind e, has the rest w -/
theorem d_come {s a e : Nat} {w : Int32} (hs : s = 7 ∨ s = 30) (ha : a ≤ 5000) (he : e ≤ 5300) (hw : rg_in w (-1) (nI (s - 1))) : t_come w (nI a) (nI e) (nI s) = true ↔ ∃ j, j < 30 ∧ a + 1 + j ≤ e ∧ nI ((a + 1 + j) % s) = w := by
  have hs0 : 0 < s := by omega
  have hs1 : s ≤ 30 := by omega
  have hd : 5040 % s = 0 := by rcases hs with rfl | rfl <;> decide
  rcases x_rng (by omega) (by omega) hw with rfl | ⟨u, hu, rfl⟩
  · constructor
    · intro h
      exact absurd rfl (of_decide_eq_true h).1
    · rintro ⟨j, -, -, h⟩
      exact absurd h (n_m1 (Nat.lt_trans (Nat.mod_lt _ hs0) (by omega)))
  · have hfm : t_fm (nI u - (nI a + 1)) (nI s) = nI ((u + 5040 - (a + 1)) % s) := by
      rw [← x_fm (n := u + 5040 - (a + 1)) hs (by omega)]
      congr 1
      rw [nI_1]
      have h1 : nI (u + 5040 - (a + 1)) = nI (u + 5040) - nI (a + 1) := (pk_sub (by omega)).symm
      have h2 : nI (u + 5040) = nI u + 5040 := (nI_add u 5040).symm
      rw [h1, h2, Int32.sub_eq_add_neg, Int32.sub_eq_add_neg, Int32.sub_eq_add_neg, Int32.add_assoc, Int32.add_assoc, Int32.add_comm (-nI (a + 1)) _, ← Int32.add_assoc (5040 : Int32), Int32.add_right_neg, Int32.zero_add]
    obtain ⟨x, hx⟩ : ∃ x, x = (u + 5040 - (a + 1)) % s := ⟨_, rfl⟩
    have hxs : x < s := by rw [hx]; exact Nat.mod_lt _ hs0
    have hxm : (a + 1 + x) % s = u := by
      rw [hx, Nat.add_mod_mod, show a + 1 + (u + 5040 - (a + 1)) = u + 5040 by omega, Nat.add_mod, hd, Nat.add_zero, Nat.mod_mod, Nat.mod_eq_of_lt hu]
    have hC : t_come (nI u) (nI a) (nI e) (nI s) = decide (a + 1 + x ≤ e) := by
      rw [t_come, decide_eq_decide, hfm, ← hx, nI_1, nI_add, nI_leI (by omega) (by omega)]
      exact ⟨fun h => h.2, fun h => ⟨n_m1 (by omega), h⟩⟩
    rw [hC, decide_eq_true_iff]
    constructor
    · intro h
      exact ⟨x, by omega, h, by rw [hxm]⟩
    · rintro ⟨j, h1, h2, h3⟩
      have h4 : (a + 1 + j) % s = u := (nI_eq (Nat.lt_trans (Nat.mod_lt _ hs0) (by omega)) (by omega)).mp h3
      have : x ≤ j := by rcases hs with rfl | rfl <;> omega
      omega
theorem due_val {n sz wd mo le et lt d : Int32} {B : Bool} (hn : ¬ n < 0) (hB : B = ((decide (¬ sz = 0) && decide (sz ≤ n)) || t_come wd lt d 7 || t_come mo lt d 30)) : t_due n sz wd mo le et lt d = (decide (¬ n ≤ 0) && (decide (et = 0) || decide (¬ d - lt < le)) && B) := by
  rw [t_due, hB, t_soon]
  have e1 : decide (¬ n ≤ 0) = decide (¬ n = 0) := by rw [decide_eq_decide, x_le0 hn]
  rw [e1]
  by_cases h1 : et = 0 <;> by_cases h2 : d - lt < le <;> simp [h1, h2]
/-- what the law has gathered when its days are through -/
theorem due_B {n sz wd mo : Int32} {a e i : Nat} {B : Bool} (ha : a ≤ 5000) (he : e ≤ 5300) (hwd : rg_in wd (-1) 6) (hmo : rg_in mo (-1) 29) (hi : i ≤ 30) (hin : ∀ j, j < i → a + 1 + j ≤ e) (hend : i = 30 ∨ e < a + 1 + i) (hB : B = true ↔ ((¬ sz = 0 ∧ sz ≤ n) ∨ ∃ j, j < i ∧ (nI ((a + 1 + j) % 7) = wd ∨ nI ((a + 1 + j) % 30) = mo))) : B = ((decide (¬ sz = 0) && decide (sz ≤ n)) || t_come wd (nI a) (nI e) 7 || t_come mo (nI a) (nI e) 30) := by
  rw [Bool.eq_iff_iff, hB, Bool.or_eq_true, Bool.or_eq_true, Bool.and_eq_true, decide_eq_true_iff, decide_eq_true_iff, show (7 : Int32) = nI 7 from rfl, show (30 : Int32) = nI 30 from rfl, d_come (Or.inl rfl) ha he hwd, d_come (Or.inr rfl) ha he hmo]
  constructor
  · rintro (h | ⟨j, h1, h2 | h2⟩)
    · exact Or.inl (Or.inl h)
    · exact Or.inl (Or.inr ⟨j, by omega, hin j h1, h2⟩)
    · exact Or.inr ⟨j, by omega, hin j h1, h2⟩
  · rintro ((h | ⟨j, h1, h2, h3⟩) | ⟨j, h1, h2, h3⟩)
    · exact Or.inl h
    · exact Or.inr ⟨j, by omega, Or.inl h3⟩
    · exact Or.inr ⟨j, by omega, Or.inr h3⟩
/-! places -/
/-- the place of t in l: one more than its first index, 0 if it isn't there -/
def pl : List Nat → Nat → Nat
  | [], _ => 0
  | u :: r, t => if u = t then 1 else if pl r t = 0 then 0 else pl r t + 1
theorem pl_no : ∀ {l : List Nat} {t : Nat}, ¬ t ∈ l → pl l t = 0 := by
  intro l
  induction l with
  | nil => intro t _; rfl
  | cons u r ih =>
    intro t h
    rw [List.mem_cons, not_or] at h
    rw [pl, if_neg (fun q => h.1 q.symm), if_pos (ih h.2)]
theorem pl_first : ∀ {l : List Nat} {t k : Nat}, l[k]? = some t → (∀ j, j < k → ¬ l[j]? = some t) → pl l t = k + 1 := by
  intro l
  induction l with
  | nil => intro t k h _; cases h
  | cons u r ih =>
    intro t k h hn
    cases k with
    | zero => cases h; rw [pl, if_pos rfl]
    | succ k =>
      have h0 : ¬ u = t := fun q => hn 0 (Nat.zero_lt_succ k) (by rw [q]; rfl)
      have h1 := ih (t := t) (k := k) h (fun j hj q => hn (j + 1) (by omega) q)
      rw [pl, if_neg h0, h1, if_neg (by omega)]
theorem pl_at {l : List Nat} (hn : l.Nodup) {t k : Nat} (h : l[k]? = some t) : pl l t = k + 1 := pl_first h (fun j hj q => absurd (x_idx hn q h) (by omega))
theorem pl_plc {l : List Nat} {t : Nat} {x : Int32} (h : t_plc l t x) : x = nI (pl l t) := by
  rcases h with ⟨k, h1, h2, rfl⟩ | ⟨h1, rfl⟩
  · rw [pl_first h1 h2]
  · rw [pl_no (fun q => by obtain ⟨j, hj⟩ := List.getElem?_of_mem q; exact h1 j hj)]; rfl
theorem pl_le : ∀ (l : List Nat) (t : Nat), pl l t ≤ l.length := by
  intro l t
  by_cases h : t ∈ l
  · induction l with
    | nil => cases h
    | cons u r ih =>
      rw [pl]
      split
      · simp
      · split
        · exact Nat.zero_le _
        · rename_i h1 h2
          have h3 : t ∈ r := (List.mem_cons.mp h).resolve_left (fun q => h1 q.symm)
          have := ih h3
          simp only [List.length_cons]
          omega
  · rw [pl_no h]; exact Nat.zero_le _
theorem pl_pos {l : List Nat} (hn : l.Nodup) {t : Nat} (h : t ∈ l) : 0 < pl l t := by
  obtain ⟨k, hk⟩ := List.getElem?_of_mem h
  rw [pl_at hn hk]
  omega
/-- what holds answers -/
def hz (hf hp : Nat → Option Nat) (ol : Nat → List Nat) (h : Nat) : Int32 := match hf h, hp h with
  | some f, some t => nI (100 * f + pl (ol f) t)
  | _, _ => -1
theorem hz_none {hf hp : Nat → Option Nat} {ol : Nat → List Nat} {h : Nat} (h1 : hf h = none) : hz hf hp ol h = -1 := by simp [hz, h1]
theorem hz_some {hf hp : Nat → Option Nat} {ol : Nat → List Nat} {h f t : Nat} (h1 : hf h = some f) (h2 : hp h = some t) : hz hf hp ol h = nI (100 * f + pl (ol f) t) := by simp [hz, h1, h2]
theorem hz_eq {hf hp : Nat → Option Nat} {ol : Nat → List Nat} {h : Nat} {x : Int32} (hx : (hf h = none ∧ x = -1) ∨ ∃ f t k, f < 5 ∧ hf h = some f ∧ hp h = some t ∧ t_plc (ol f) t k ∧ x = 100 * nI f + k) : x = hz hf hp ol h := by
  rcases hx with ⟨h1, rfl⟩ | ⟨f, t, k, h0, h1, h2, h3, rfl⟩
  · rw [hz_none h1]
  · rw [hz_some h1 h2, pl_plc h3, show (100 : Int32) = nI 100 from rfl, pk_mul, nI_add]
/-! names -/
/-- what name answers -/
def nmv (ru : Nat → Nat → Int32) (fr : Nat → Nat) (ol : Nat → List Nat) (pf : Nat → Nat → Int32) (f k t : Nat) : Int32 := if ru (fr f) 8 = 0 then nI ((ol f).length - k) else 1000 * pf 1 t + nI (t_cnt pf (ol f) k (pf 1 t))
