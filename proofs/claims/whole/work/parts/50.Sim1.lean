/-! THE TWO SIDE BY SIDE: the class's things and the reference's rows -/
def mxR (ru : Nat → Nat → Int32) (mv : Nat → Nat → Int32) : Prop := ∀ r, r < 3 → mv 0 r = ru r 1 ∧ mv 1 r = ru r 2 ∧ mv 2 r = ru r 3 ∧ mv 3 r = ru r 4 ∧ mv 4 r = ru r 5 ∧ mv 5 r = ru r 6 ∧ mv 6 r = ru r 7 ∧ mv 7 r = ru r 8 ∧ mv 8 r = ru r 9
def mxF (fr : Nat → Nat) (S : ts_T) (mv : Nat → Nat → Int32) : Prop := ∀ f, f < 5 → mv 9 f = nI (fr f) ∧ mv 10 f = S.2.2.2.2.2.2 0 (S.1 f) ∧ mv 11 f = S.2.1 f ∧ mv 12 f = S.2.2.1 f ∧ mv 13 f = S.2.2.2.1 f
def mxP (pf : Nat → Nat → Int32) (row : List Nat) (fi : Nat → Nat) (mv : Nat → Nat → Int32) : Prop := ∀ k t, row[k]? = some t → mv 14 k = nI (fi t) ∧ mv 15 k = pf 0 t ∧ mv 16 k = pf 1 t ∧ mv 17 k = pf 2 t
def mxH (lv : Nat → Nat) (hf hp : Nat → Option Nat) (row : List Nat) (fi : Nat → Nat) (mv : Nat → Nat → Int32) : Prop := ∀ h, h < 4 → (hf h = none ∧ hp h = none ∧ mv 18 h = -1 ∧ mv 19 h = -1) ∨ ∃ f, f < 5 ∧ hf h = some f ∧ mv 18 h = nI f ∧ ((hp h = some (lv f) ∧ mv 19 h = -1) ∨ ∃ k t, row[k]? = some t ∧ fi t = f ∧ hp h = some t ∧ mv 19 h = nI k)
/-- the reference's rows say what the class's things say; 'row' holds the old parts of all files in the order of the rows, 'fi' is the file of a part -/
def mx (td : Int32) (ru : Nat → Nat → Int32) (fr : Nat → Nat) (S : ts_T) (hf hp : Nat → Option Nat) (row : List Nat) (fi : Nat → Nat) (md mq : Int32) (mv : Nat → Nat → Int32) : Prop :=
  md = td ∧ mq = nI row.length ∧ mxR ru mv ∧ mxF fr S mv ∧ mxP S.2.2.2.2.2.2 row fi mv ∧ mxH S.1 hf hp row fi mv
/-- rules, days, bits in their ranges -/
def ux (td : Int32) (ru : Nat → Nat → Int32) (fr : Nat → Nat) (S : ts_T) (mv : Nat → Nat → Int32) : Prop :=
  (∃ e, e ≤ 5000 ∧ td = nI e) ∧ (∀ r, r < 3 → rg_in (ru r 1) 0 10000 ∧ rg_in (ru r 2) (-1) 6 ∧ rg_in (ru r 3) (-1) 29 ∧ rg_in (ru r 4) 0 100 ∧ rg_in (ru r 5) 0 10 ∧ rg_in (ru r 6) 0 1000 ∧ (ru r 7 = 0 ∨ ru r 7 = 1) ∧ (ru r 8 = 0 ∨ ru r 8 = 1) ∧ (ru r 9 = 0 ∨ ru r 9 = 1)) ∧
  (∀ f, f < 5 → fr f < 3 ∧ (∃ a, a ≤ 5000 ∧ S.2.1 f = nI a) ∧ (S.2.2.1 f = 0 ∨ S.2.2.1 f = 1)) ∧ ∀ j, j < 4096 → mv 17 j = 0 ∨ mv 17 j = 1
theorem x_idx {row : List Nat} (hn : row.Nodup) {j k t : Nat} (hj : row[j]? = some t) (hk : row[k]? = some t) : j = k := by
  obtain ⟨h1, e1⟩ := List.getElem?_eq_some_iff.mp hj
  obtain ⟨h2, e2⟩ := List.getElem?_eq_some_iff.mp hk
  have pw := List.pairwise_iff_getElem.mp hn
  rcases Nat.lt_trichotomy j k with h | h | h
  · exact absurd (e1.trans e2.symm) (pw j k h1 h2 h)
  · exact h
  · exact absurd (e2.trans e1.symm) (pw k j h2 h1 h)
/-- a place is held just if its part is -/
theorem x_held {lv : Nat → Nat} {hf hp : Nat → Option Nat} {row : List Nat} {fi : Nat → Nat} {mv : Nat → Nat → Int32} (hM : mxH lv hf hp row fi mv) (hn : row.Nodup) (hlen : row.length ≤ 4096) (hlv : ∀ f, f < 5 → ¬ lv f ∈ row) {k t : Nat} (hk : row[k]? = some t) : m_held mv (nI k) = t_held hp t := by
  have key : ∀ h, h < 4 → (mv 19 h = nI k ↔ hp h = some t) := by
    intro h hh
    have hkl := (List.getElem?_eq_some_iff.mp hk).1
    rcases hM h hh with ⟨-, a, -, b⟩ | ⟨f, hf5, -, -, ⟨a, b⟩ | ⟨j, u, hj, -, a, b⟩⟩
    · rw [a, b]
      exact ⟨fun q => absurd q.symm (m_nIn (by omega)), fun q => by cases q⟩
    · rw [a, b]
      exact ⟨fun q => absurd q.symm (m_nIn (by omega)), fun q => absurd (List.mem_of_getElem? hk) (by rw [← Option.some.inj q]; exact hlv f hf5)⟩
    · have hjl := (List.getElem?_eq_some_iff.mp hj).1
      rw [a, b, nI_eq (by omega) (by omega)]
      exact ⟨fun q => by rw [q] at hj; rw [← hj, hk], fun q => x_idx hn (by rw [hj, q]) hk⟩
  simp only [m_held, t_held]
  rw [decide_eq_decide, key 0 (by decide), key 1 (by decide), key 2 (by decide), key 3 (by decide)]
theorem x_cnt {row : List Nat} {fi : Nat → Nat} {mv : Nat → Nat → Int32} (hP : ∀ k t, row[k]? = some t → mv 14 k = nI (fi t)) (hfi : ∀ t ∈ row, fi t < 5) {f : Nat} (hf5 : f < 5) : ∀ n, n ≤ row.length → m_cnt mv (nI f) n = ((row.take n).filter (fun t => decide (fi t = f))).length := by
  intro n
  induction n with
  | zero => intro _; rfl
  | succ n ih =>
    intro hn
    obtain ⟨t, ht⟩ : ∃ t, row[n]? = some t := ⟨_, List.getElem?_eq_getElem (by omega)⟩
    have e : row.take (n + 1) = row.take n ++ [t] := by rw [List.take_add_one, ht]; rfl
    have h14 := hP n t ht
    have ht5 := hfi t (List.mem_of_getElem? ht)
    by_cases hf : fi t = f
    · rw [m_cnt_y (by rw [h14, hf]), ih (by omega), e]
      simp [List.filter_append, hf]
    · rw [m_cnt_n (by rw [h14, nI_eq (by omega) (by omega)]; exact hf), ih (by omega), e]
      simp [List.filter_append, hf]
/-! days -/
theorem x_fm7 : ∀ i, i < 72 → ∀ j, j < 72 → t_fm (nI (72 * i + j) - 5040) 7 = nI ((72 * i + j) % 7) := by decide +kernel
theorem x_fm30 : ∀ i, i < 72 → ∀ j, j < 72 → t_fm (nI (72 * i + j) - 5040) 30 = nI ((72 * i + j) % 30) := by decide +kernel
theorem x_fm {n s : Nat} (hs : s = 7 ∨ s = 30) (hn : n < 5184) : t_fm (nI n - 5040) (nI s) = nI (n % s) := by
  have e : 72 * (n / 72) + n % 72 = n := Nat.div_add_mod n 72
  rcases hs with rfl | rfl
  · have := x_fm7 (n / 72) (by omega) (n % 72) (by omega)
    rw [e] at this
    exact this
  · have := x_fm30 (n / 72) (by omega) (n % 72) (by omega)
    rw [e] at this
    exact this
theorem x_any {n : Nat} {p : Nat → Bool} : (List.range n).any p = true ↔ ∃ j, j < n ∧ p j = true := by
  rw [List.any_eq_true]
  exact ⟨fun ⟨j, h1, h2⟩ => ⟨j, List.mem_range.mp h1, h2⟩, fun ⟨j, h1, h2⟩ => ⟨j, List.mem_range.mpr h1, h2⟩⟩
theorem x_mod {s u a : Nat} (hs : 0 < s) (hu : u < s) : (a + (u + (s - a % s)) % s) % s = u := by
  have h1 : a % s < s := Nat.mod_lt _ hs
  rw [Nat.add_mod_mod]
  have h2 : a + (u + (s - a % s)) = u + s * (a / s + 1) := by
    have := Nat.div_add_mod a s
    rw [Nat.mul_add, Nat.mul_one]
    omega
  rw [h2, Nat.add_mul_mod_self_left, Nat.mod_eq_of_lt hu]
/-- the days that come: the least day behind a whose rest by s is u -/
theorem x_come {s a e u : Nat} (hs : s = 7 ∨ s = 30) (ha : a ≤ 5000) (he : e ≤ 5300) (hu : u < s) : m_come a e s (nI u) = t_come (nI u) (nI a) (nI e) (nI s) := by
  have hs0 : 0 < s := by omega
  have hs1 : s ≤ 30 := by omega
  have hd : 5040 % s = 0 := by rcases hs with rfl | rfl <;> decide
  -- floorMod's answer
  have hfm : t_fm (nI u - (nI a + 1)) (nI s) = nI ((u + 5040 - (a + 1)) % s) := by
    rw [← x_fm (n := u + 5040 - (a + 1)) hs (by omega)]
    congr 1
    rw [nI_1]
    have h1 : nI (u + 5040 - (a + 1)) = nI (u + 5040) - nI (a + 1) := (pk_sub (by omega)).symm
    have h2 : nI (u + 5040) = nI u + 5040 := (nI_add u 5040).symm
    rw [h1, h2, Int32.sub_eq_add_neg, Int32.sub_eq_add_neg, Int32.sub_eq_add_neg, Int32.add_assoc, Int32.add_assoc, Int32.add_comm (-nI (a + 1)) _, ← Int32.add_assoc (5040 : Int32), Int32.add_right_neg, Int32.zero_add]
  obtain ⟨x, hx⟩ : ∃ x, x = (u + 5040 - (a + 1)) % s := ⟨_, rfl⟩
  have hxs : x < s := by rw [hx]; exact Nat.mod_lt _ hs0
  have hxm : (a + 1 + x) % s = u := by
    rw [hx, Nat.add_mod_mod, show a + 1 + (u + 5040 - (a + 1)) = u + 5040 by omega, Nat.add_mod, hd, Nat.add_zero, Nat.mod_mod, Nat.mod_eq_of_lt hu]
  have hC : t_come (nI u) (nI a) (nI e) (nI s) = decide (a + 1 + x ≤ e) := by
    rw [t_come, decide_eq_decide, hfm, ← hx, nI_1, nI_add, nI_leI (by omega) (by omega)]
    exact ⟨fun h => h.2, fun h => ⟨m_nIn (by omega), h⟩⟩
  rw [hC, Bool.eq_iff_iff, decide_eq_true_iff]
  show m_cA a s (nI u) _ = true ↔ _
  rw [m_cA, x_any]
  constructor
  · rintro ⟨j, h1, h2⟩
    have h3 : (a + 1 + j) % s = u := (nI_eq (Nat.lt_trans (Nat.mod_lt _ hs0) (by omega)) (by omega)).mp (of_decide_eq_true h2)
    have hj : j < s := by omega
    -- both j and x are below s and have one rest
    have : j = x := by
      have e1 : (a + 1 + j) % s = (a + 1 + x) % s := by rw [h3, hxm]
      have d1 := Nat.div_add_mod (a + 1 + j) s
      have d2 := Nat.div_add_mod (a + 1 + x) s
      rw [e1] at d1
      rcases Nat.lt_trichotomy ((a + 1 + j) / s) ((a + 1 + x) / s) with h | h | h
      · have := Nat.mul_le_mul_left s (show (a + 1 + j) / s + 1 ≤ (a + 1 + x) / s from h)
        rw [Nat.mul_add] at this
        omega
      · rw [h] at d1; omega
      · have := Nat.mul_le_mul_left s (show (a + 1 + x) / s + 1 ≤ (a + 1 + j) / s from h)
        rw [Nat.mul_add] at this
        omega
    omega
  · intro h
    exact ⟨x, by omega, decide_eq_true (by rw [hxm])⟩
theorem x_come1 {s a e : Nat} (hs : s = 7 ∨ s = 30) : m_come a e s (-1) = t_come (-1) (nI a) (nI e) (nI s) := by
  have h1 : t_come (-1) (nI a) (nI e) (nI s) = false := decide_eq_false (fun h => h.1 rfl)
  rw [h1]
  show m_cA a s (-1) _ = false
  rw [m_cA, List.any_eq_false]
  intro j _ h
  exact m_nIn (Nat.lt_trans (Nat.mod_lt _ (by omega)) (by omega)) (of_decide_eq_true h)
theorem x_rng {w : Int32} {s : Nat} (hs : 1 < s) (hs2 : s < 2 ^ 31) (h : rg_in w (-1) (nI (s - 1))) : w = -1 ∨ ∃ u, u < s ∧ w = nI u := by
  by_cases h0 : w < 0
  · left
    have h1 := h.1
    rw [Int32.lt_iff_toInt_lt] at h0 h1
    rw [← Int32.toInt_inj]
    rw [show (-1 : Int32).toInt = -1 from rfl] at h1 ⊢
    rw [show (0 : Int32).toInt = 0 from rfl] at h0
    omega
  · obtain ⟨j, hj, rfl⟩ := nI_of h0
    have := (nI_leI hj (by omega)).mp h.2
    exact Or.inr ⟨j, by omega, rfl⟩
theorem x_come2 {w : Int32} {s a e : Nat} (hs : s = 7 ∨ s = 30) (ha : a ≤ 5000) (he : e ≤ 5300) (hw : rg_in w (-1) (nI (s - 1))) : m_come a e s w = t_come w (nI a) (nI e) (nI s) := by
  rcases x_rng (by omega) (by omega) hw with rfl | ⟨u, hu, rfl⟩
  · exact x_come1 hs
  · exact x_come hs ha he hu
