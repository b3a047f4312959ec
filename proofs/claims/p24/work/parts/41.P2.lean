/-! WHAT STAYS TRUE OF AN OBJECT: e: the day; N: how many calls there were; tt: what was written to each file; fi: the file of a part -/
def ivR (ru : Nat → Nat → Int32) : Prop := ∀ r, r < 3 → (rg_in (ru r 1) 0 10000 ∧ rg_in (ru r 2) (-1) 6 ∧ rg_in (ru r 3) (-1) 29 ∧ rg_in (ru r 4) 0 100) ∧ rg_in (ru r 5) 0 10 ∧ rg_in (ru r 6) 0 1000 ∧ (ru r 7 = 0 ∨ ru r 7 = 1) ∧ (ru r 8 = 0 ∨ ru r 8 = 1) ∧ (ru r 9 = 0 ∨ ru r 9 = 1)
def ivF (e : Nat) (fr : Nat → Nat) (S : ts_T) : Prop := ∀ f, f < 5 → fr f < 3 ∧ (∃ a, a ≤ e ∧ S.2.1 f = nI a) ∧ (S.2.2.1 f = 0 ∨ S.2.2.1 f = 1)
def ivP (e : Nat) (S : ts_T) (fi : Nat → Nat) : Prop := ∀ f, f < 5 → (S.2.2.2.2.2.1 (S.1 f) ∧ fi (S.1 f) = f ∧ ¬ S.1 f ∈ S.2.2.2.2.1 f) ∧ (S.2.2.2.2.1 f).Nodup ∧ (∀ t ∈ S.2.2.2.2.1 f, S.2.2.2.2.2.1 t ∧ fi t = f ∧ ∃ d, d ≤ e ∧ S.2.2.2.2.2.2 1 t = nI d) ∧ (S.2.2.2.2.1 f).Pairwise (fun a b => S.2.2.2.2.2.2 1 a ≤ S.2.2.2.2.2.2 1 b)
def ivC (N : Nat) (S : ts_T) : Prop := ∀ t, S.2.2.2.2.2.1 t → (∃ c, c ≤ 1000 * N ∧ S.2.2.2.2.2.2 0 t = nI c) ∧ (S.2.2.2.2.2.2 2 t = 0 ∨ S.2.2.2.2.2.2 2 t = 1)
def ivH (S : ts_T) (hf hp : Nat → Option Nat) : Prop := ∀ h, h < 4 → (hf h = none ∧ hp h = none) ∨ ∃ f t, f < 5 ∧ hf h = some f ∧ hp h = some t ∧ (t = S.1 f ∨ t ∈ S.2.2.2.2.1 f)
def ivT (S : ts_T) (tt : Nat → Int32) : Prop := ∀ f, f < 5 → t_sum S.2.2.2.2.2.2 (S.2.2.2.2.2.2 0 (S.1 f) + S.2.2.2.1 f) (S.2.2.2.2.1 f) = tt f
def ivL (N : Nat) (S : ts_T) : Prop := ∀ f, f < 5 → ((S.2.2.2.2.1 f).length ≤ 80 ∧ (S.2.2.2.2.1 f).length ≤ N) ∨ (80 < (S.2.2.2.2.1 f).length ∧ 2 * (S.2.2.2.2.1 f).length + (if S.2.2.2.2.2.2 0 (S.1 f) = 0 then 0 else 1) ≤ N + 81)
def iv (e N : Nat) (td : Int32) (ru : Nat → Nat → Int32) (fr : Nat → Nat) (hf : Nat → Option Nat) (S : ts_T) (hp : Nat → Option Nat) (tt : Nat → Int32) (fi : Nat → Nat) : Prop :=
  (td = nI e ∧ e ≤ 5000) ∧ ivR ru ∧ ivF e fr S ∧ ivP e S fi ∧ ivC N S ∧ ivH S hf hp ∧ ivT S tt ∧ ivL N S
section IV
variable {e N : Nat} {td : Int32} {ru : Nat → Nat → Int32} {fr : Nat → Nat} {hf hp : Nat → Option Nat} {S : ts_T} {tt : Nat → Int32} {fi : Nat → Nat}
theorem iv_Ll (h : iv e N td ru fr hf S hp tt fi) : ∀ f, f < 5 → S.2.2.2.2.2.1 (S.1 f) := fun f hf5 => (h.2.2.2.1 f hf5).1.1
theorem iv_in5 (h : iv e N td ru fr hf S hp tt fi) : ∀ f, f < 5 → ∀ q ∈ S.2.2.2.2.1 f, S.2.2.2.2.2.1 q := fun f hf5 q hq => ((h.2.2.2.1 f hf5).2.2.1 q hq).1
theorem iv_len (h : iv e N td ru fr hf S hp tt fi) (hN : N ≤ 111) : ∀ f, f < 5 → (S.2.2.2.2.1 f).length ≤ 96 := fun f hf5 => by
  rcases h.2.2.2.2.2.2.2 f hf5 with q | ⟨-, q⟩ <;> omega
theorem iv_len5 (h : iv e N td ru fr hf S hp tt fi) (hN : N ≤ 111) : ∀ f, f < 5 → (S.2.2.2.2.1 f).length < 512 := fun f hf5 => Nat.lt_of_le_of_lt (iv_len h hN f hf5) (by decide)
theorem iv_Lp (h : iv e N td ru fr hf S hp tt fi) : ∀ k, k < 4 → ∀ t, hp k = some t → S.2.2.2.2.2.1 t := fun k hk t ht => by
  rcases h.2.2.2.2.2.1 k hk with ⟨-, a⟩ | ⟨f, u, f5, -, a, b⟩
  · rw [ht] at a; cases a
  · rw [ht] at a; cases a
    rcases b with rfl | b
    · exact iv_Ll h f f5
    · exact iv_in5 h f f5 _ b
theorem iv_Ho (h : iv e N td ru fr hf S hp tt fi) : ∀ k, k < 4 → ∀ f, hf k = some f → ∃ t, hp k = some t := fun k hk f hfk => by
  rcases h.2.2.2.2.2.1 k hk with ⟨a, -⟩ | ⟨g, u, -, -, a, -⟩
  · rw [hfk] at a; cases a
  · exact ⟨u, a⟩
theorem iv_sq (h : iv e N td ru fr hf S hp tt fi) : ∀ t, S.2.2.2.2.2.1 t → S.2.2.2.2.2.2 2 t = 0 ∨ S.2.2.2.2.2.2 2 t = 1 := fun t ht => (h.2.2.2.2.1 t ht).2
theorem iv_ct (h : iv e N td ru fr hf S hp tt fi) {t : Nat} (ht : S.2.2.2.2.2.1 t) : ∃ c, c ≤ 1000 * N ∧ S.2.2.2.2.2.2 0 t = nI c := (h.2.2.2.2.1 t ht).1
/-- a holder's place, in numbers -/
theorem iv_hz (h : iv e N td ru fr hf S hp tt fi) (hN : N ≤ 111) {k : Nat} (hk : k < 4) : (hf k = none ∧ hp k = none ∧ hz hf hp S.2.2.2.2.1 k = -1) ∨ ∃ f t p, f < 5 ∧ p ≤ (S.2.2.2.2.1 f).length ∧ p ≤ 96 ∧ hf k = some f ∧ hp k = some t ∧ hz hf hp S.2.2.2.2.1 k = nI (100 * f + p) ∧ ((p = 0 ∧ t = S.1 f) ∨ (0 < p ∧ (S.2.2.2.2.1 f)[p - 1]? = some t)) := by
  rcases h.2.2.2.2.2.1 k hk with ⟨a, b⟩ | ⟨f, t, f5, a, b, c⟩
  · exact Or.inl ⟨a, b, hz_none a⟩
  · have hl := iv_len h hN f f5
    have hp9 := pl_le (S.2.2.2.2.1 f) t
    refine Or.inr ⟨f, t, pl (S.2.2.2.2.1 f) t, f5, hp9, by omega, a, b, hz_some a b, ?_⟩
    obtain ⟨⟨-, -, p1⟩, p2, -⟩ := h.2.2.2.1 f f5
    rcases c with rfl | c
    · exact Or.inl ⟨pl_no p1, rfl⟩
    · obtain ⟨j, hj⟩ := List.getElem?_of_mem c
      have := pl_at p2 hj
      exact Or.inr ⟨by omega, by rw [this]; exact hj⟩
/-! names -/
theorem t_cnt_le (pf : Nat → Nat → Int32) (l : List Nat) (k : Nat) (d : Int32) : t_cnt pf l k d ≤ k := by
  unfold t_cnt
  exact Nat.le_trans (List.length_filter_le _ _) (by rw [List.length_take]; omega)
theorem iv_nm (h : iv e N td ru fr hf S hp tt fi) {f k t : Nat} (f5 : f < 5) (hk : (S.2.2.2.2.1 f)[k]? = some t) (hd : ¬ ru (fr f) 8 = 0) : ∃ d, d ≤ e ∧ S.2.2.2.2.2.2 1 t = nI d ∧ nmv ru fr S.2.2.2.2.1 S.2.2.2.2.2.2 f k t = nI (1000 * d + t_cnt S.2.2.2.2.2.2 (S.2.2.2.2.1 f) k (S.2.2.2.2.2.2 1 t)) := by
  obtain ⟨d, hd1, hd2⟩ := ((h.2.2.2.1 f f5).2.2.1 t (List.mem_of_getElem? hk)).2.2
  refine ⟨d, hd1, hd2, ?_⟩
  rw [nmv, if_neg hd, hd2, show (1000 : Int32) = nI 1000 from rfl, pk_mul, nI_add]
theorem iv_nm0 {f k t : Nat} (hk : k ≤ (S.2.2.2.2.1 f).length) (hd : ru (fr f) 8 = 0) : nmv ru fr S.2.2.2.2.1 S.2.2.2.2.2.2 f k t = nI (S.2.2.2.2.1 f).length - nI k := by
  rw [nmv, if_pos hd, pk_sub hk]
/-- what the law had before: -1, or the name of the one before -/
def bfv (ru : Nat → Nat → Int32) (fr : Nat → Nat) (S : ts_T) (f k : Nat) (b : Int32) : Prop := (k = 0 ∧ b = -1) ∨ ∃ j u, k = j + 1 ∧ (S.2.2.2.2.1 f)[j]? = some u ∧ b = nmv ru fr S.2.2.2.2.1 S.2.2.2.2.2.2 f j u
theorem iv_srt (h : iv e N td ru fr hf S hp tt fi) {f j k t u : Nat} (f5 : f < 5) (hj : (S.2.2.2.2.1 f)[j]? = some u) (hk : (S.2.2.2.2.1 f)[k]? = some t) (hjk : j < k) : S.2.2.2.2.2.2 1 u ≤ S.2.2.2.2.2.2 1 t := by
  obtain ⟨h1, e1⟩ := List.getElem?_eq_some_iff.mp hj
  obtain ⟨h2, e2⟩ := List.getElem?_eq_some_iff.mp hk
  have := List.pairwise_iff_getElem.mp (h.2.2.2.1 f f5).2.2.2 j k h1 h2 hjk
  rw [e1, e2] at this
  exact this
theorem iv_up (h : iv e N td ru fr hf S hp tt fi) (hN : N ≤ 111) {f k t : Nat} {b : Int32} (f5 : f < 5) (hk : (S.2.2.2.2.1 f)[k]? = some t) (hd : ¬ ru (fr f) 8 = 0) (hb : bfv ru fr S f k b) : ¬ nmv ru fr S.2.2.2.2.1 S.2.2.2.2.2.2 f k t ≤ b := by
  obtain ⟨d, d1, d2, d3⟩ := iv_nm h f5 hk hd
  have hl := iv_len h hN f f5
  have hkl := (List.getElem?_eq_some_iff.mp hk).1
  have he := h.1.2
  have hc := t_cnt_le S.2.2.2.2.2.2 (S.2.2.2.2.1 f) k (S.2.2.2.2.2.2 1 t)
  rw [d3]
  rcases hb with ⟨-, rfl⟩ | ⟨j, u, rfl, hj, rfl⟩
  · intro q
    rw [Int32.le_iff_toInt_le, nI_toInt (by omega), show (-1 : Int32).toInt = -1 from rfl] at q
    omega
  · obtain ⟨g, g1, g2, g3⟩ := iv_nm h f5 hj hd
    have hc2 := t_cnt_le S.2.2.2.2.2.2 (S.2.2.2.2.1 f) j (S.2.2.2.2.2.2 1 u)
    rw [g3, nI_leI (by omega) (by omega)]
    have hs := iv_srt h f5 hj hk (Nat.lt_succ_self j)
    rw [g2, d2, nI_leI (by omega) (by omega)] at hs
    by_cases hgd : g = d
    · have : S.2.2.2.2.2.2 1 u = S.2.2.2.2.2.2 1 t := by rw [g2, d2, hgd]
      rw [t_cnt_e hj this, ← this]
      omega
    · omega
theorem iv_day (h : iv e N td ru fr hf S hp tt fi) (hN : N ≤ 111) {f k t : Nat} (f5 : f < 5) (hk : (S.2.2.2.2.1 f)[k]? = some t) (hd : ¬ ru (fr f) 8 = 0) : nmv ru fr S.2.2.2.2.1 S.2.2.2.2.2.2 f k t / 1000 = S.2.2.2.2.2.2 1 t ∧ ¬ td < S.2.2.2.2.2.2 1 t := by
  obtain ⟨d, d1, d2, d3⟩ := iv_nm h f5 hk hd
  have hl := iv_len h hN f f5
  have hkl := (List.getElem?_eq_some_iff.mp hk).1
  have he := h.1.2
  have hc := t_cnt_le S.2.2.2.2.2.2 (S.2.2.2.2.1 f) k (S.2.2.2.2.2.2 1 t)
  rw [d3, show (1000 : Int32) = nI 1000 from rfl, pk_div (by omega) (by decide) (by decide), d2, h.1.1]
  refine ⟨?_, nI_nlt d1 (by omega)⟩
  congr 1
  rw [d2] at hc
  omega
theorem iv_gap (h : iv e N td ru fr hf S hp tt fi) (hN : N ≤ 111) {f k t : Nat} {b : Int32} (f5 : f < 5) (hk : (S.2.2.2.2.1 f)[k]? = some t) (hd : ¬ ru (fr f) 8 = 0) (hb : bfv ru fr S f k b) (hg : ¬ nmv ru fr S.2.2.2.2.1 S.2.2.2.2.2.2 f k t - nmv ru fr S.2.2.2.2.1 S.2.2.2.2.2.2 f k t / 1000 * 1000 ≤ 0) : nmv ru fr S.2.2.2.2.1 S.2.2.2.2.2.2 f k t = b + 1 := by
  obtain ⟨d, d1, d2, d3⟩ := iv_nm h f5 hk hd
  have hl := iv_len h hN f f5
  have hkl := (List.getElem?_eq_some_iff.mp hk).1
  have he := h.1.2
  have hc := t_cnt_le S.2.2.2.2.2.2 (S.2.2.2.2.1 f) k (S.2.2.2.2.2.2 1 t)
  rw [d3] at hg ⊢
  rw [show (1000 : Int32) = nI 1000 from rfl, pk_rem (by omega) (by decide) (by decide), show (0 : Int32) = nI 0 from rfl, nI_leI (by omega) (by omega)] at hg
  have hpos : 0 < t_cnt S.2.2.2.2.2.2 (S.2.2.2.2.1 f) k (S.2.2.2.2.2.2 1 t) := by omega
  obtain ⟨u0, hu0⟩ := List.exists_mem_of_length_pos hpos
  rw [List.mem_filter] at hu0
  obtain ⟨i, hi⟩ := List.getElem?_of_mem hu0.1
  have hik : i < k := by
    have := (List.getElem?_eq_some_iff.mp hi).1
    rw [List.length_take] at this
    omega
  rw [List.getElem?_take_of_lt hik] at hi
  have hday : S.2.2.2.2.2.2 1 u0 = S.2.2.2.2.2.2 1 t := of_decide_eq_true hu0.2
  rcases hb with ⟨rfl, -⟩ | ⟨j, u, rfl, hj, rfl⟩
  · exact absurd hik (Nat.not_lt_zero i)
  · obtain ⟨g, g1, g2, g3⟩ := iv_nm h f5 hj hd
    have hs := iv_srt h f5 hj hk (Nat.lt_succ_self j)
    rw [g2, d2, nI_leI (by omega) (by omega)] at hs
    have hs2 : d ≤ g := by
      by_cases hij : i = j
      · subst hij
        rw [hi] at hj
        cases hj
        rw [hday, d2] at g2
        exact Nat.le_of_eq ((nI_eq (by omega) (by omega)).mp g2)
      · have := iv_srt h f5 hi hj (by omega)
        rw [hday, d2, g2, nI_leI (by omega) (by omega)] at this
        exact this
    have hgd : g = d := by omega
    have : S.2.2.2.2.2.2 1 u = S.2.2.2.2.2.2 1 t := by rw [g2, d2, hgd]
    rw [g3, t_cnt_e hj this, ← this, nI_1, hgd, Nat.add_assoc]
end IV
