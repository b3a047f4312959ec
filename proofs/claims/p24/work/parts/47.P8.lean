/-! what the law's rows say -/
/-- the rules -/
def lr (rr : Nat → Int32) (ru : Nat → Nat → Int32) : Prop := ∀ r, r < 3 → ∀ k, k < 9 → rr (9 * r + k) = ru r (k + 1)
/-- the files: rule, last turn, whether ever turned, lines written -/
def lf (ff : Nat → Int32) (fr : Nat → Nat) (S : ts_T) (tt : Nat → Int32) : Prop := ∀ f, f < 5 → ff (4 * f) = nI (fr f) ∧ ff (4 * f + 1) = S.2.1 f ∧ ff (4 * f + 2) = S.2.2.1 f ∧ ff (4 * f + 3) = tt f
theorem lr_set {rr : Nat → Int32} {ru : Nat → Nat → Int32} (h : lr rr ru) {r k : Nat} (hr : r < 3) (hk : k < 9) (v : Int32) : lr (upd rr (9 * r + k) v) (rp_u2 ru r (k + 1) v) := fun q hq j hj => by
  simp only [upd, rp_u2]
  by_cases hc : q = r ∧ j = k
  · rw [if_pos (by rw [hc.1, hc.2]), if_pos ⟨hc.1, by rw [hc.2]⟩]
  · rw [if_neg (fun z => hc (by omega)), if_neg (fun z => hc (by omega))]
    exact h q hq j hj
theorem lw_t2 (x : Int32) : x &&& 2147483647 = nI (x.toBitVec.toNat % 2 ^ 31) := pk_and x 31 (by decide)
/-- what low answers -/
theorem low_v (x : Int32) {n : Nat} (h0 : 0 < n) (hn : n < 2 ^ 31) : ∃ j, j < n ∧ (x &&& 2147483647) - (x &&& 2147483647) / nI n * nI n = nI j := by
  rw [lw_t2]
  have h1 : x.toBitVec.toNat % 2 ^ 31 < 2 ^ 31 := Nat.mod_lt _ (by decide)
  rw [pk_rem h1 h0 hn]
  exact ⟨_, Nat.mod_lt _ h0, rfl⟩
theorem ts_take {pf : Nat → Nat → Int32} {l : List Nat} {n t : Nat} {x : Int32} (h : l[n]? = some t) : t_sum pf x (l.take (n + 1)) = t_sum pf x (l.take n) + pf 0 t := by
  have e1 : ∀ (r : List Nat) (x : Int32), t_sum pf x (r ++ [t]) = t_sum pf x r + pf 0 t := by
    intro r
    induction r with
    | nil => intro x; rfl
    | cons u r ih => intro x; exact ih _
  rw [List.take_add_one, h]
  exact e1 _ _
/-- the next day, looked for from the last one: those from j on are through -/
def nxt (D : Nat → Bool) (e j : Nat) (x : Int32) : Prop := (∃ a, j ≤ a ∧ a < 201 ∧ (∀ b, j ≤ b → b < a → D b = false) ∧ D a = true ∧ x = nI (e + a)) ∨ ((∀ b, j ≤ b → b < 201 → D b = false) ∧ x = -1)
theorem nxt_t {D : Nat → Bool} {e j : Nat} (hj : j < 201) (h : D j = true) : nxt D e j (nI (e + j)) := Or.inl ⟨j, Nat.le_refl j, hj, fun b h1 h2 => absurd h1 (by omega), h, rfl⟩
theorem nxt_f {D : Nat → Bool} {e j : Nat} {x : Int32} (hn : nxt D e (j + 1) x) (h : D j = false) : nxt D e j x := by
  have k : ∀ b, j ≤ b → (b = j ∨ j + 1 ≤ b) := fun b hb => by omega
  rcases hn with ⟨a, h1, h2, h3, h4, h5⟩ | ⟨h1, h2⟩
  · exact Or.inl ⟨a, by omega, h2, fun b hb hba => (k b hb).elim (fun q => by rw [q]; exact h) (fun q => h3 b q hba), h4, h5⟩
  · exact Or.inr ⟨fun b hb hb2 => (k b hb).elim (fun q => by rw [q]; exact h) (fun q => h1 b q hb2), h2⟩
theorem nxt_eq {D : Int32 → Bool} {e : Nat} {td x z : Int32} (htd : td = nI e) (hx : (∃ a, a < 201 ∧ (∀ b, b < a → D (td + nI b) = false) ∧ D (td + nI a) = true ∧ x = td + nI a) ∨ ((∀ b, b < 201 → D (td + nI b) = false) ∧ x = -1)) (hz : nxt (fun b => D (nI (e + b))) e 0 z) : x = z := by
  subst htd
  simp only [nI_add] at hx
  simp only [nxt] at hz
  rcases hx with ⟨a, h1, h2, h3, rfl⟩ | ⟨h1, rfl⟩
  · rcases hz with ⟨c, g0, g1, g2, g3, rfl⟩ | ⟨g1, rfl⟩
    · have : a = c := by
        rcases Nat.lt_trichotomy a c with q | q | q
        · rw [g2 a (Nat.zero_le a) q] at h3; cases h3
        · exact q
        · rw [h2 c q] at g3; cases g3
      rw [this]
    · rw [g1 a (Nat.zero_le a) h1] at h3; cases h3
  · rcases hz with ⟨c, g0, g1, g2, g3, rfl⟩ | ⟨g1, rfl⟩
    · rw [h1 c g1] at g3; cases g3
    · rfl
