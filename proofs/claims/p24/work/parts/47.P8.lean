/-! what the law's rows say -/
/-- the rules -/
def lr (rr : Nat → Int32) (ru : Nat → Nat → Int32) : Prop := ∀ r, r < 3 → ∀ k, k < 9 → rr (9 * r + k) = ru r (k + 1)
/-- the files: rule, last turn, whether ever turned, lines written -/
def lf (ff : Nat → Int32) (fr : Nat → Nat) (S : ts_T) (tt : Nat → Int32) : Prop := ∀ f, f < 5 → ff (4 * f) = nI (fr f) ∧ ff (4 * f + 1) = S.2.1 f ∧ ff (4 * f + 2) = S.2.2.1 f ∧ ff (4 * f + 3) = tt f
theorem lr_set {rr : Nat → Int32} {ru : Nat → Nat → Int32} (h : lr rr ru) {r k : Nat} (hr : r < 3) (hk : k < 9) (v : Int32) : lr (upd rr (9 * r + k) v) (rp_u2 ru r (k + 1) v) := fun q hq j hj => by
  simp only [upd, rp_u2]
  by_cases hc : q = r ∧ j = k
  · rw [if_pos (by rw [hc.1, hc.2]), if_pos ⟨hc.1, by rw [hc.2]⟩]
  · rw [if_neg (fun z => hc (by omega)), if_neg (fun z => hc (by omega))]
    exact h q hq j hj
theorem lw_t2 (x : Int32) : x &&& 2147483647 = nI (x.toBitVec.toNat % 2 ^ 31) := pk_and x 31 (by decide)
/-- what low answers -/
theorem low_v (x : Int32) {n : Nat} (h0 : 0 < n) (hn : n < 2 ^ 31) : ∃ j, j < n ∧ (x &&& 2147483647) - (x &&& 2147483647) / nI n * nI n = nI j := by
  rw [lw_t2]
  have h1 : x.toBitVec.toNat % 2 ^ 31 < 2 ^ 31 := Nat.mod_lt _ (by decide)
  rw [pk_rem h1 h0 hn]
  exact ⟨_, Nat.mod_lt _ h0, rfl⟩
