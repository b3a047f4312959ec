/-! a run, on both sides -/
theorem x_bit (x : Int32) : x &&& 1 = 0 ∨ x &&& 1 = 1 := by
  have h : (x &&& 1).toBitVec.toNat = x.toBitVec.toNat % 2 := by
    rw [Int32.toBitVec_and, BitVec.toNat_and, ← Nat.and_one_is_mod]
    rfl
  rcases Nat.mod_two_eq_zero_or_one x.toBitVec.toNat with h2 | h2
  · left
    rw [h2] at h
    exact Int32.toBitVec_inj.mp (BitVec.eq_of_toNat_eq (by rw [h]; rfl))
  · right
    rw [h2] at h
    exact Int32.toBitVec_inj.mp (BitVec.eq_of_toNat_eq (by rw [h]; rfl))
theorem x_among {fr : Nat → Nat} {mv : Nat → Nat → Int32} {b : Int32} {r : Nat} (h9 : ∀ f, f < 5 → fr f < 3 ∧ mv 9 f = nI (fr f)) (hr : r < 3) : m_amg mv b r 5 = t_among fr b r := by
  have e : ∀ f, f < 5 → (decide (mv 9 f = nI r) && decide (t_bit b f = 1)) = (decide (¬ t_bit b f = 0) && decide (fr f = r)) := fun f hf => by
    obtain ⟨h3, h9⟩ := h9 f hf
    have e1 : decide (mv 9 f = nI r) = decide (fr f = r) := by rw [decide_eq_decide, h9, nI_eq (by omega) (by omega)]
    have e2 : decide (t_bit b f = 1) = decide (¬ t_bit b f = 0) := by
      rcases x_bit (b >>> (nI f &&& 31)) with h | h
      · have : t_bit b f = 0 := h
        rw [this]; rfl
      · have : t_bit b f = 1 := h
        rw [this]; rfl
    rw [e1, e2, Bool.and_comm]
  rw [m_amg, t_among, Bool.eq_iff_iff, x_any, x_any]
  exact ⟨fun ⟨j, h1, h2⟩ => ⟨j, h1, by rw [← e j h1]; exact h2⟩, fun ⟨j, h1, h2⟩ => ⟨j, h1, by rw [e j h1]; exact h2⟩⟩
/-- being told, on both sides -/
theorem x_tells {ru : Nat → Nat → Int32} {fr lv : Nat → Nat} {hf hp : Nat → Option Nat} {row : List Nat} {fi : Nat → Nat} {mv : Nat → Nat → Int32} {b : Int32} (hH : mxH lv hf hp row fi mv) (h9 : ∀ f, f < 5 → fr f < 3 ∧ mv 9 f = nI (fr f)) (h8 : ∀ r, r < 3 → mv 8 r = ru r 9) : ∀ k, k ≤ 3 → mxH lv hf (t_tls b ru fr lv hf hp k) row fi (m_tells mv b k) := by
  intro k
  induction k with
  | zero => intro _; exact hH
  | succ k ih =>
    intro hk
    have H := ih (by omega)
    obtain ⟨M, hM⟩ : ∃ z, z = m_tells mv b k := ⟨_, rfl⟩
    rw [← hM] at H
    have m9 : ∀ f, f < 5 → fr f < 3 ∧ M 9 f = nI (fr f) := fun f hf => ⟨(h9 f hf).1, by rw [hM, m_tells_row (by decide)]; exact (h9 f hf).2⟩
    have m8 : M 8 k = ru k 9 := by rw [hM, m_tells_row (by decide)]; exact h8 k (by omega)
    have ham := x_among (b := b) (r := k) m9 (by omega)
    show mxH lv hf (if ¬ ru k 9 = 0 ∧ t_among fr b k = true then t_tl fr lv hf k (t_tls b ru fr lv hf hp k) 4 else t_tls b ru fr lv hf hp k) row fi (m_tlw (m_tells mv b k) (m_amg (m_tells mv b k) b k 5) k 4)
    rw [← hM, ham]
    intro h hh
    have a18 : m_tlw M (t_among fr b k) k 4 18 h = M 18 h := if_neg (fun z => absurd z.1 (by decide))
    have a19 : m_tlw M (t_among fr b k) k 4 19 h = if t_among fr b k = true ∧ ¬ M 8 k = 0 ∧ ¬ M 18 h = -1 ∧ M 9 (M 18 h).toNatClampNeg = nI k then -1 else M 19 h := by
      show (if 19 = 19 ∧ h < 4 ∧ t_among fr b k = true ∧ ¬ M 8 k = 0 ∧ ¬ M 18 h = -1 ∧ M 9 (M 18 h).toNatClampNeg = nI k then -1 else M 19 h) = _
      by_cases z : t_among fr b k = true ∧ ¬ M 8 k = 0 ∧ ¬ M 18 h = -1 ∧ M 9 (M 18 h).toNatClampNeg = nI k
      · rw [if_pos ⟨rfl, hh, z⟩, if_pos z]
      · rw [if_neg (fun q => z q.2.2), if_neg z]
    rw [a18, a19, m8]
    obtain ⟨HP, hHP⟩ : ∃ z, z = t_tls b ru fr lv hf hp k := ⟨_, rfl⟩
    rw [← hHP] at H ⊢
    by_cases hc : ¬ ru k 9 = 0 ∧ t_among fr b k = true
    · rw [if_pos hc]
      rcases H h hh with ⟨p1, p2, p3, p4⟩ | ⟨f, f5, p1, p2, p3⟩
      · refine Or.inl ⟨p1, ?_, p3, ?_⟩
        · simp only [t_tl, if_pos hh, p1]
          exact p2
        · rw [if_neg (fun z => z.2.2.1 p3)]
          exact p4
      · obtain ⟨f3, f9⟩ := m9 f f5
        have hcl : (M 18 h).toNatClampNeg = f := by rw [p2, nI_clamp (by omega)]
        have hne : ¬ M 18 h = -1 := by rw [p2]; exact m_nIn (by omega)
        by_cases hfr : fr f = k
        · refine Or.inr ⟨f, f5, p1, p2, Or.inl ⟨?_, ?_⟩⟩
          · simp only [t_tl, if_pos hh, p1, if_pos hfr]
          · rw [if_pos ⟨hc.2, hc.1, hne, by rw [hcl, f9, hfr]⟩]
        · refine Or.inr ⟨f, f5, p1, p2, ?_⟩
          rw [if_neg (fun z => hfr ((nI_eq (by omega) (by omega)).mp (f9.symm.trans (by rw [← hcl]; exact z.2.2.2))))]
          have : t_tl fr lv hf k HP 4 h = HP h := by simp only [t_tl, if_pos hh, p1, if_neg hfr]
          rw [this]
          exact p3
    · rw [if_neg hc, if_neg (fun z => hc ⟨z.2.1, z.1⟩)]
      exact H h hh
/-- the turns of a run, on both sides -/
theorem x_run1 {td : Int32} {ru : Nat → Nat → Int32} {fr : Nat → Nat} {S0 : ts_T} {hf hp : Nat → Option Nat} {row : List Nat} {fi : Nat → Nat} {md mq : Int32} {mv : Nat → Nat → Int32} {N P e : Nat} {cf ml : Nat → Nat} (hM : mx td ru fr S0 hf hp row fi md mq mv) (hT : tx S0 row fi N cf P) (hU : ux td ru fr S0 mv) (hP9 : P + 5 ≤ 4000) (hN : N ≤ 1000) (he : td = nI e) (he5 : e ≤ 5000) (hml : ∀ f, f < 5 → ml f ≤ 5000 ∧ S0.2.1 f = nI (ml f)) : ∀ (k : Nat), k ≤ 5 → ∀ (S : ts_T) (b : Int32), t_runR td ru fr hp S0 k S b →
    (m_run1 fr ml e mv row.length k).2.2 = b ∧ ∃ row2 fi2, mx td ru fr S hf hp row2 fi2 md (nI (m_run1 fr ml e mv row.length k).2.1) (m_run1 fr ml e mv row.length k).1 ∧ (m_run1 fr ml e mv row.length k).2.1 = row2.length ∧ tx S row2 fi2 N (fun f => if f < k then cf f + 1 else cf f) (P + k) ∧ ux td ru fr S (m_run1 fr ml e mv row.length k).1 ∧ ∀ f, k ≤ f → S.2.1 f = S0.2.1 f := by
  intro k
  induction k with
  | zero =>
    rintro _ S b ⟨rfl, rfl⟩
    refine ⟨rfl, row, fi, ⟨hM.1, rfl, hM.2.2⟩, rfl, ?_, hU, fun f _ => rfl⟩
    simpa using hT
  | succ k ih =>
    rintro hk S b ⟨S1, b1, hrel, hstep⟩
    obtain ⟨eb, row2, fi2, hM2, hn2, hT2, hU2, hl2⟩ := ih (by omega) S1 b1 hrel
    have hmd : md = td := hM2.1
    have hdue : m_due (m_run1 fr ml e mv row.length k).1 k (fr k) (ml k) e = t_dueS td ru fr S1 k := by
      rw [x_due hM2.2.2.2.1 hM2.2.2.1 hU2 (hT2.2.2.2.2.2.2.1 k (by omega)) hN (by omega) (by rw [hl2 k (Nat.le_refl _)]; exact (hml k (by omega)).2) (hml k (by omega)).1 (by omega), ← he]
      rfl
    rcases hstep with ⟨hd, q, hq, rfl, rfl⟩ | ⟨hd, rfl, rfl⟩
    · have e1 : m_run1 fr ml e mv row.length (k + 1) = ((m_turn (m_run1 fr ml e mv row.length k).1 k (fr k) (m_run1 fr ml e mv row.length k).2.1 (nI e)).1, (m_turn (m_run1 fr ml e mv row.length k).1 k (fr k) (m_run1 fr ml e mv row.length k).2.1 (nI e)).2.1, (m_run1 fr ml e mv row.length k).2.2 ||| (1 <<< (nI k &&& 31))) := if_pos (by rw [hdue]; exact hd)
      obtain ⟨-, row3, fi3, hM3, hn3, hT3, hU3⟩ := x_turn (f := k) (q := q) hM2 hT2 hU2 (by omega) (by omega) hq
      rw [e1]
      simp only
      have em : m_turn (m_run1 fr ml e mv row.length k).1 k (fr k) row2.length md = m_turn (m_run1 fr ml e mv row.length k).1 k (fr k) row2.length td := by rw [hmd]
      rw [em] at hM3 hn3 hU3
      rw [hn2, ← he]
      refine ⟨by rw [eb], row3, fi3, hM3, hn3, ?_, hU3, fun f hf => ?_⟩
      · have ec : va_up (fun f => if f < k then cf f + 1 else cf f) k ((fun f => if f < k then cf f + 1 else cf f) k + 1) = fun f => if f < k + 1 then cf f + 1 else cf f := by
          funext f
          by_cases hfk : f = k
          · rw [hfk, va_up_self]; simp
          · rw [va_up_ne _ _ hfk]
            have : (f < k + 1) = (f < k) := propext (by omega)
            simp only [this]
        rw [ec] at hT3
        exact hT3
      · show va_up S1.2.1 k td f = _
        rw [va_up_ne _ _ (by omega)]
        exact hl2 f (by omega)
    · have e1 : m_run1 fr ml e mv row.length (k + 1) = m_run1 fr ml e mv row.length k := if_neg (by rw [hdue, hd]; decide)
      rw [e1]
      refine ⟨eb, row2, fi2, hM2, hn2, ?_, hU2, fun f hf => hl2 f (by omega)⟩
      obtain ⟨t1, t2, t3, t4, t5, t6, t7⟩ := hT2
      refine ⟨t1, by omega, t3, t4, t5, fun f hf => ⟨(t6 f hf).1, Nat.le_trans (t6 f hf).2 ?_⟩, t7⟩
      simp only
      by_cases h1 : f < k
      · rw [if_pos h1, if_pos (by omega)]
        exact Nat.le_refl _
      · rw [if_neg h1]
        split
        · exact Nat.le_succ _
        · exact Nat.le_refl _
