/-! one call, on both sides: what stays true; N: how many calls there were -/
def xI (td : Int32) (ru : Nat → Nat → Int32) (fr : Nat → Nat) (S : ts_T) (hf hp : Nat → Option Nat) (row : List Nat) (fi : Nat → Nat) (md mq : Int32) (mv : Nat → Nat → Int32) (N : Nat) : Prop :=
  mx td ru fr S hf hp row fi md mq mv ∧ tx S row fi N (fun _ => N) (5 * N) ∧ ux td ru fr S mv
section XI
variable {td : Int32} {ru : Nat → Nat → Int32} {fr : Nat → Nat} {S : ts_T} {hf hp : Nat → Option Nat} {row : List Nat} {fi : Nat → Nat} {md mq : Int32} {mv : Nat → Nat → Int32} {N : Nat}
theorem tx_mono (h : tx S row fi N (fun _ => N) (5 * N)) : tx S row fi (N + 1) (fun _ => N + 1) (5 * (N + 1)) := by
  obtain ⟨n1, n2, n3, n4, n5, n6, n7, n8, n9⟩ := h
  exact ⟨n1, by omega, n3, n4, n5, fun f hf => ⟨(n6 f hf).1, Nat.le_trans (n6 f hf).2 (Nat.le_succ N)⟩, fun f hf => by
    obtain ⟨c, hc, e⟩ := n7 f hf
    exact ⟨c, by omega, e⟩, n8, n9⟩
theorem xI_mono (h : xI td ru fr S hf hp row fi md mq mv N) : xI td ru fr S hf hp row fi md mq mv (N + 1) := ⟨h.1, tx_mono h.2.1, h.2.2⟩
/-- what the class's calls ask -/
theorem xI_Ll (h : xI td ru fr S hf hp row fi md mq mv N) : ∀ f, f < 5 → S.2.2.2.2.2.1 (S.1 f) := fun f hf => (h.2.1.2.2.2.1 f hf).1
theorem xI_in5 (h : xI td ru fr S hf hp row fi md mq mv N) : ∀ f, f < 5 → ∀ q ∈ S.2.2.2.2.1 f, S.2.2.2.2.2.1 q := fun f hf q hq => by
  rw [(h.2.1.2.2.2.2.2.1 f hf).1] at hq
  exact (h.2.1.2.2.1 q (List.mem_filter.mp hq).1).2
theorem xI_len5 (h : xI td ru fr S hf hp row fi md mq mv N) (hN : N < 512) : ∀ f, f < 5 → (S.2.2.2.2.1 f).length < 512 := fun f hf => Nat.lt_of_le_of_lt (h.2.1.2.2.2.2.2.1 f hf).2 hN
theorem xI_Lp (h : xI td ru fr S hf hp row fi md mq mv N) : ∀ k, k < 4 → ∀ t, hp k = some t → S.2.2.2.2.2.1 t := fun k hk t ht => by
  rcases h.1.2.2.2.2.2 k hk with ⟨-, a, -, -⟩ | ⟨f, f5, -, -, ⟨a, -⟩ | ⟨j, u, e1, -, a, -⟩⟩
  · rw [ht] at a; cases a
  · rw [ht] at a; cases a; exact (h.2.1.2.2.2.1 f f5).1
  · rw [ht] at a; cases a; exact (h.2.1.2.2.1 t (List.mem_of_getElem? e1)).2
theorem xI_Ho (h : xI td ru fr S hf hp row fi md mq mv N) : ∀ k, k < 4 → ∀ f, hf k = some f → ∃ t, hp k = some t := fun k hk f hfk => by
  rcases h.1.2.2.2.2.2 k hk with ⟨a, -, -, -⟩ | ⟨g, g5, -, -, ⟨a, -⟩ | ⟨j, u, -, -, a, -⟩⟩
  · rw [hfk] at a; cases a
  · exact ⟨_, a⟩
  · exact ⟨_, a⟩
theorem xI_sq (h : xI td ru fr S hf hp row fi md mq mv N) : ∀ t, S.2.2.2.2.2.1 t → S.2.2.2.2.2.2 2 t = 0 ∨ S.2.2.2.2.2.2 2 t = 1 := h.2.1.2.2.2.2.2.2.2.1
/-- what the reference's calls ask -/
theorem xI_q (h : xI td ru fr S hf hp row fi md mq mv N) (hN : N < 512) : mq = nI row.length ∧ row.length + 5 ≤ 4096 := ⟨h.1.2.1, by have := h.2.1.2.1; omega⟩
theorem xI_r9 (h : xI td ru fr S hf hp row fi md mq mv N) : ∀ f, f < 5 → fr f < 3 ∧ mv 9 f = nI (fr f) := fun f hf => ⟨(h.2.2.2.2.1 f hf).1, (h.1.2.2.2.1 f hf).1⟩
theorem xI_a9 (h : xI td ru fr S hf hp row fi md mq mv N) : ∃ ml : Nat → Nat, (∀ f, f < 5 → ml f ≤ 5000 ∧ S.2.1 f = nI (ml f)) ∧ ∀ f, f < 5 → ml f ≤ 10000 ∧ mv 11 f = nI (ml f) := by
  refine ⟨fun f => if hf : f < 5 then Classical.choose (h.2.2.2.2.1 f hf).2.1 else 0, fun f hf => ?_, fun f hf => ?_⟩
  · simp only [dif_pos hf]
    exact Classical.choose_spec (h.2.2.2.2.1 f hf).2.1
  · simp only [dif_pos hf]
    have q := Classical.choose_spec (h.2.2.2.2.1 f hf).2.1
    exact ⟨by omega, (h.1.2.2.2.1 f hf).2.2.1.trans q.2⟩
theorem xI_d9 (h : xI td ru fr S hf hp row fi md mq mv N) : ∃ e, e ≤ 5000 ∧ td = nI e ∧ md = nI e := by
  obtain ⟨e, he, e1⟩ := h.2.2.1
  exact ⟨e, he, e1, h.1.1.trans e1⟩
theorem xI_18 (h : xI td ru fr S hf hp row fi md mq mv N) : ∀ k, k < 4 → mv 18 k = -1 ∨ ∃ f, f < 5 ∧ mv 18 k = nI f := fun k hk => by
  rcases h.1.2.2.2.2.2 k hk with ⟨-, -, a, -⟩ | ⟨f, f5, -, a, -⟩
  · exact Or.inl a
  · exact Or.inr ⟨f, f5, a⟩
theorem xI_19 (h : xI td ru fr S hf hp row fi md mq mv N) (hN : N < 512) : ∀ k, k < 4 → mv 19 k = -1 ∨ ∃ q, q < 4096 ∧ mv 19 k = nI q := fun k hk => by
  rcases h.1.2.2.2.2.2 k hk with ⟨-, -, -, a⟩ | ⟨f, f5, -, -, ⟨-, a⟩ | ⟨j, u, e1, -, -, a⟩⟩
  · exact Or.inl a
  · exact Or.inl a
  · have := (List.getElem?_eq_some_iff.mp e1).1
    have := (xI_q h hN).2
    exact Or.inr ⟨j, by omega, a⟩
theorem xI_14 (h : xI td ru fr S hf hp row fi md mq mv N) : ∀ p, p < row.length → ∃ f, f < 5 ∧ mv 14 p = nI f := fun p hp => by
  obtain ⟨t, ht⟩ : ∃ t, row[p]? = some t := ⟨_, List.getElem?_eq_getElem hp⟩
  exact ⟨fi t, (h.2.1.2.2.1 t (List.mem_of_getElem? ht)).1, (h.1.2.2.2.2.1 p t ht).1⟩
theorem xI_bit (h : xI td ru fr S hf hp row fi md mq mv N) : ∀ j, j < 4096 → mv 17 j = 0 ∨ mv 17 j = 1 := h.2.2.2.2.2
/-- the rules -/
theorem xI_ru {ru2 mv2 : Nat → Nat → Int32} (h : xI td ru fr S hf hp row fi md mq mv N) (hm : ∀ i j, 9 ≤ i → mv2 i j = mv i j) (hR : mxR ru2 mv2) (hu : ∀ r, r < 3 → rg_in (ru2 r 1) 0 10000 ∧ rg_in (ru2 r 2) (-1) 6 ∧ rg_in (ru2 r 3) (-1) 29 ∧ rg_in (ru2 r 4) 0 100 ∧ rg_in (ru2 r 5) 0 10 ∧ rg_in (ru2 r 6) 0 1000 ∧ (ru2 r 7 = 0 ∨ ru2 r 7 = 1) ∧ (ru2 r 8 = 0 ∨ ru2 r 8 = 1) ∧ (ru2 r 9 = 0 ∨ ru2 r 9 = 1)) : xI td ru2 fr S hf hp row fi md mq mv2 (N + 1) := by
  obtain ⟨⟨m1, m2, m3, m4, m5, m6⟩, ht, u1, u2, u3, u4⟩ := h
  refine ⟨⟨m1, m2, hR, fun f hf => ?_, fun k t hk => ?_, fun k hk => ?_⟩, tx_mono ht, u1, hu, u3, fun j hj => ?_⟩
  · rw [hm 9 f (by decide), hm 10 f (by decide), hm 11 f (by decide), hm 12 f (by decide), hm 13 f (by decide)]
    exact m4 f hf
  · rw [hm 14 k (by decide), hm 15 k (by decide), hm 16 k (by decide), hm 17 k (by decide)]
    exact m5 k t hk
  · rw [hm 18 k (by decide), hm 19 k (by decide)]
    exact m6 k hk
  · rw [hm 17 j (by decide)]
    exact u4 j hj
theorem xI_setDue {r : Nat} {size wd mo le : Int32} (h : xI td ru fr S hf hp row fi md mq mv N) (hr : r < 3) (hok : rg_in size 0 10000 ∧ rg_in wd (-1) 6 ∧ rg_in mo (-1) 29 ∧ rg_in le 0 100) : xI td (rp_u2 (rp_u2 (rp_u2 (rp_u2 ru r 1 size) r 2 wd) r 3 mo) r 4 le) fr S hf hp row fi md mq (rp_u2 (rp_u2 (rp_u2 (rp_u2 mv 0 r size) 1 r wd) 2 r mo) 3 r le) (N + 1) := by
  refine xI_ru h (fun i j hi => by rw [rp_u2n _ _ (by omega), rp_u2n _ _ (by omega), rp_u2n _ _ (by omega), rp_u2n _ _ (by omega)]) (fun k hk => ?_) (fun k hk => ?_)
  · have := h.1.2.2.1 k hk
    by_cases hkr : k = r
    · subst hkr
      simp [rp_u2, this]
    · simp [rp_u2, hkr, this]
  · have := h.2.2.2.1 k hk
    by_cases hkr : k = r
    · subst hkr
      simp [rp_u2, hok, this.2.2.2.2]
    · simp only [rp_u2, hkr, false_and, if_false]
      exact this
theorem xI_setOld {r : Nat} {kp gr b1 b2 b3 : Int32} (h : xI td ru fr S hf hp row fi md mq mv N) (hr : r < 3) (hok : rg_in kp 0 10 ∧ rg_in gr 0 1000) (hb1 : b1 = 0 ∨ b1 = 1) (hb2 : b2 = 0 ∨ b2 = 1) (hb3 : b3 = 0 ∨ b3 = 1) : xI td (rp_u2 (rp_u2 (rp_u2 (rp_u2 (rp_u2 ru r 5 kp) r 6 gr) r 7 b1) r 8 b2) r 9 b3) fr S hf hp row fi md mq (rp_u2 (rp_u2 (rp_u2 (rp_u2 (rp_u2 mv 4 r kp) 5 r gr) 6 r b1) 7 r b2) 8 r b3) (N + 1) := by
  refine xI_ru h (fun i j hi => by rw [rp_u2n _ _ (by omega), rp_u2n _ _ (by omega), rp_u2n _ _ (by omega), rp_u2n _ _ (by omega), rp_u2n _ _ (by omega)]) (fun k hk => ?_) (fun k hk => ?_)
  · have := h.1.2.2.1 k hk
    by_cases hkr : k = r
    · subst hkr
      simp [rp_u2, this]
    · simp [rp_u2, hkr, this]
  · have := h.2.2.2.1 k hk
    by_cases hkr : k = r
    · subst hkr
      simp [rp_u2, hok, hb1, hb2, hb3, this]
    · simp only [rp_u2, hkr, false_and, if_false]
      exact this
theorem xI_give {f r : Nat} (h : xI td ru fr S hf hp row fi md mq mv N) (hf5 : f < 5) (hr : r < 3) : xI td ru (va_up fr f r) S hf hp row fi md mq (rp_u2 mv 9 f (nI r)) (N + 1) := by
  obtain ⟨⟨m1, m2, m3, m4, m5, m6⟩, ht, u1, u2, u3, u4⟩ := h
  have e : ∀ i j, i ≠ 9 → rp_u2 mv 9 f (nI r) i j = mv i j := fun i j hi => rp_u2n _ _ (fun q => hi q.1)
  refine ⟨⟨m1, m2, fun k hk => ?_, fun g hg => ?_, fun k t hk => ?_, fun k hk => ?_⟩, tx_mono ht, u1, u2, fun g hg => ⟨?_, (u3 g hg).2⟩, fun j hj => ?_⟩
  · rw [e 0 k (by decide), e 1 k (by decide), e 2 k (by decide), e 3 k (by decide), e 4 k (by decide), e 5 k (by decide), e 6 k (by decide), e 7 k (by decide), e 8 k (by decide)]
    exact m3 k hk
  · rw [e 10 g (by decide), e 11 g (by decide), e 12 g (by decide), e 13 g (by decide)]
    refine ⟨?_, (m4 g hg).2⟩
    by_cases hgf : g = f
    · rw [hgf, va_up_self, rp_u2s]
    · rw [va_up_ne _ _ hgf, rp_u2n _ _ (fun q => hgf q.2)]
      exact (m4 g hg).1
  · rw [e 14 k (by decide), e 15 k (by decide), e 16 k (by decide), e 17 k (by decide)]
    exact m5 k t hk
  · rw [e 18 k (by decide), e 19 k (by decide)]
    exact m6 k hk
  · by_cases hgf : g = f
    · rw [hgf, va_up_self]; exact hr
    · rw [va_up_ne _ _ hgf]; exact (u3 g hg).1
  · rw [e 17 j (by decide)]
    exact u4 j hj
/-- the holders -/
theorem xI_ho {hf2 hp2 : Nat → Option Nat} {mv2 : Nat → Nat → Int32} (h : xI td ru fr S hf hp row fi md mq mv N) (hm : ∀ i j, i < 18 → mv2 i j = mv i j) (hH : mxH S.1 hf2 hp2 row fi mv2) : xI td ru fr S hf2 hp2 row fi md mq mv2 (N + 1) := by
  obtain ⟨⟨m1, m2, m3, m4, m5, m6⟩, ht, u1, u2, u3, u4⟩ := h
  refine ⟨⟨m1, m2, fun k hk => ?_, fun g hg => ?_, fun k t hk => ?_, hH⟩, tx_mono ht, u1, u2, u3, fun j hj => ?_⟩
  · rw [hm 0 k (by decide), hm 1 k (by decide), hm 2 k (by decide), hm 3 k (by decide), hm 4 k (by decide), hm 5 k (by decide), hm 6 k (by decide), hm 7 k (by decide), hm 8 k (by decide)]
    exact m3 k hk
  · rw [hm 9 g (by decide), hm 10 g (by decide), hm 11 g (by decide), hm 12 g (by decide), hm 13 g (by decide)]
    exact m4 g hg
  · rw [hm 14 k (by decide), hm 15 k (by decide), hm 16 k (by decide), hm 17 k (by decide)]
    exact m5 k t hk
  · rw [hm 17 j (by decide)]
    exact u4 j hj
theorem xI_open {a f : Nat} (h : xI td ru fr S hf hp row fi md mq mv N) (ha : a < 4) (hf5 : f < 5) : xI td ru fr S (va_up hf a (some f)) (va_up hp a (some (S.1 f))) row fi md mq (rp_u2 (rp_u2 mv 18 a (nI f)) 19 a (-1)) (N + 1) := by
  refine xI_ho h (fun i j hi => by rw [rp_u2n _ _ (by omega), rp_u2n _ _ (by omega)]) (fun k hk => ?_)
  by_cases hka : k = a
  · subst hka
    exact Or.inr ⟨f, hf5, va_up_self _ _ _, by simp [rp_u2], Or.inl ⟨va_up_self _ _ _, by simp [rp_u2]⟩⟩
  · have := h.1.2.2.2.2.2 k hk
    rw [va_up_ne _ _ hka, va_up_ne _ _ hka]
    simp only [rp_u2, hka, and_false, if_false]
    exact this
theorem xI_shut {a : Nat} (h : xI td ru fr S hf hp row fi md mq mv N) (ha : a < 4) : xI td ru fr S (va_up hf a none) (va_up hp a none) row fi md mq (rp_u2 (rp_u2 mv 18 a (-1)) 19 a (-1)) (N + 1) := by
  refine xI_ho h (fun i j hi => by rw [rp_u2n _ _ (by omega), rp_u2n _ _ (by omega)]) (fun k hk => ?_)
  by_cases hka : k = a
  · subst hka
    exact Or.inl ⟨va_up_self _ _ _, va_up_self _ _ _, by simp [rp_u2], by simp [rp_u2]⟩
  · have := h.1.2.2.2.2.2 k hk
    rw [va_up_ne _ _ hka, va_up_ne _ _ hka]
    simp only [rp_u2, hka, and_false, if_false]
    exact this
theorem xI_shut_b {a : Nat} (h : xI td ru fr S hf hp row fi md mq mv N) (ha : a < 4) : (hp a).isSome = decide (¬ mv 18 a = -1) := by
  rcases h.1.2.2.2.2.2 a ha with ⟨-, p, q, -⟩ | ⟨f, f5, -, q, ⟨p, -⟩ | ⟨j, u, -, -, p, -⟩⟩
  · rw [p, q]; rfl
  · rw [p, decide_eq_true (by rw [q]; exact m_nIn (by omega))]; rfl
  · rw [p, decide_eq_true (by rw [q]; exact m_nIn (by omega))]; rfl
theorem xI_none {a : Nat} (h : xI td ru fr S hf hp row fi md mq mv N) (ha : a < 4) : hf a = none ↔ mv 18 a = -1 := by
  rcases h.1.2.2.2.2.2 a ha with ⟨p, -, q, -⟩ | ⟨f, f5, p, q, -⟩
  · exact ⟨fun _ => q, fun _ => p⟩
  · exact ⟨fun z => (by rw [p] at z; cases z), fun z => absurd (q.symm.trans z) (m_nIn (by omega))⟩
theorem xI_none2 {a : Nat} (h : xI td ru fr S hf hp row fi md mq mv N) (ha : a < 4) : hp a = none ↔ mv 18 a = -1 := by
  rcases h.1.2.2.2.2.2 a ha with ⟨-, p, q, -⟩ | ⟨f, f5, -, q, ⟨p, -⟩ | ⟨j, u, -, -, p, -⟩⟩
  · exact ⟨fun _ => q, fun _ => p⟩
  · exact ⟨fun z => (by rw [p] at z; cases z), fun z => absurd (q.symm.trans z) (m_nIn (by omega))⟩
  · exact ⟨fun z => (by rw [p] at z; cases z), fun z => absurd (q.symm.trans z) (m_nIn (by omega))⟩
theorem xI_tell {a f : Nat} (h : xI td ru fr S hf hp row fi md mq mv N) (ha : a < 4) (hfa : hf a = some f) : xI td ru fr S hf (va_up hp a (some (S.1 f))) row fi md mq (rp_u2 mv 19 a (-1)) (N + 1) := by
  refine xI_ho h (fun i j hi => by rw [rp_u2n _ _ (by omega)]) (fun k hk => ?_)
  have := h.1.2.2.2.2.2 k hk
  by_cases hka : k = a
  · subst hka
    rcases this with ⟨p, -, -, -⟩ | ⟨g, g5, p, q, -⟩
    · rw [p] at hfa; cases hfa
    · obtain rfl : g = f := Option.some.inj (p.symm.trans hfa)
      exact Or.inr ⟨g, g5, p, by simpa [rp_u2] using q, Or.inl ⟨va_up_self _ _ _, by simp [rp_u2]⟩⟩
  · rw [va_up_ne _ _ hka]
    simp only [rp_u2, hka, and_false, if_false]
    exact this
theorem xI_tell_b {a f : Nat} (h : xI td ru fr S hf hp row fi md mq mv N) (hN : N < 512) (ha : a < 4) (hfa : hf a = some f) : decide (¬ hp a = some (S.1 f)) = decide (¬ mv 19 a = -1) := by
  rcases h.1.2.2.2.2.2 a ha with ⟨p, -, -, -⟩ | ⟨g, g5, p, -, ⟨q, z⟩ | ⟨j, u, e1, -, q, z⟩⟩
  · rw [p] at hfa; cases hfa
  · obtain rfl : g = f := Option.some.inj (p.symm.trans hfa)
    rw [q, z]; simp
  · obtain rfl : g = f := Option.some.inj (p.symm.trans hfa)
    have hu := List.mem_of_getElem? e1
    have hj := (List.getElem?_eq_some_iff.mp e1).1
    have hne : ¬ u = S.1 g := fun q => (h.2.1.2.2.2.1 g g5).2 (q ▸ hu)
    have hlen := h.2.1.2.1
    rw [q, z]
    exact (decide_eq_true (p := ¬ some u = some (S.1 g)) (fun w => hne (Option.some.inj w))).trans (decide_eq_true (p := ¬ nI j = -1) (m_nIn (by omega))).symm
theorem xI_advance {n : Int32} (h : xI td ru fr S hf hp row fi md mq mv N) (hn : rg_in n 1 100) (hle : td + n ≤ 5000) : xI (td + n) ru fr S hf hp row fi (md + n) mq mv (N + 1) := by
  obtain ⟨⟨m1, m2, m3, m4, m5, m6⟩, ht, ⟨e, he, e1⟩, u2, u3, u4⟩ := h
  refine ⟨⟨by rw [m1], m2, m3, m4, m5, m6⟩, tx_mono ht, ?_, u2, u3, u4⟩
  have hn0 : ¬ n < 0 := fun q => hn.1 (Int32.lt_iff_toInt_lt.mpr (by
    have := Int32.lt_iff_toInt_lt.mp q
    rw [show (0 : Int32).toInt = 0 from rfl] at this
    rw [show (1 : Int32).toInt = 1 from rfl]
    omega))
  obtain ⟨j, hj, rfl⟩ := nI_of hn0
  have hj2 : j ≤ 100 := (nI_leI (b := 100) hj (by decide)).mp hn.2
  rw [e1, nI_add] at hle ⊢
  exact ⟨e + j, (nI_leI (b := 5000) (by omega) (by decide)).mp hle, rfl⟩
theorem xI_lose {f : Nat} (h : xI td ru fr S hf hp row fi md mq mv N) (hf5 : f < 5) : xI td ru fr (S.1, va_up S.2.1 f td, va_up S.2.2.1 f 1, S.2.2.2) hf hp row fi md mq (rp_u2 (rp_u2 mv 11 f md) 12 f 1) (N + 1) := by
  obtain ⟨⟨m1, m2, m3, m4, m5, m6⟩, ht, u1, u2, u3, u4⟩ := h
  have e : ∀ i j, i ≠ 11 → i ≠ 12 → rp_u2 (rp_u2 mv 11 f md) 12 f 1 i j = mv i j := fun i j h1 h2 => by rw [rp_u2n _ _ (fun q => h2 q.1), rp_u2n _ _ (fun q => h1 q.1)]
  refine ⟨⟨m1, m2, fun k hk => ?_, fun g hg => ?_, fun k t hk => ?_, fun k hk => ?_⟩, tx_mono ht, u1, u2, fun g hg => ⟨(u3 g hg).1, ?_, ?_⟩, fun j hj => ?_⟩
  · rw [e 0 k (by decide) (by decide), e 1 k (by decide) (by decide), e 2 k (by decide) (by decide), e 3 k (by decide) (by decide), e 4 k (by decide) (by decide), e 5 k (by decide) (by decide), e 6 k (by decide) (by decide), e 7 k (by decide) (by decide), e 8 k (by decide) (by decide)]
    exact m3 k hk
  · rw [e 9 g (by decide) (by decide), e 10 g (by decide) (by decide), e 13 g (by decide) (by decide)]
    refine ⟨(m4 g hg).1, (m4 g hg).2.1, ?_, ?_, (m4 g hg).2.2.2.2⟩
    · show _ = va_up S.2.1 f td g
      by_cases hgf : g = f
      · rw [hgf, va_up_self, ← m1]; simp [rp_u2]
      · rw [va_up_ne _ _ hgf, ← (m4 g hg).2.2.1]; simp [rp_u2, hgf]
    · show _ = va_up S.2.2.1 f 1 g
      by_cases hgf : g = f
      · rw [hgf, va_up_self]; simp [rp_u2]
      · rw [va_up_ne _ _ hgf, ← (m4 g hg).2.2.2.1]; simp [rp_u2, hgf]
  · rw [e 14 k (by decide) (by decide), e 15 k (by decide) (by decide), e 16 k (by decide) (by decide), e 17 k (by decide) (by decide)]
    exact m5 k t hk
  · rw [e 18 k (by decide) (by decide), e 19 k (by decide) (by decide)]
    exact m6 k hk
  · show ∃ a, a ≤ 5000 ∧ va_up S.2.1 f td g = nI a
    by_cases hgf : g = f
    · rw [hgf, va_up_self]; exact u1
    · rw [va_up_ne _ _ hgf]; exact (u3 g hg).2.1
  · show va_up S.2.2.1 f 1 g = 0 ∨ va_up S.2.2.1 f 1 g = 1
    by_cases hgf : g = f
    · rw [hgf, va_up_self]; exact Or.inr rfl
    · rw [va_up_ne _ _ hgf]; exact (u3 g hg).2.2
  · rw [e 17 j (by decide) (by decide)]
    exact u4 j hj
end XI
