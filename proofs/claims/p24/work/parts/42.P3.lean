/-! what stays true: the small calls -/
theorem ts_add (pf : Nat → Nat → Int32) (d : Int32) : ∀ (l : List Nat) (x : Int32), t_sum pf (x + d) l = t_sum pf x l + d := by
  intro l
  induction l with
  | nil => intro x; rfl
  | cons t r ih =>
    intro x
    show t_sum pf (x + d + pf 0 t) r = t_sum pf (x + pf 0 t) r + d
    rw [← ih, Int32.add_assoc, Int32.add_comm d, ← Int32.add_assoc]
theorem ts_congr {pf pg : Nat → Nat → Int32} : ∀ (l : List Nat) (x : Int32), (∀ t ∈ l, pf 0 t = pg 0 t) → t_sum pf x l = t_sum pg x l := by
  intro l
  induction l with
  | nil => intro x _; rfl
  | cons t r ih =>
    intro x h
    show t_sum pf (x + pf 0 t) r = t_sum pg (x + pg 0 t) r
    rw [h t List.mem_cons_self, ih _ (fun u hu => h u (List.mem_cons_of_mem _ hu))]
theorem ts_one {pf : Nat → Nat → Int32} {t : Nat} (d : Int32) : ∀ (l : List Nat) (x : Int32), l.Nodup → t ∈ l → t_sum (rp_u2 pf 0 t (pf 0 t + d)) x l = t_sum pf x l + d := by
  intro l
  induction l with
  | nil => intro x _ h; cases h
  | cons u r ih =>
    intro x hn h
    rw [List.nodup_cons] at hn
    show t_sum _ (x + rp_u2 pf 0 t (pf 0 t + d) 0 u) r = t_sum pf (x + pf 0 u) r + d
    by_cases hu : u = t
    · subst hu
      rw [rp_u2s, ← Int32.add_assoc, ts_congr (pg := pf) r _ (fun v hv => rp_u2n _ _ (fun (q : 0 = 0 ∧ v = u) => hn.1 (q.2 ▸ hv))), ts_add]
    · rw [rp_u2n _ _ (fun q => hu q.2)]
      exact ih _ hn.2 ((List.mem_cons.mp h).resolve_left (fun q => hu q.symm))
theorem ivL_mono {N : Nat} {S : ts_T} (h : ivL N S) : ivL (N + 1) S := fun f hf => by
  rcases h f hf with ⟨a, b⟩ | ⟨a, b⟩
  · exact Or.inl ⟨a, by omega⟩
  · exact Or.inr ⟨a, by omega⟩
theorem ivC_mono {N : Nat} {S : ts_T} (h : ivC N S) : ivC (N + 1) S := fun t ht => by
  obtain ⟨⟨c, hc, e⟩, q⟩ := h t ht
  exact ⟨⟨c, by omega, e⟩, q⟩
section IV2
variable {e N : Nat} {td : Int32} {ru : Nat → Nat → Int32} {fr : Nat → Nat} {hf hp : Nat → Option Nat} {S : ts_T} {tt : Nat → Int32} {fi : Nat → Nat}
theorem iv_mono (h : iv e N td ru fr hf S hp tt fi) : iv e (N + 1) td ru fr hf S hp tt fi := by
  obtain ⟨a1, a2, a3, a4, a5, a6, a7, a8⟩ := h
  exact ⟨a1, a2, a3, a4, ivC_mono a5, a6, a7, ivL_mono a8⟩
theorem iv_setDue {r : Nat} {size wd mo le : Int32} (h : iv e N td ru fr hf S hp tt fi) (hok : rg_in size 0 10000 ∧ rg_in wd (-1) 6 ∧ rg_in mo (-1) 29 ∧ rg_in le 0 100) : iv e (N + 1) td (rp_u2 (rp_u2 (rp_u2 (rp_u2 ru r 1 size) r 2 wd) r 3 mo) r 4 le) fr hf S hp tt fi := by
  obtain ⟨a1, a2, a3, a4, a5, a6, a7, a8⟩ := h
  refine ⟨a1, fun k hk => ?_, a3, a4, ivC_mono a5, a6, a7, ivL_mono a8⟩
  by_cases hkr : k = r
  · subst hkr
    simpa [rp_u2] using ⟨hok, (a2 k hk).2⟩
  · simpa [rp_u2, hkr] using a2 k hk
theorem iv_setOld {r : Nat} {kp gr b1 b2 b3 : Int32} (h : iv e N td ru fr hf S hp tt fi) (hok : rg_in kp 0 10 ∧ rg_in gr 0 1000) (hb1 : b1 = 0 ∨ b1 = 1) (hb2 : b2 = 0 ∨ b2 = 1) (hb3 : b3 = 0 ∨ b3 = 1) : iv e (N + 1) td (rp_u2 (rp_u2 (rp_u2 (rp_u2 (rp_u2 ru r 5 kp) r 6 gr) r 7 b1) r 8 b2) r 9 b3) fr hf S hp tt fi := by
  obtain ⟨a1, a2, a3, a4, a5, a6, a7, a8⟩ := h
  refine ⟨a1, fun k hk => ?_, a3, a4, ivC_mono a5, a6, a7, ivL_mono a8⟩
  by_cases hkr : k = r
  · subst hkr
    have h1 := (a2 k hk).1
    simpa [rp_u2] using ⟨h1, hok.1, hok.2, hb1, hb2, hb3⟩
  · simpa [rp_u2, hkr] using a2 k hk
theorem iv_give {f r : Nat} (h : iv e N td ru fr hf S hp tt fi) (hr : r < 3) : iv e (N + 1) td ru (va_up fr f r) hf S hp tt fi := by
  obtain ⟨a1, a2, a3, a4, a5, a6, a7, a8⟩ := h
  refine ⟨a1, a2, fun k hk => ⟨?_, (a3 k hk).2⟩, a4, ivC_mono a5, a6, a7, ivL_mono a8⟩
  by_cases hkf : k = f
  · rw [hkf, va_up_self]; exact hr
  · rw [va_up_ne _ _ hkf]; exact (a3 k hk).1
theorem iv_open {k f : Nat} (h : iv e N td ru fr hf S hp tt fi) (hf5 : f < 5) : iv e (N + 1) td ru fr (va_up hf k (some f)) S (va_up hp k (some (S.1 f))) tt fi := by
  obtain ⟨a1, a2, a3, a4, a5, a6, a7, a8⟩ := h
  refine ⟨a1, a2, a3, a4, ivC_mono a5, fun j hj => ?_, a7, ivL_mono a8⟩
  by_cases hjk : j = k
  · rw [hjk, va_up_self, va_up_self]; exact Or.inr ⟨f, _, hf5, rfl, rfl, Or.inl rfl⟩
  · rw [va_up_ne _ _ hjk, va_up_ne _ _ hjk]; exact a6 j hj
theorem iv_shut {k : Nat} (h : iv e N td ru fr hf S hp tt fi) : iv e (N + 1) td ru fr (va_up hf k none) S (va_up hp k none) tt fi := by
  obtain ⟨a1, a2, a3, a4, a5, a6, a7, a8⟩ := h
  refine ⟨a1, a2, a3, a4, ivC_mono a5, fun j hj => ?_, a7, ivL_mono a8⟩
  by_cases hjk : j = k
  · rw [hjk, va_up_self, va_up_self]; exact Or.inl ⟨rfl, rfl⟩
  · rw [va_up_ne _ _ hjk, va_up_ne _ _ hjk]; exact a6 j hj
theorem iv_tell {k f : Nat} (h : iv e N td ru fr hf S hp tt fi) (hf5 : f < 5) (hk : hf k = some f) : iv e (N + 1) td ru fr hf S (va_up hp k (some (S.1 f))) tt fi := by
  obtain ⟨a1, a2, a3, a4, a5, a6, a7, a8⟩ := h
  refine ⟨a1, a2, a3, a4, ivC_mono a5, fun j hj => ?_, a7, ivL_mono a8⟩
  by_cases hjk : j = k
  · rw [hjk, va_up_self]; exact Or.inr ⟨f, _, hf5, hk, rfl, Or.inl rfl⟩
  · rw [va_up_ne _ _ hjk]; exact a6 j hj
theorem iv_advance {m : Nat} (h : iv e N td ru fr hf S hp tt fi) (hm : e + m ≤ 5000) : iv (e + m) (N + 1) (td + nI m) ru fr hf S hp tt fi := by
  obtain ⟨a1, a2, a3, a4, a5, a6, a7, a8⟩ := h
  refine ⟨⟨by rw [a1.1, nI_add], hm⟩, a2, fun k hk => ?_, fun k hk => ?_, ivC_mono a5, a6, a7, ivL_mono a8⟩
  · obtain ⟨b1, ⟨a, b2, b3⟩, b4⟩ := a3 k hk
    exact ⟨b1, ⟨a, by omega, b3⟩, b4⟩
  · obtain ⟨b1, b2, b3, b4⟩ := a4 k hk
    refine ⟨b1, b2, fun t ht => ?_, b4⟩
    obtain ⟨c1, c2, d, c3, c4⟩ := b3 t ht
    exact ⟨c1, c2, d, by omega, c4⟩
theorem iv_lose {f : Nat} (h : iv e N td ru fr hf S hp tt fi) : iv e (N + 1) td ru fr hf (S.1, va_up S.2.1 f td, va_up S.2.2.1 f 1, S.2.2.2) hp tt fi := by
  obtain ⟨a1, a2, a3, a4, a5, a6, a7, a8⟩ := h
  refine ⟨a1, a2, fun k hk => ⟨(a3 k hk).1, ?_, ?_⟩, a4, ivC_mono a5, a6, a7, ivL_mono a8⟩
  · show ∃ a, a ≤ e ∧ va_up S.2.1 f td k = nI a
    by_cases hkf : k = f
    · rw [hkf, va_up_self]; exact ⟨e, Nat.le_refl e, a1.1⟩
    · rw [va_up_ne _ _ hkf]; exact (a3 k hk).2.1
  · show va_up S.2.2.1 f 1 k = 0 ∨ va_up S.2.2.1 f 1 k = 1
    by_cases hkf : k = f
    · rw [hkf, va_up_self]; exact Or.inr rfl
    · rw [va_up_ne _ _ hkf]; exact (a3 k hk).2.2
/-- the parts of two files are apart -/
theorem iv_apart (h : iv e N td ru fr hf S hp tt fi) {f g t : Nat} (hf5 : f < 5) (hg5 : g < 5) (hgf : g ≠ f) (ht : t = S.1 f ∨ t ∈ S.2.2.2.2.1 f) : t ≠ S.1 g ∧ ¬ t ∈ S.2.2.2.2.1 g := by
  have e1 : fi t = f := by
    rcases ht with rfl | ht
    · exact (h.2.2.2.1 f hf5).1.2.1
    · exact ((h.2.2.2.1 f hf5).2.2.1 t ht).2.1
  refine ⟨fun q => hgf ?_, fun q => hgf ?_⟩
  · rw [← e1, q]; exact ((h.2.2.2.1 g hg5).1.2.1).symm
  · rw [← e1]; exact (((h.2.2.2.1 g hg5).2.2.1 t q).2.1).symm
theorem iv_write {f t m : Nat} (h : iv e N td ru fr hf S hp tt fi) (hf5 : f < 5) (ht : t = S.1 f ∨ t ∈ S.2.2.2.2.1 f) (hm : m ≤ 1000) : iv e (N + 1) td ru fr hf (S.1, S.2.1, S.2.2.1, S.2.2.2.1, S.2.2.2.2.1, S.2.2.2.2.2.1, rp_u2 S.2.2.2.2.2.2 0 t (S.2.2.2.2.2.2 0 t + nI m)) hp (va_up tt f (tt f + nI m)) fi := by
  have hap := fun g hg5 hgf => iv_apart (g := g) h hf5 hg5 hgf ht
  obtain ⟨a1, a2, a3, a4, a5, a6, a7, a8⟩ := h
  have r12 : ∀ i, i ≠ 0 → ∀ u, rp_u2 S.2.2.2.2.2.2 0 t (S.2.2.2.2.2.2 0 t + nI m) i u = S.2.2.2.2.2.2 i u := fun i hi u => rp_u2n _ _ (fun q => hi q.1)
  refine ⟨a1, a2, a3, fun k hk => ?_, fun u hu => ?_, a6, fun k hk => ?_, fun k hk => ?_⟩
  · obtain ⟨b1, b2, b3, b4⟩ := a4 k hk
    refine ⟨b1, b2, fun u hu => ?_, ?_⟩
    · show _ ∧ _ ∧ ∃ d, d ≤ e ∧ rp_u2 S.2.2.2.2.2.2 0 t (S.2.2.2.2.2.2 0 t + nI m) 1 u = nI d
      rw [r12 1 (by decide)]
      exact b3 u hu
    · show (S.2.2.2.2.1 k).Pairwise (fun a b => rp_u2 S.2.2.2.2.2.2 0 t (S.2.2.2.2.2.2 0 t + nI m) 1 a ≤ rp_u2 S.2.2.2.2.2.2 0 t (S.2.2.2.2.2.2 0 t + nI m) 1 b)
      simp only [r12 1 (by decide)]
      exact b4
  · obtain ⟨⟨c, hc, ec⟩, q⟩ := a5 u hu
    show (∃ c, c ≤ 1000 * (N + 1) ∧ rp_u2 S.2.2.2.2.2.2 0 t (S.2.2.2.2.2.2 0 t + nI m) 0 u = nI c) ∧ (rp_u2 S.2.2.2.2.2.2 0 t (S.2.2.2.2.2.2 0 t + nI m) 2 u = 0 ∨ rp_u2 S.2.2.2.2.2.2 0 t (S.2.2.2.2.2.2 0 t + nI m) 2 u = 1)
    rw [r12 2 (by decide)]
    refine ⟨?_, q⟩
    by_cases hut : u = t
    · subst hut
      rw [rp_u2s, ec, nI_add]
      exact ⟨c + m, by omega, rfl⟩
    · rw [rp_u2n _ _ (fun z => hut z.2)]
      exact ⟨c, by omega, ec⟩
  · show t_sum (rp_u2 S.2.2.2.2.2.2 0 t (S.2.2.2.2.2.2 0 t + nI m)) (rp_u2 S.2.2.2.2.2.2 0 t (S.2.2.2.2.2.2 0 t + nI m) 0 (S.1 k) + S.2.2.2.1 k) (S.2.2.2.2.1 k) = va_up tt f (tt f + nI m) k
    by_cases hkf : k = f
    · subst hkf
      rw [va_up_self, ← a7 k hk]
      obtain ⟨⟨b0, b00, b1⟩, b2, -⟩ := a4 k hk
      rcases ht with rfl | ht
      · rw [rp_u2s, ts_congr (pg := S.2.2.2.2.2.2) _ _ (fun u hu => rp_u2n _ _ (fun (q : 0 = 0 ∧ u = S.1 k) => b1 (q.2 ▸ hu))), Int32.add_assoc, Int32.add_comm (nI m), ← Int32.add_assoc, ts_add]
      · rw [rp_u2n _ _ (fun (q : 0 = 0 ∧ S.1 k = t) => b1 (q.2 ▸ ht)), ts_one _ _ _ b2 ht]
    · rw [va_up_ne _ _ hkf, ← a7 k hk]
      obtain ⟨q1, q2⟩ := hap k hk hkf
      rw [rp_u2n _ _ (fun q => q1 q.2.symm), ts_congr (pg := S.2.2.2.2.2.2) _ _ (fun u hu => rp_u2n _ _ (fun (q : 0 = 0 ∧ u = t) => q2 (q.2 ▸ hu)))]
  · have hw : (if rp_u2 S.2.2.2.2.2.2 0 t (S.2.2.2.2.2.2 0 t + nI m) 0 (S.1 k) = 0 then 0 else 1 : Nat) ≤ 1 := by split <;> omega
    rcases a8 k hk with ⟨b1, b2⟩ | ⟨b1, b2⟩
    · exact Or.inl ⟨b1, Nat.le_succ_of_le b2⟩
    · refine Or.inr ⟨b1, ?_⟩
      show 2 * (S.2.2.2.2.1 k).length + (if rp_u2 S.2.2.2.2.2.2 0 t (S.2.2.2.2.2.2 0 t + nI m) 0 (S.1 k) = 0 then 0 else 1) ≤ N + 1 + 81
      omega
end IV2
