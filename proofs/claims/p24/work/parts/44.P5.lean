/-! what stays true: the turn of a file -/
def iv0 (e N : Nat) (td : Int32) (ru : Nat → Nat → Int32) (fr : Nat → Nat) (hf : Nat → Option Nat) (S : ts_T) (hp : Nat → Option Nat) (tt : Nat → Int32) (fi : Nat → Nat) : Prop :=
  (td = nI e ∧ e ≤ 5000) ∧ ivR ru ∧ ivF e fr S ∧ ivP e S fi ∧ ivC N S ∧ ivH S hf hp ∧ ivT S tt
def ivl (N : Nat) (S : ts_T) (f : Nat) : Prop := ((S.2.2.2.2.1 f).length ≤ 80 ∧ (S.2.2.2.2.1 f).length ≤ N) ∨ (80 < (S.2.2.2.2.1 f).length ∧ 2 * (S.2.2.2.2.1 f).length + (if S.2.2.2.2.2.2 0 (S.1 f) = 0 then 0 else 1) ≤ N + 81)
section IV3
variable {e N : Nat} {td : Int32} {ru : Nat → Nat → Int32} {fr : Nat → Nat} {hf hp : Nat → Option Nat} {S : ts_T} {tt : Nat → Int32} {fi : Nat → Nat} {f q : Nat}
theorem iv_z (h : iv e N td ru fr hf S hp tt fi) : iv0 e N td ru fr hf S hp tt fi := ⟨h.1, h.2.1, h.2.2.1, h.2.2.2.1, h.2.2.2.2.1, h.2.2.2.2.2.1, h.2.2.2.2.2.2.1⟩
theorem iv_zl (h : iv0 e N td ru fr hf S hp tt fi) (hl : ∀ f, f < 5 → ivl N S f) : iv e N td ru fr hf S hp tt fi := ⟨h.1, h.2.1, h.2.2.1, h.2.2.2.1, h.2.2.2.2.1, h.2.2.2.2.2.1, h.2.2.2.2.2.2, hl⟩
theorem iv0_mono (h : iv0 e N td ru fr hf S hp tt fi) : iv0 e (N + 1) td ru fr hf S hp tt fi := ⟨h.1, h.2.1, h.2.2.1, h.2.2.2.1, ivC_mono h.2.2.2.2.1, h.2.2.2.2.2⟩
theorem iv0_Ll (h : iv0 e N td ru fr hf S hp tt fi) : ∀ f, f < 5 → S.2.2.2.2.2.1 (S.1 f) := fun f hf5 => (h.2.2.2.1 f hf5).1.1
theorem iv0_in5 (h : iv0 e N td ru fr hf S hp tt fi) : ∀ f, f < 5 → ∀ q ∈ S.2.2.2.2.1 f, S.2.2.2.2.2.1 q := fun f hf5 q hq => ((h.2.2.2.1 f hf5).2.2.1 q hq).1
theorem iv0_apart (h : iv0 e N td ru fr hf S hp tt fi) {f g t : Nat} (hf5 : f < 5) (hg5 : g < 5) (hgf : g ≠ f) (ht : t = S.1 f ∨ t ∈ S.2.2.2.2.1 f) : t ≠ S.1 g ∧ ¬ t ∈ S.2.2.2.2.1 g := by
  have e1 : fi t = f := by
    rcases ht with rfl | ht
    · exact (h.2.2.2.1 f hf5).1.2.1
    · exact ((h.2.2.2.1 f hf5).2.2.1 t ht).2.1
  refine ⟨fun q => hgf ?_, fun q => hgf ?_⟩
  · rw [← e1, q]; exact ((h.2.2.2.1 g hg5).1.2.1).symm
  · rw [← e1]; exact (((h.2.2.2.1 g hg5).2.2.1 t q).2.1).symm
theorem iv0_turn (h : iv0 e N td ru fr hf S hp tt fi) (hf5 : f < 5) (hq : ¬ S.2.2.2.2.2.1 q) : iv0 e N td ru fr hf (t_turn td ru fr hp S f q) hp tt (va_up fi q f) := by
  have hap := fun g hg5 hgf t ht => iv0_apart (t := t) (g := g) h hf5 hg5 hgf ht
  have hap2 := fun g hg5 hgf t ht => iv0_apart (t := t) (f := g) h hg5 hf5 (Ne.symm hgf) ht
  obtain ⟨⟨htd, he⟩, a2, a3, a4, a5, a6, a7⟩ := h
  obtain ⟨lv, lt, et, tl, ol, PS, pf⟩ := S
  simp only [ivF, ivP, ivC, ivH, ivT] at a3 a4 a5 a6 a7
  simp only at hq hap hap2
  have hlq : ∀ g, g < 5 → lv g ≠ q := fun g hg z => hq (z ▸ (a4 g hg).1.1)
  have hoq : ∀ g, g < 5 → ∀ t ∈ ol g, t ≠ q := fun g hg t ht z => hq (z ▸ ((a4 g hg).2.2.1 t ht).1)
  obtain ⟨PF, hPF⟩ : ∃ z, z = t_tpf td ru fr lv hp ol pf f q := ⟨_, rfl⟩
  have p0 : ∀ t, t ≠ q → PF 0 t = pf 0 t := fun t ht => by rw [hPF]; exact tp_0 ht
  have p1 : ∀ t, t ≠ q → t ≠ lv f → PF 1 t = pf 1 t := fun t ht ht2 => by rw [hPF]; exact tp_1 ht ht2
  have p1l : PF 1 (lv f) = td := by rw [hPF]; exact tp_1l (hlq f hf5)
  have pq0 : PF 0 q = 0 := by rw [hPF]; exact tp_q (by decide)
  obtain ⟨⟨f1, f2, f3⟩, f4, f5, f6⟩ := a4 f hf5
  obtain ⟨KP, hKP⟩ : ∃ z, z = t_tkp td ru fr lv hp ol pf f q := ⟨_, rfl⟩
  have hKs : KP.Sublist (ol f ++ [lv f]) := by rw [hKP]; exact kp_sub _ _ _
  have hKm : ∀ t ∈ KP, t ∈ ol f ∨ t = lv f := fun t ht => by
    rcases List.mem_append.mp (hKs.subset ht) with z | z
    · exact Or.inl z
    · exact Or.inr (List.mem_singleton.mp z)
  have hKq : ¬ q ∈ KP := fun z => by
    rcases hKm q z with z | z
    · exact hoq f hf5 q z rfl
    · exact hlq f hf5 z.symm
  have nd1 : (ol f ++ [lv f]).Nodup := by
    rw [List.nodup_append]
    refine ⟨f4, by simp, fun a ha b hb => ?_⟩
    rw [List.mem_singleton.mp hb]
    exact fun z => f3 (z ▸ ha)
  have srt : (ol f ++ [lv f]).Pairwise (fun a b => PF 1 a ≤ PF 1 b) := by
    rw [List.pairwise_append]
    refine ⟨List.Pairwise.imp_of_mem (fun {a b} ha hb hab => ?_) f6, by simp, fun a ha b hb => ?_⟩
    · rw [p1 a (hoq f hf5 a ha) (fun z => f3 (z ▸ ha)), p1 b (hoq f hf5 b hb) (fun z => f3 (z ▸ hb))]
      exact hab
    · rw [List.mem_singleton.mp hb, p1l, p1 a (hoq f hf5 a ha) (fun z => f3 (z ▸ ha))]
      obtain ⟨d, d1, d2⟩ := (f5 a ha).2.2
      rw [d2, htd]
      exact nI_le d1 (by omega)
  have hGO : ∀ t, t_held hp t = true → ∀ m, t_tgo td ru fr lv hp ol pf f q t m = false := fun t ht m => by
    rw [t_tgo, t_goF, ht]
    exact t_go_held
  refine ⟨⟨htd, he⟩, a2, fun g hg => ⟨(a3 g hg).1, ?_, ?_⟩, fun g hg => ?_, fun t ht => ?_, fun k hk => ?_, fun g hg => ?_⟩
  · show ∃ a, a ≤ e ∧ va_up lt f td g = nI a
    by_cases hgf : g = f
    · rw [hgf, va_up_self]; exact ⟨e, Nat.le_refl e, htd⟩
    · rw [va_up_ne _ _ hgf]; exact (a3 g hg).2.1
  · show va_up et f 1 g = 0 ∨ va_up et f 1 g = 1
    by_cases hgf : g = f
    · rw [hgf, va_up_self]; exact Or.inr rfl
    · rw [va_up_ne _ _ hgf]; exact (a3 g hg).2.2
  · show ((PS (va_up lv f q g) ∨ va_up lv f q g = q) ∧ va_up fi q f (va_up lv f q g) = g ∧ ¬ va_up lv f q g ∈ va_up ol f (t_tkp td ru fr lv hp ol pf f q) g) ∧ (va_up ol f (t_tkp td ru fr lv hp ol pf f q) g).Nodup ∧ (∀ t ∈ va_up ol f (t_tkp td ru fr lv hp ol pf f q) g, (PS t ∨ t = q) ∧ va_up fi q f t = g ∧ ∃ d, d ≤ e ∧ t_tpf td ru fr lv hp ol pf f q 1 t = nI d) ∧ (va_up ol f (t_tkp td ru fr lv hp ol pf f q) g).Pairwise (fun a b => t_tpf td ru fr lv hp ol pf f q 1 a ≤ t_tpf td ru fr lv hp ol pf f q 1 b)
    rw [← hPF, ← hKP]
    by_cases hgf : g = f
    · subst hgf
      rw [va_up_self, va_up_self, va_up_self]
      refine ⟨⟨Or.inr rfl, rfl, hKq⟩, nd1.sublist hKs, fun t ht => ?_, srt.sublist hKs⟩
      rcases hKm t ht with z | z
      · obtain ⟨c1, c2, c3⟩ := f5 t z
        refine ⟨Or.inl c1, by rw [va_up_ne _ _ (hoq g hg t z)]; exact c2, ?_⟩
        rw [p1 t (hoq g hg t z) (fun w => f3 (w ▸ z))]
        exact c3
      · subst z
        exact ⟨Or.inl f1, by rw [va_up_ne _ _ (hlq g hg)]; exact f2, e, Nat.le_refl e, by rw [p1l, htd]⟩
    · rw [va_up_ne _ _ hgf, va_up_ne _ _ hgf, va_up_ne _ _ (hlq g hg)]
      obtain ⟨⟨b1, b2, b3⟩, b4, b5, b6⟩ := a4 g hg
      have hne : ∀ t ∈ ol g, t ≠ lv f := fun t ht => (hap2 g hg hgf t (Or.inr ht)).1
      refine ⟨⟨Or.inl b1, b2, b3⟩, b4, fun t ht => ?_, List.Pairwise.imp_of_mem (fun {a b} ha hb hab => ?_) b6⟩
      · obtain ⟨c1, c2, c3⟩ := b5 t ht
        refine ⟨Or.inl c1, by rw [va_up_ne _ _ (hoq g hg t ht)]; exact c2, ?_⟩
        rw [p1 t (hoq g hg t ht) (hne t ht)]
        exact c3
      · rw [p1 a (hoq g hg a ha) (hne a ha), p1 b (hoq g hg b hb) (hne b hb)]
        exact hab
  · show (∃ c, c ≤ 1000 * N ∧ t_tpf td ru fr lv hp ol pf f q 0 t = nI c) ∧ (t_tpf td ru fr lv hp ol pf f q 2 t = 0 ∨ t_tpf td ru fr lv hp ol pf f q 2 t = 1)
    by_cases htq : t = q
    · rw [htq, ← hPF, pq0, hPF, tp_q2 (fun z => hoq f hf5 q z rfl)]
      exact ⟨⟨0, Nat.zero_le _, rfl⟩, Or.inl rfl⟩
    · obtain ⟨c1, c2⟩ := a5 t (Or.resolve_right ht htq)
      rw [tp_2 htq, ← hPF, p0 t htq]
      refine ⟨c1, ?_⟩
      split
      · exact Or.inr rfl
      · exact c2
  · show (hf k = none ∧ hp k = none) ∨ ∃ g t, g < 5 ∧ hf k = some g ∧ hp k = some t ∧ (t = va_up lv f q g ∨ t ∈ va_up ol f (t_tkp td ru fr lv hp ol pf f q) g)
    rcases a6 k hk with z | ⟨g, t, g5, b1, b2, b3⟩
    · exact Or.inl z
    · refine Or.inr ⟨g, t, g5, b1, b2, ?_⟩
      by_cases hgf : g = f
      · subst hgf
        rw [va_up_self, va_up_self]
        have hh := t_held_of hk b2
        right
        exact kp_held _ (hGO t hh) _ _ (by rcases b3 with z | z; (rw [z]; simp); (exact List.mem_append_left _ z))
      · rw [va_up_ne _ _ hgf, va_up_ne _ _ hgf]
        exact b3
  · show t_sum (t_tpf td ru fr lv hp ol pf f q) (t_tpf td ru fr lv hp ol pf f q 0 (va_up lv f q g) + va_up tl f (t_sum (t_tpf td ru fr lv hp ol pf f q) (tl f) (t_tth td ru fr lv hp ol pf f q)) g) (va_up ol f (t_tkp td ru fr lv hp ol pf f q) g) = tt g
    rw [← hPF]
    by_cases hgf : g = f
    · subst hgf
      rw [va_up_self, va_up_self, va_up_self, pq0, Int32.zero_add, t_tkp, t_tth, kp_sum]
      rw [← a7 g hg]
      have e1 : ∀ (l : List Nat) (x : Int32), t_sum PF x (l ++ [lv g]) = t_sum PF x l + PF 0 (lv g) := by
        intro l
        induction l with
        | nil => intro x; rfl
        | cons u r ih => intro x; exact ih _
      rw [e1, p0 _ (hlq g hg), ts_congr (pg := pf) _ _ (fun t ht => p0 t (hoq g hg t ht)), Int32.add_comm (pf 0 (lv g)), ts_add]
    · rw [va_up_ne _ _ hgf, va_up_ne _ _ hgf, va_up_ne _ _ hgf, p0 _ (hlq g hg), ts_congr (pg := pf) _ _ (fun t ht => p0 t (hoq g hg t ht))]
      exact a7 g hg
/-! what a turn does -/
theorem tn_live : (t_turn td ru fr hp S f q).2.2.2.2.2.2 0 ((t_turn td ru fr hp S f q).1 f) = 0 := by
  show t_tpf _ _ _ _ _ _ _ f q 0 (va_up S.1 f q f) = 0
  rw [va_up_self]
  exact tp_q (by decide)
theorem tn_pf0 {t : Nat} (ht : t ≠ q) : (t_turn td ru fr hp S f q).2.2.2.2.2.2 0 t = S.2.2.2.2.2.2 0 t := tp_0 ht
theorem tn_lv {g : Nat} (hg : g ≠ f) : (t_turn td ru fr hp S f q).1 g = S.1 g := va_up_ne _ _ hg
theorem tn_ol {g : Nat} (hg : g ≠ f) : (t_turn td ru fr hp S f q).2.2.2.2.1 g = S.2.2.2.2.1 g := va_up_ne _ _ hg
theorem tn_lt {g : Nat} (hg : g ≠ f) : (t_turn td ru fr hp S f q).2.1 g = S.2.1 g := va_up_ne _ _ hg
theorem tn_et {g : Nat} (hg : g ≠ f) : (t_turn td ru fr hp S f q).2.2.1 g = S.2.2.1 g := va_up_ne _ _ hg
theorem tn_olf : (t_turn td ru fr hp S f q).2.2.2.2.1 f = t_tkp td ru fr S.1 hp S.2.2.2.2.1 S.2.2.2.2.2.2 f q := va_up_self _ _ _
theorem tn_len : ((t_turn td ru fr hp S f q).2.2.2.2.1 f).length + (t_tth td ru fr S.1 hp S.2.2.2.2.1 S.2.2.2.2.2.2 f q).length = (S.2.2.2.2.1 f).length + 1 := by
  rw [tn_olf, t_tkp, t_tth, kp_len]
  simp
theorem tn_ivl (hl : ivl N S f) (h : (S.2.2.2.2.1 f).length ≤ 80 ∨ ¬ S.2.2.2.2.2.2 0 (S.1 f) = 0) : ivl (N + 1) (t_turn td ru fr hp S f q) f := by
  have e1 := tn_len (td := td) (ru := ru) (fr := fr) (hp := hp) (S := S) (f := f) (q := q)
  unfold ivl at hl ⊢
  rw [tn_live, if_pos rfl]
  rcases hl with ⟨a, b⟩ | ⟨a, b⟩
  · omega
  · have h2 := h.resolve_left (by omega)
    rw [if_neg h2] at b
    omega
theorem tn_ivlo {g : Nat} (hg : g ≠ f) (hlq : S.1 g ≠ q) (hl : ivl N S g) : ivl N (t_turn td ru fr hp S f q) g := by
  unfold ivl at hl ⊢
  rw [tn_ol hg, tn_lv hg, tn_pf0 hlq]
  exact hl
theorem tn_sq (h : iv0 e N td ru fr hf S hp tt fi) (hf5 : f < 5) (hq : ¬ S.2.2.2.2.2.1 q) (h7 : ¬ ru (fr f) 7 = 0) {n t : Nat} (hn : ((t_turn td ru fr hp S f q).2.2.2.2.1 f)[n]? = some t) (hlast : n + 1 ≠ ((t_turn td ru fr hp S f q).2.2.2.2.1 f).length) (h0 : (t_turn td ru fr hp S f q).2.2.2.2.2.2 2 t = 0) : t_held hp t = true := by
  have e1 : t_tpf td ru fr S.1 hp S.2.2.2.2.1 S.2.2.2.2.2.2 f q 2 t = 0 := h0
  rw [tn_olf] at hn hlast
  obtain ⟨⟨f1, f2, f3⟩, f4, f5, f6⟩ := h.2.2.2.1 f hf5
  have hmem : t ∈ S.2.2.2.2.1 f := by
    have hs := (kp_sub (t_tgo td ru fr S.1 hp S.2.2.2.2.1 S.2.2.2.2.2.2 f q) (S.2.2.2.2.1 f) (S.2.2.2.2.1 f ++ [S.1 f]).length).subset
    rcases kp_app (t_tgo td ru fr S.1 hp S.2.2.2.2.1 S.2.2.2.2.2.2 f q) (S.1 f) (S.2.2.2.2.1 f) (S.2.2.2.2.1 f ++ [S.1 f]).length with z | z
    · rw [t_tkp, z] at hn
      exact hs (List.mem_of_getElem? hn)
    · rw [t_tkp, z] at hn hlast
      generalize t_kp (t_tgo td ru fr S.1 hp S.2.2.2.2.1 S.2.2.2.2.2.2 f q) (S.2.2.2.2.1 f ++ [S.1 f]).length (S.2.2.2.2.1 f) = M at hn hlast hs
      have hl := (List.getElem?_eq_some_iff.mp hn).1
      simp only [List.length_append, List.length_cons, List.length_nil] at hl hlast
      rw [List.getElem?_append_left (by omega)] at hn
      exact hs (List.mem_of_getElem? hn)
  have htq : t ≠ q := fun z => hq (z ▸ (f5 t hmem).1)
  rw [tp_2 htq] at e1
  cases hh : t_held hp t with
  | true => rfl
  | false =>
    rw [if_pos ⟨h7, hmem, hh⟩] at e1
    cases e1
theorem tn_dt {n t : Nat} (hn : ((t_turn td ru fr hp S f q).2.2.2.2.1 f)[n]? = some t) (hh : t_held hp t = false) (hage : ¬ td - (t_turn td ru fr hp S f q).2.2.2.2.2.2 1 t < ru (fr f) 4) (hl80 : (S.2.2.2.2.1 f).length ≤ 1000) : ¬ ru (fr f) 5 < nI ((t_turn td ru fr hp S f q).2.2.2.2.1 f).length ∧ ¬ (¬ ru (fr f) 6 = 0 ∧ ru (fr f) 6 < td - (t_turn td ru fr hp S f q).2.2.2.2.2.2 1 t) := by
  rw [tn_olf] at hn ⊢
  have e1 : (t_turn td ru fr hp S f q).2.2.2.2.2.2 = t_tpf td ru fr S.1 hp S.2.2.2.2.1 S.2.2.2.2.2.2 f q := rfl
  rw [e1] at hage ⊢
  obtain ⟨k, k1, k2, k3⟩ := kp_go (t_tgo td ru fr S.1 hp S.2.2.2.2.1 S.2.2.2.2.2.2 f q) (S.2.2.2.2.1 f ++ [S.1 f]) (S.2.2.2.2.1 f ++ [S.1 f]).length 0 (by omega) t (List.mem_of_getElem? hn)
  have hk9 : (S.2.2.2.2.1 f ++ [S.1 f]).length ≤ 1001 := by simp; omega
  rw [t_tgo, t_goF, t_go, hh] at k1
  simp only [Bool.not_false, Bool.and_true, Bool.and_eq_false_iff, Bool.not_eq_false', decide_eq_true_eq, Bool.or_eq_false_iff, decide_eq_false_iff_not] at k1
  rcases k1 with k1 | ⟨k1, k4⟩
  · exact absurd k1 hage
  · refine ⟨fun z => k1 ?_, fun z => ?_⟩
    · have : nI (t_tkp td ru fr S.1 hp S.2.2.2.2.1 S.2.2.2.2.2.2 f q).length ≤ nI k := nI_le (by rw [t_tkp]; omega) (by omega)
      exact Int32.lt_of_lt_of_le z this
    · rcases k4 with k4 | k4
      · exact k4 z.1
      · exact k4 z.2
theorem tn_keep (h : iv0 e N td ru fr hf S hp tt fi) (hf5 : f < 5) {k t : Nat} (hk : k < 4) (ht : hp k = some t) (hm : t = S.1 f ∨ t ∈ S.2.2.2.2.1 f) : t ∈ (t_turn td ru fr hp S f q).2.2.2.2.1 f ∧ (t = S.1 f → ((t_turn td ru fr hp S f q).2.2.2.2.1 f)[((t_turn td ru fr hp S f q).2.2.2.2.1 f).length - 1]? = some t ∧ 0 < ((t_turn td ru fr hp S f q).2.2.2.2.1 f).length) := by
  rw [tn_olf]
  have hh := t_held_of hk ht
  have hmem : t ∈ t_tkp td ru fr S.1 hp S.2.2.2.2.1 S.2.2.2.2.2.2 f q := kp_held _ (fun m => by rw [t_tgo, t_goF, hh]; exact t_go_held) _ _ (by rcases hm with z | z; (rw [z]; simp); (exact List.mem_append_left _ z))
  refine ⟨hmem, fun z => ?_⟩
  subst z
  obtain ⟨⟨f1, f2, f3⟩, f4, f5, f6⟩ := h.2.2.2.1 f hf5
  rcases kp_app (t_tgo td ru fr S.1 hp S.2.2.2.2.1 S.2.2.2.2.2.2 f q) (S.1 f) (S.2.2.2.2.1 f) (S.2.2.2.2.1 f ++ [S.1 f]).length with z | z
  · rw [t_tkp, z] at hmem
    exact absurd ((kp_sub _ _ _).subset hmem) f3
  · rw [t_tkp, z]
    simp
end IV3
