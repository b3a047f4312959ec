/-! a run, as the law sees it -/
theorem sv_t {D : Nat → Bool} {k : Nat} (h : D k = true) : sv D k ||| (1 <<< (nI k &&& 31)) = sv D (k + 1) := by rw [sv, if_pos h]
theorem sv_f {D : Nat → Bool} {k : Nat} (h : D k = false) : sv D k ||| 0 = sv D (k + 1) := by rw [sv, if_neg (by rw [h]; decide), Int32.or_zero]
theorem sv_c {D : Nat → Bool} {k : Nat} (hk : k < 5) : t_bit (sv D 5) k = 1 ↔ D k = true := by
  rw [sv_bit D hk]
  cases D k <;> decide
/-- the rules that tell, of files turned -/
def tv (ru : Nat → Nat → Int32) (fr : Nat → Nat) (D : Nat → Bool) : Nat → Int32
  | 0 => 0
  | k + 1 => if D k = true then tv ru fr D k ||| (if ru (fr k) 9 = 1 then 1 <<< (nI (fr k) &&& 31) else 0) else tv ru fr D k
theorem or_bit : ∀ v, v < 8 → ∀ s, s < 3 → (nI v ||| (1 <<< (nI s &&& 31)) = nI (v ||| 2 ^ s) ∧ v ||| 2 ^ s < 8 ∧ ∀ r, r < 3 → (t_bit (nI (v ||| 2 ^ s)) r = 1 ↔ t_bit (nI v) r = 1 ∨ r = s)) := by decide +kernel
theorem tv_k {ru : Nat → Nat → Int32} {fr : Nat → Nat} {D : Nat → Bool} (hfr : ∀ f, f < 5 → fr f < 3) : ∀ k, k ≤ 5 → ∃ v, v < 8 ∧ tv ru fr D k = nI v ∧ ∀ r, r < 3 → (t_bit (nI v) r = 1 ↔ ∃ j, j < k ∧ D j = true ∧ fr j = r ∧ ru (fr j) 9 = 1) := by
  intro k
  induction k with
  | zero =>
    intro _
    refine ⟨0, by decide, rfl, fun r hr => ⟨fun h => ?_, fun ⟨j, hj, _⟩ => absurd hj (Nat.not_lt_zero j)⟩⟩
    have : r = 0 ∨ r = 1 ∨ r = 2 := by omega
    rcases this with rfl | rfl | rfl <;> exact absurd h (by decide)
  | succ k ih =>
    intro hk
    obtain ⟨v, h1, h2, h3⟩ := ih (by omega)
    by_cases hd : D k = true
    · by_cases hr : ru (fr k) 9 = 1
      · obtain ⟨o1, o2, o3⟩ := or_bit v h1 (fr k) (hfr k (by omega))
        refine ⟨v ||| 2 ^ fr k, o2, by rw [tv, if_pos hd, if_pos hr, h2, o1], fun r hr3 => ?_⟩
        rw [o3 r hr3, h3 r hr3]
        constructor
        · rintro (⟨j, a, b⟩ | rfl)
          · exact ⟨j, by omega, b⟩
          · exact ⟨k, by omega, hd, rfl, hr⟩
        · rintro ⟨j, a, b, c, d⟩
          by_cases hj : j = k
          · exact Or.inr (by rw [← c, hj])
          · exact Or.inl ⟨j, by omega, b, c, d⟩
      · refine ⟨v, h1, by rw [tv, if_pos hd, if_neg hr, h2, Int32.or_zero], fun r hr3 => ?_⟩
        rw [h3 r hr3]
        constructor
        · rintro ⟨j, a, b⟩; exact ⟨j, by omega, b⟩
        · rintro ⟨j, a, b, c, d⟩
          by_cases hj : j = k
          · rw [hj] at d; exact absurd d hr
          · exact ⟨j, by omega, b, c, d⟩
    · refine ⟨v, h1, by rw [tv, if_neg hd, h2], fun r hr3 => ?_⟩
      rw [h3 r hr3]
      constructor
      · rintro ⟨j, a, b⟩; exact ⟨j, by omega, b⟩
      · rintro ⟨j, a, b, c, d⟩
        by_cases hj : j = k
        · rw [hj] at b; exact absurd b hd
        · exact ⟨j, by omega, b, c, d⟩
theorem tv_c {ru : Nat → Nat → Int32} {fr : Nat → Nat} {D : Nat → Bool} (hfr : ∀ f, f < 5 → fr f < 3) {r : Nat} (hr : r < 3) : t_bit (tv ru fr D 5) r = 1 ↔ ∃ j, j < 5 ∧ D j = true ∧ fr j = r ∧ ru (fr j) 9 = 1 := by
  obtain ⟨v, h1, h2, h3⟩ := tv_k (ru := ru) (D := D) hfr 5 (Nat.le_refl 5)
  rw [h2]
  exact h3 r hr
/-- the files' row, those of the first k that were turned written -/
def fw (ff : Nat → Int32) (td : Int32) (D : Nat → Bool) : Nat → Nat → Int32
  | 0 => ff
  | k + 1 => if D k = true then upd (upd (fw ff td D k) (4 * k + 1) td) (4 * k + 2) 1 else fw ff td D k
theorem fw_at {ff : Nat → Int32} {td : Int32} {D : Nat → Bool} {f : Nat} : ∀ k, fw ff td D k (4 * f) = ff (4 * f) ∧ fw ff td D k (4 * f + 3) = ff (4 * f + 3) ∧ fw ff td D k (4 * f + 1) = (if f < k ∧ D f = true then td else ff (4 * f + 1)) ∧ fw ff td D k (4 * f + 2) = (if f < k ∧ D f = true then 1 else ff (4 * f + 2)) := by
  intro k
  induction k with
  | zero => exact ⟨rfl, rfl, by rw [if_neg (fun z => absurd z.1 (Nat.not_lt_zero f))]; rfl, by rw [if_neg (fun z => absurd z.1 (Nat.not_lt_zero f))]; rfl⟩
  | succ k ih =>
    obtain ⟨i1, i2, i3, i4⟩ := ih
    rw [fw]
    by_cases hd : D k = true
    · rw [if_pos hd]
      simp only [upd]
      rw [if_neg (by omega), if_neg (by omega), if_neg (by omega), if_neg (by omega), if_neg (by omega)]
      refine ⟨i1, i2, ?_, ?_⟩
      · by_cases hf : f = k
        · subst hf; rw [if_pos rfl, if_pos ⟨by omega, hd⟩]
        · rw [if_neg (by omega), i3]
          simp only [show (f < k + 1) = (f < k) from propext (by omega)]
      · by_cases hf : f = k
        · subst hf; rw [if_pos rfl, if_pos ⟨by omega, hd⟩]
        · rw [if_neg (by omega), if_neg (by omega), i4]
          simp only [show (f < k + 1) = (f < k) from propext (by omega)]
    · rw [if_neg hd]
      refine ⟨i1, i2, i3.trans ?_, i4.trans ?_⟩ <;>
      · by_cases hf : f = k
        · rw [if_neg (fun z => hd (by rw [← hf]; exact z.2)), if_neg (fun z => hd (by rw [← hf]; exact z.2))]
        · simp only [show (f < k + 1) = (f < k) from propext (by omega)]
section P10
variable {ed N : Nat} {td : Int32} {ru : Nat → Nat → Int32} {fr : Nat → Nat} {hf hp : Nat → Option Nat} {S T : ts_T} {tt : Nat → Int32} {fi fi3 : Nat → Nat} {b : Int32} {ff : Nat → Int32}
theorem lf_run (h : lf ff fr S tt) (htu : ∀ f, f < 5 → t_dueS td ru fr S f = true → run_turned td hp S T f) (hsa : ∀ f, f < 5 → t_dueS td ru fr S f = false → run_same S T f) : lf (fw ff td (t_dueS td ru fr S) 5) fr T tt := fun f hf => by
  obtain ⟨a1, a2, a3, a4⟩ := h f hf
  obtain ⟨i1, i2, i3, i4⟩ := fw_at (ff := ff) (td := td) (D := t_dueS td ru fr S) (f := f) 5
  refine ⟨i1.trans a1, ?_, ?_, i2.trans a4⟩
  · rw [i3]
    cases hd : t_dueS td ru fr S f with
    | true => rw [if_pos ⟨hf, rfl⟩]; exact (htu f hf hd).2.1.symm
    | false => rw [if_neg (fun z => by cases z.2)]; exact a2.trans (hsa f hf hd).2.2.1.symm
  · rw [i4]
    cases hd : t_dueS td ru fr S f with
    | true => rw [if_pos ⟨hf, rfl⟩]; exact (htu f hf hd).2.2.1.symm
    | false => rw [if_neg (fun z => by cases z.2)]; exact a3.trans (hsa f hf hd).2.2.2.1.symm
/-- the holders behind a run -/
theorem run_hz (hI : iv ed N td ru fr hf S hp tt fi) (hIT : iv ed (N + 1) td ru fr hf T (t_tls (sv (t_dueS td ru fr S) 5) ru fr T.1 hf hp 3) tt fi3) (hN : N + 1 ≤ 111) (htu : ∀ f, f < 5 → t_dueS td ru fr S f = true → run_turned td hp S T f) (hsa : ∀ f, f < 5 → t_dueS td ru fr S f = false → run_same S T f) {k g t : Nat} (hk : k < 4) (h1 : hf k = some g) (h2 : hp k = some t) :
    ∃ p, p ≤ 96 ∧ hz hf (t_tls (sv (t_dueS td ru fr S) 5) ru fr T.1 hf hp 3) T.2.2.2.2.1 k = nI (100 * g + p) ∧ (t_bit (tv ru fr (t_dueS td ru fr S) 5) (fr g) = 1 → p = 0) ∧ (¬ t_bit (tv ru fr (t_dueS td ru fr S) 5) (fr g) = 1 → t_dueS td ru fr S g = true → 0 < p) ∧ (¬ t_bit (tv ru fr (t_dueS td ru fr S) 5) (fr g) = 1 → ¬ t_dueS td ru fr S g = true → nI (100 * g + p) = hz hf hp S.2.2.2.2.1 k) := by
  have hfr : ∀ f, f < 5 → fr f < 3 := fun f hf5 => (hI.2.2.1 f hf5).1
  have hm : g < 5 ∧ (t = S.1 g ∨ t ∈ S.2.2.2.2.1 g) := by
    rcases hI.2.2.2.2.2.1 k hk with ⟨a, -⟩ | ⟨g2, u, g5, a, b, c⟩
    · rw [h1] at a; cases a
    · rw [h1] at a; cases a
      rw [h2] at b; cases b
      exact ⟨g5, c⟩
  obtain ⟨g5, hm⟩ := hm
  have e1 := tls_some (b := sv (t_dueS td ru fr S) 5) (ru := ru) (fr := fr) (lv := T.1) (hp := hp) hk h1 3
  have hbits : (fr g < 3 ∧ ¬ ru (fr g) 9 = 0 ∧ t_among fr (sv (t_dueS td ru fr S) 5) (fr g) = true) ↔ t_bit (tv ru fr (t_dueS td ru fr S) 5) (fr g) = 1 := by
    rw [tv_c hfr (hfr g g5), sv_among]
    constructor
    · rintro ⟨-, a, j, b, c, d⟩
      refine ⟨j, b, c, d, ?_⟩
      rw [d]
      exact (((hI.2.1 (fr g) (hfr g g5)).2.2.2.2.2).resolve_left a)
    · rintro ⟨j, b, c, d, a⟩
      rw [d] at a
      exact ⟨hfr g g5, fun z => by rw [z] at a; exact absurd a (by decide), j, b, c, d⟩
  have hlen := iv_len hIT hN g g5
  obtain ⟨⟨f1, f2, f3⟩, f4, -⟩ := hIT.2.2.2.1 g g5
  by_cases hT : t_bit (tv ru fr (t_dueS td ru fr S) 5) (fr g) = 1
  · rw [if_pos (hbits.mpr hT)] at e1
    refine ⟨0, Nat.zero_le _, ?_, fun _ => rfl, fun z => absurd hT z, fun z => absurd hT z⟩
    rw [hz_some h1 e1, pl_no f3]
  · rw [if_neg (fun z => hT (hbits.mp z)), h2] at e1
    refine ⟨pl (T.2.2.2.2.1 g) t, Nat.le_trans (pl_le _ _) hlen, hz_some h1 e1, fun z => absurd z hT, fun _ hd => pl_pos f4 ((htu g g5 hd).2.2.2 k t hk h2 hm), fun _ hd => ?_⟩
    have hd2 : t_dueS td ru fr S g = false := by cases hz9 : t_dueS td ru fr S g with | true => exact absurd hz9 hd | false => rfl
    rw [hz_some h1 h2, (hsa g g5 hd2).2.1]
end P10
/-! small facts for the law's calls -/
theorem rg_n {j b c : Nat} (h : j ≤ b) (hb : b < 2 ^ 31) (hc : c ≤ j) : rg_in (nI j) (nI c) (nI b) := ⟨nI_nlt hc (by omega), nI_le h hb⟩
theorem rg_m {j b : Nat} (h : j ≤ b) (hb : b < 2 ^ 31) : rg_in (nI j) (-1) (nI b) := ⟨fun q => by
  rw [Int32.lt_iff_toInt_lt, nI_toInt (by omega), show (-1 : Int32).toInt = -1 from rfl] at q
  omega, nI_le h hb⟩
theorem bit01 {j : Nat} (h : j < 2) : nI j = 0 ∨ nI j = 1 := by
  rcases (show j = 0 ∨ j = 1 by omega) with rfl | rfl
  · exact Or.inl rfl
  · exact Or.inr rfl
section P11
variable {fr : Nat → Nat} {S : ts_T} {tt ff : Nat → Int32} {td v : Int32} {f r t : Nat} {pf2 : Nat → Nat → Int32}
theorem lf_give (h : lf ff fr S tt) : lf (upd ff (4 * f) (nI r)) (va_up fr f r) S tt := fun g hg => by
  obtain ⟨a1, a2, a3, a4⟩ := h g hg
  refine ⟨?_, by rw [pk_un (by omega)]; exact a2, by rw [pk_un (by omega)]; exact a3, by rw [pk_un (by omega)]; exact a4⟩
  by_cases hgf : g = f
  · rw [hgf, va_up_self, pk_us]
  · rw [va_up_ne _ _ hgf, pk_un (by omega)]; exact a1
theorem lf_lose (h : lf ff fr S tt) : lf (upd (upd ff (4 * f + 1) td) (4 * f + 2) 1) fr (S.1, va_up S.2.1 f td, va_up S.2.2.1 f 1, S.2.2.2) tt := fun g hg => by
  obtain ⟨a1, a2, a3, a4⟩ := h g hg
  refine ⟨by rw [pk_un (by omega), pk_un (by omega)]; exact a1, ?_, ?_, by rw [pk_un (by omega), pk_un (by omega)]; exact a4⟩
  · show _ = va_up S.2.1 f td g
    by_cases hgf : g = f
    · rw [hgf, va_up_self, pk_un (by omega), pk_us]
    · rw [va_up_ne _ _ hgf, pk_un (by omega), pk_un (by omega)]; exact a2
  · show _ = va_up S.2.2.1 f 1 g
    by_cases hgf : g = f
    · rw [hgf, va_up_self, pk_us]
    · rw [va_up_ne _ _ hgf, pk_un (by omega), pk_un (by omega)]; exact a3
theorem lf_write (h : lf ff fr S tt) : lf (upd ff (4 * f + 3) (tt f + v)) fr (S.1, S.2.1, S.2.2.1, S.2.2.2.1, S.2.2.2.2.1, S.2.2.2.2.2.1, pf2) (va_up tt f (tt f + v)) := fun g hg => by
  obtain ⟨a1, a2, a3, a4⟩ := h g hg
  refine ⟨by rw [pk_un (by omega)]; exact a1, by rw [pk_un (by omega)]; exact a2, by rw [pk_un (by omega)]; exact a3, ?_⟩
  by_cases hgf : g = f
  · rw [hgf, va_up_self, pk_us]
  · rw [va_up_ne _ _ hgf, pk_un (by omega)]; exact a4
end P11
