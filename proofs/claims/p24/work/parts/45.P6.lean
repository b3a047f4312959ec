/-! what stays true: a run -/
/-- the bits of those that are due -/
def sv (d : Nat → Bool) : Nat → Int32
  | 0 => 0
  | k + 1 => if d k = true then sv d k ||| (1 <<< (nI k &&& 31)) else sv d k
theorem sv_bit (d : Nat → Bool) {f : Nat} (hf : f < 5) : t_bit (sv d 5) f = if d f = true then 1 else 0 := by
  simp only [sv]
  have hf2 : f = 0 ∨ f = 1 ∨ f = 2 ∨ f = 3 ∨ f = 4 := by omega
  generalize h0 : d 0 = d0
  generalize h1 : d 1 = d1
  generalize h2 : d 2 = d2
  generalize h3 : d 3 = d3
  generalize h4 : d 4 = d4
  rcases hf2 with rfl | rfl | rfl | rfl | rfl
  · rw [h0]; clear h0 h1 h2 h3 h4; revert d0 d1 d2 d3 d4; decide +kernel
  · rw [h1]; clear h0 h1 h2 h3 h4; revert d0 d1 d2 d3 d4; decide +kernel
  · rw [h2]; clear h0 h1 h2 h3 h4; revert d0 d1 d2 d3 d4; decide +kernel
  · rw [h3]; clear h0 h1 h2 h3 h4; revert d0 d1 d2 d3 d4; decide +kernel
  · rw [h4]; clear h0 h1 h2 h3 h4; revert d0 d1 d2 d3 d4; decide +kernel
theorem x_any {n : Nat} {p : Nat → Bool} : (List.range n).any p = true ↔ ∃ j, j < n ∧ p j = true := by
  rw [List.any_eq_true]
  exact ⟨fun ⟨j, h1, h2⟩ => ⟨j, List.mem_range.mp h1, h2⟩, fun ⟨j, h1, h2⟩ => ⟨j, List.mem_range.mpr h1, h2⟩⟩
theorem sv_among {d : Nat → Bool} {fr : Nat → Nat} {r : Nat} : t_among fr (sv d 5) r = true ↔ ∃ f, f < 5 ∧ d f = true ∧ fr f = r := by
  rw [t_among, x_any]
  constructor
  · rintro ⟨j, h1, h2⟩
    rw [Bool.and_eq_true, decide_eq_true_eq, decide_eq_true_eq, sv_bit d h1] at h2
    refine ⟨j, h1, ?_, h2.2⟩
    cases hd : d j with
    | true => rfl
    | false => rw [hd] at h2; exact absurd rfl h2.1
  · rintro ⟨j, h1, h2, h3⟩
    refine ⟨j, h1, ?_⟩
    rw [Bool.and_eq_true, decide_eq_true_eq, decide_eq_true_eq, sv_bit d h1, if_pos h2]
    exact ⟨by decide, h3⟩
theorem tl_at {fr lv : Nat → Nat} {hf hp : Nat → Option Nat} {r h : Nat} (hh : h < 4) : t_tl fr lv hf r hp 4 h = (match hf h with
    | some f => if fr f = r then some (lv f) else hp h
    | none => hp h) := by
  simp only [t_tl, if_pos hh]
  cases hf h <;> rfl
theorem tls_none {b : Int32} {ru : Nat → Nat → Int32} {fr lv : Nat → Nat} {hf hp : Nat → Option Nat} {h : Nat} (hh : h < 4) (h1 : hf h = none) : ∀ k, t_tls b ru fr lv hf hp k h = hp h := by
  intro k
  induction k with
  | zero => rfl
  | succ k ih =>
    simp only [t_tls]
    split
    · rw [tl_at hh, h1]; exact ih
    · exact ih
theorem tls_some {b : Int32} {ru : Nat → Nat → Int32} {fr lv : Nat → Nat} {hf hp : Nat → Option Nat} {h f : Nat} (hh : h < 4) (h1 : hf h = some f) : ∀ k, t_tls b ru fr lv hf hp k h = if fr f < k ∧ ¬ ru (fr f) 9 = 0 ∧ t_among fr b (fr f) = true then some (lv f) else hp h := by
  intro k
  induction k with
  | zero => rw [if_neg (fun z => absurd z.1 (Nat.not_lt_zero _))]; rfl
  | succ k ih =>
    simp only [t_tls]
    by_cases hc : ¬ ru k 9 = 0 ∧ t_among fr b k = true
    · rw [if_pos hc, tl_at hh, h1]
      show (if fr f = k then some (lv f) else t_tls b ru fr lv hf hp k h) = _
      by_cases hk : fr f = k
      · rw [if_pos hk, if_pos ⟨by omega, by rw [hk]; exact hc⟩]
      · rw [if_neg hk, ih]
        by_cases hl : fr f < k ∧ ¬ ru (fr f) 9 = 0 ∧ t_among fr b (fr f) = true
        · rw [if_pos hl, if_pos ⟨by omega, hl.2⟩]
        · rw [if_neg hl, if_neg (fun z => hl ⟨by omega, z.2⟩)]
    · rw [if_neg hc, ih]
      by_cases hl : fr f < k ∧ ¬ ru (fr f) 9 = 0 ∧ t_among fr b (fr f) = true
      · rw [if_pos hl, if_pos ⟨by omega, hl.2⟩]
      · refine (if_neg hl).trans (if_neg (fun z => ?_)).symm
        by_cases hk : fr f = k
        · exact hc (by rw [← hk]; exact z.2)
        · exact hl ⟨by omega, z.2⟩
theorem t_among0 {fr : Nat → Nat} {r : Nat} : t_among fr 0 r = false := t_among_f (fun f hf z => by
  have : f = 0 ∨ f = 1 ∨ f = 2 ∨ f = 3 ∨ f = 4 := by omega
  rcases this with rfl | rfl | rfl | rfl | rfl <;> exact z.1 (by decide))
theorem tls_0 {ru : Nat → Nat → Int32} {fr lv : Nat → Nat} {hf hp : Nat → Option Nat} : ∀ k, t_tls 0 ru fr lv hf hp k = hp := by
  intro k
  induction k with
  | zero => rfl
  | succ k ih =>
    simp only [t_tls]
    rw [if_neg (fun z => by rw [t_among0] at z; cases z.2)]
    exact ih
section IV4
variable {e N : Nat} {td : Int32} {ru : Nat → Nat → Int32} {fr : Nat → Nat} {hf hp : Nat → Option Nat} {S S0 : ts_T} {tt : Nat → Int32} {fi : Nat → Nat} {b : Int32}
theorem due_0 {f : Nat} (h : S.2.2.2.2.2.2 0 (S.1 f) = 0) : t_dueS td ru fr S f = false := by
  rw [t_dueS, h]
  simp [t_due]
theorem run_none (h : ∀ f, f < 5 → t_dueS td ru fr S0 f = false) : ∀ k, k ≤ 5 → ∀ (S : ts_T) (b : Int32), t_runR td ru fr hp S0 k S b → S = S0 ∧ b = 0 := by
  intro k
  induction k with
  | zero => rintro _ S b ⟨rfl, rfl⟩; exact ⟨rfl, rfl⟩
  | succ k ih =>
    rintro hk S b ⟨S1, b1, hrel, hstep⟩
    obtain ⟨rfl, rfl⟩ := ih (by omega) S1 b1 hrel
    rcases hstep with ⟨hd, -⟩ | ⟨-, rfl, rfl⟩
    · rw [h k (by omega)] at hd; cases hd
    · exact ⟨rfl, rfl⟩
/-- a file that was not turned -/
def run_same (S0 S : ts_T) (f : Nat) : Prop := S.1 f = S0.1 f ∧ S.2.2.2.2.1 f = S0.2.2.2.2.1 f ∧ S.2.1 f = S0.2.1 f ∧ S.2.2.1 f = S0.2.2.1 f ∧ S.2.2.2.2.2.2 0 (S.1 f) = S0.2.2.2.2.2.2 0 (S0.1 f)
/-- a file that was turned -/
def run_turned (td : Int32) (hp : Nat → Option Nat) (S0 S : ts_T) (f : Nat) : Prop := S.2.2.2.2.2.2 0 (S.1 f) = 0 ∧ S.2.1 f = td ∧ S.2.2.1 f = 1 ∧ ∀ k t, k < 4 → hp k = some t → (t = S0.1 f ∨ t ∈ S0.2.2.2.2.1 f) → t ∈ S.2.2.2.2.1 f
theorem run_due {f : Nat} (h : run_same S0 S f) : t_dueS td ru fr S f = t_dueS td ru fr S0 f := by
  obtain ⟨h1, h2, h3, h4, h5⟩ := h
  rw [t_dueS, t_dueS, h5, h3, h4]
theorem run_k (h : iv0 e N td ru fr hf S0 hp tt fi) (hl : ∀ f, f < 5 → ivl N S0 f) : ∀ k, k ≤ 5 → ∀ (S : ts_T) (b : Int32), t_runR td ru fr hp S0 k S b → b = sv (t_dueS td ru fr S0) k ∧ ∃ fi2, iv0 e N td ru fr hf S hp tt fi2 ∧ (∀ f, f < 5 → ivl (N + 1) S f) ∧ (∀ f, f < 5 → f < k → t_dueS td ru fr S0 f = true → run_turned td hp S0 S f) ∧ ∀ f, f < 5 → (k ≤ f ∨ t_dueS td ru fr S0 f = false) → run_same S0 S f ∧ ivl N S f := by
  intro k
  induction k with
  | zero =>
    rintro _ S b ⟨rfl, rfl⟩
    exact ⟨rfl, fi, h, fun f hf5 => by
      rcases hl f hf5 with z | z
      · exact Or.inl ⟨z.1, by omega⟩
      · exact Or.inr ⟨z.1, by omega⟩, fun f _ h0 => absurd h0 (Nat.not_lt_zero f), fun f hf5 _ => ⟨⟨rfl, rfl, rfl, rfl, rfl⟩, hl f hf5⟩⟩
  | succ k ih =>
    rintro hk S b ⟨S1, b1, hrel, hstep⟩
    obtain ⟨rfl, fi2, h2, hl2, ht2, hs2⟩ := ih (by omega) S1 b1 hrel
    have hk5 : k < 5 := by omega
    obtain ⟨hsk, hlk⟩ := hs2 k hk5 (Or.inl (Nat.le_refl k))
    have hdk := run_due (td := td) (ru := ru) (fr := fr) hsk
    rcases hstep with ⟨hd, q, hq, rfl, rfl⟩ | ⟨hd, rfl, rfl⟩
    · rw [hdk] at hd
      have hne : ∀ g, g < 5 → S1.1 g ≠ q := fun g hg z => hq (z ▸ iv0_Ll h2 g hg)
      have same : ∀ f, f < 5 → f ≠ k → run_same S0 S1 f → run_same S0 (t_turn td ru fr hp S1 k q) f := fun f hf5 hfk z => by
        obtain ⟨z1, z2, z3, z4, z5⟩ := z
        exact ⟨(tn_lv hfk).trans z1, (tn_ol hfk).trans z2, (tn_lt hfk).trans z3, (tn_et hfk).trans z4, by rw [tn_lv hfk, tn_pf0 (hne f hf5)]; exact z5⟩
      refine ⟨by rw [sv, if_pos hd], va_up fi2 q k, iv0_turn h2 hk5 hq, fun f hf5 => ?_, fun f hf5 hfk hdf => ?_, fun f hf5 hor => ?_⟩
      · by_cases hfk : f = k
        · subst hfk
          refine tn_ivl hlk (Or.inr (fun z => ?_))
          rw [hsk.2.2.2.2] at z
          rw [due_0 z] at hd
          cases hd
        · exact tn_ivlo hfk (hne f hf5) (hl2 f hf5)
      · by_cases hfk2 : f = k
        · subst hfk2
          refine ⟨tn_live, va_up_self _ _ _, va_up_self _ _ _, fun j t hj hjt hm => ?_⟩
          refine (tn_keep h2 hf5 hj hjt ?_).1
          rw [hsk.1, hsk.2.1]
          exact hm
        · obtain ⟨z1, z2, z3, z4⟩ := ht2 f hf5 (by omega) hdf
          exact ⟨by rw [tn_lv hfk2, tn_pf0 (hne f hf5)]; exact z1, (tn_lt hfk2).trans z2, (tn_et hfk2).trans z3, fun j t hj hjt hm => by rw [tn_ol hfk2]; exact z4 j t hj hjt hm⟩
      · have hfk : f ≠ k := fun z => by
          rcases hor with z2 | z2
          · omega
          · rw [z, hd] at z2; cases z2
        obtain ⟨z1, z2⟩ := hs2 f hf5 (hor.imp (fun z => by omega) id)
        exact ⟨same f hf5 hfk z1, tn_ivlo hfk (hne f hf5) z2⟩
    · rw [hdk] at hd
      refine ⟨by rw [sv, if_neg (by rw [hd]; decide)], fi2, h2, hl2, fun f hf5 hfk hdf => ht2 f hf5 ?_ hdf, fun f hf5 hor => hs2 f hf5 ?_⟩
      · have : f ≠ k := fun z => by rw [z, hd] at hdf; cases hdf
        omega
      · rcases hor with z | z
        · exact Or.inl (by omega)
        · exact Or.inr z
/-- a run: what is turned, and what stays true -/
theorem iv_run (h : iv e N td ru fr hf S0 hp tt fi) (hr : t_runR td ru fr hp S0 5 S b) : b = sv (t_dueS td ru fr S0) 5 ∧ (∃ fi2, iv e (N + 1) td ru fr hf S (t_tls b ru fr S.1 hf hp 3) tt fi2) ∧ (∀ f, f < 5 → t_dueS td ru fr S0 f = true → run_turned td hp S0 S f) ∧ ∀ f, f < 5 → t_dueS td ru fr S0 f = false → run_same S0 S f := by
  obtain ⟨e1, fi2, h2, hl2, ht, hs⟩ := run_k (iv_z h) h.2.2.2.2.2.2.2 5 (Nat.le_refl 5) S b hr
  refine ⟨e1, ⟨fi2, iv_zl ?_ hl2⟩, fun f hf5 hd => ht f hf5 hf5 hd, fun f hf5 hd => (hs f hf5 (Or.inr hd)).1⟩
  obtain ⟨a1, a2, a3, a4, a5, a6, a7⟩ := h2
  refine ⟨a1, a2, a3, a4, ivC_mono a5, fun k hk => ?_, a7⟩
  rcases a6 k hk with ⟨b1, b2⟩ | ⟨g, t, g5, b1, b2, b3⟩
  · exact Or.inl ⟨b1, (tls_none hk b1 3).trans b2⟩
  · rw [tls_some hk b1 3]
    split
    · exact Or.inr ⟨g, _, g5, b1, rfl, Or.inl rfl⟩
    · exact Or.inr ⟨g, t, g5, b1, b2, b3⟩
/-- behind a run nothing is due -/
theorem run_nodue (h1 : ∀ f, f < 5 → t_dueS td ru fr S0 f = true → run_turned td hp S0 S f) (h2 : ∀ f, f < 5 → t_dueS td ru fr S0 f = false → run_same S0 S f) : ∀ f, f < 5 → t_dueS td ru fr S f = false := fun f hf5 => by
  cases hd : t_dueS td ru fr S0 f with
  | true => exact due_0 (h1 f hf5 hd).1
  | false => rw [run_due (h2 f hf5 hd)]; exact hd
end IV4
