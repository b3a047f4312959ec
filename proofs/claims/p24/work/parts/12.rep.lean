/-! WHAT THE MAP HOLDS: the class's objects (main, rules, files, holders, lists, parts), the law's own row of one long, the reference's object and arrays. -/
abbrev rp_r (c : ClassId) (n : Nat) (g : Nat → Option Nat) : va_E := .inl (c, n, .inr (.inr (.inr (.inr g))))
abbrev rp_i (c : ClassId) (n : Nat) (f : Nat → Int32) : va_E := .inl (c, n, .inl f)
abbrev rp_j (c : ClassId) (n : Nat) (f : Nat → Int64) : va_E := .inl (c, n, .inr (.inl f))
def rp_kd : va_E → Nat
  | .inr o => o.1
  | .inl (_, _, .inl _) => 10
  | .inl (_, _, .inr (.inl _)) => 11
  | .inl (_, _, .inr (.inr (.inl _))) => 12
  | .inl (_, _, .inr (.inr (.inr (.inl _)))) => 13
  | .inl (_, _, .inr (.inr (.inr (.inr _)))) => 14
/-- at a there is nothing of kind k -/
def rp_off (G : gk_G) (a k : Nat) : Prop := ∀ e, G a = some e → rp_kd e ≠ k
theorem rp_off_of {G : gk_G} {a k : Nat} {e : va_E} (h : G a = some e) (hk : rp_kd e ≠ k) : rp_off G a k := fun e2 h2 => by
  rw [h] at h2
  cases h2
  exact hk
theorem rp_off_n {G : gk_G} {a k : Nat} (h : G a = none) : rp_off G a k := fun e2 h2 => by
  rw [h] at h2
  cases h2
theorem rp_up {G : gk_G} {a b : Nat} {e eb : va_E} (h : G b = some eb) (ho : rp_off G a (rp_kd eb)) : gk_up G a e b = some eb := by
  rw [gk_un G e (fun q => by subst q; exact ho eb h rfl)]
  exact h
def rpA (y : ly_T) (G : gk_G) (td : Int32) : Prop := G (ly_a y 0) = some (.inr (5, [.ref (ly_a y 1), .ref (ly_a y 2), .ref (ly_a y 3), .int td]))
def rpB (y : ly_T) (G : gk_G) : Prop := (∃ g, G (ly_a y 1) = some (rp_r (ly_k y 3) 3 g) ∧ ∀ r, r < 3 → g r = some (ly_f y 0 r)) ∧ (∃ g, G (ly_a y 2) = some (rp_r (ly_k y 4) 5 g) ∧ ∀ f, f < 5 → g f = some (ly_f y 1 f)) ∧ (∃ g, G (ly_a y 3) = some (rp_r (ly_k y 5) 4 g) ∧ ∀ h, h < 4 → g h = some (ly_f y 2 h))
def rp_eR (ru : Nat → Nat → Int32) (r : Nat) : va_E := .inr (4, [.int (nI r), .int (ru r 1), .int (ru r 2), .int (ru r 3), .int (ru r 4), .int (ru r 5), .int (ru r 6), .int (ru r 7), .int (ru r 8), .int (ru r 9)])
def rpR (y : ly_T) (G : gk_G) (ru : Nat → Nat → Int32) : Prop := ∀ r, r < 3 → G (ly_f y 0 r) = some (rp_eR ru r)
def rp_eF (y : ly_T) (fr lv : Nat → Nat) (lt et tl : Nat → Int32) (f : Nat) : va_E := .inr (2, [.int (nI f), .ref (ly_f y 3 f), .ref (ly_f y 0 (fr f)), .ref (lv f), .int (lt f), .int (et f), .int (tl f)])
def rpF (y : ly_T) (G : gk_G) (fr lv : Nat → Nat) (lt et tl : Nat → Int32) : Prop := ∀ f, f < 5 → fr f < 3 ∧ G (ly_f y 1 f) = some (rp_eF y fr lv lt et tl f)
def rp_eH (y : ly_T) (hf hp : Nat → Option Nat) (h : Nat) : va_E := .inr (1, [va_rf ((hf h).map (ly_f y 1)), va_rf (hp h)])
def rpH (y : ly_T) (G : gk_G) (hf hp : Nat → Option Nat) : Prop := (∀ h, h < 4 → (∀ f, hf h = some f → f < 5) ∧ G (ly_f y 2 h) = some (rp_eH y hf hp h)) ∧ ∀ h k, h < 4 → k < 4 → ly_f y 2 h = ly_f y 2 k → h = k
def rp_eS (pf : Nat → Nat → Int32) (t : Nat) : va_E := .inr (3, [.int (pf 0 t), .int (pf 1 t), .int (pf 2 t)])
def rpS (G : gk_G) (PS : Nat → Prop) (pf : Nat → Nat → Int32) : Prop := ∀ t, PS t → G t = some (rp_eS pf t)
def rp_list (y : ly_T) (G : gk_G) (ea : Nat) (l : List Nat) : Prop := l.length ≤ 1000 ∧ (ea ≠ ly_a y 1 ∧ ea ≠ ly_a y 2 ∧ ea ≠ ly_a y 3) ∧ ((l = [] ∧ ea = ly_a y 6) ∨ ∃ cap g, G ea = some (rp_r (ly_k y 6) cap g) ∧ cap ≤ 1500 ∧ l.length ≤ cap ∧ 0 < cap ∧ ∀ k, k < l.length → g k = l[k]?)
def rpL (y : ly_T) (G : gk_G) (ol : Nat → List Nat) : Prop := (∃ (ea : Nat → Nat) (mc : Nat → Int32), (∀ f, f < 5 → G (ly_f y 3 f) = some (.inr (0, [.int (mc f), .ref (ea f), .int (nI (ol f).length)])) ∧ rp_list y G (ea f) (ol f)) ∧ ∀ f k, f < 5 → k < 5 → f ≠ k → ea f = ea k → ea f = ly_a y 6) ∧ ∀ f k, f < 5 → k < 5 → ly_f y 3 f = ly_f y 3 k → f = k
/-- all of it -/
def rp (y : ly_T) (G : gk_G) (td : Int32) (ru : Nat → Nat → Int32) (fr lv : Nat → Nat) (lt et tl : Nat → Int32) (hf hp : Nat → Option Nat) (ol : Nat → List Nat) (PS : Nat → Prop) (pf : Nat → Nat → Int32) : Prop :=
  rpA y G td ∧ rpB y G ∧ rpR y G ru ∧ rpF y G fr lv lt et tl ∧ rpH y G hf hp ∧ rpL y G ol ∧ rpS G PS pf ∧ True ∧ True
section RPK
variable {y : ly_T} {G : gk_G} {a : Nat} {e : va_E} {td : Int32} {ru : Nat → Nat → Int32} {fr lv : Nat → Nat} {lt et tl : Nat → Int32} {hf hp : Nat → Option Nat} {ol : Nat → List Nat} {PS : Nat → Prop} {pf : Nat → Nat → Int32}
theorem rpA_keep (h : rpA y G td) (ho : rp_off G a 5) : rpA y (gk_up G a e) td := rp_up h ho
theorem rpB_keepN (h : rpB y G) (ho : a ≠ ly_a y 1 ∧ a ≠ ly_a y 2 ∧ a ≠ ly_a y 3) : rpB y (gk_up G a e) := by
  obtain ⟨⟨g1, a1, b1⟩, ⟨g2, a2, b2⟩, g3, a3, b3⟩ := h
  exact ⟨⟨g1, by rw [gk_un _ _ (Ne.symm ho.1)]; exact a1, b1⟩, ⟨g2, by rw [gk_un _ _ (Ne.symm ho.2.1)]; exact a2, b2⟩, g3, by rw [gk_un _ _ (Ne.symm ho.2.2)]; exact a3, b3⟩
theorem rpB_keep (h : rpB y G) (ho : rp_off G a 14) : rpB y (gk_up G a e) := by
  obtain ⟨⟨g1, a1, b1⟩, ⟨g2, a2, b2⟩, g3, a3, b3⟩ := h
  exact ⟨⟨g1, rp_up a1 ho, b1⟩, ⟨g2, rp_up a2 ho, b2⟩, g3, rp_up a3 ho, b3⟩
theorem rpR_keep (h : rpR y G ru) (ho : rp_off G a 4) : rpR y (gk_up G a e) ru := fun r hr => rp_up (h r hr) ho
theorem rpF_keep (h : rpF y G fr lv lt et tl) (ho : rp_off G a 2) : rpF y (gk_up G a e) fr lv lt et tl := fun f hf => ⟨(h f hf).1, rp_up (h f hf).2 ho⟩
theorem rpH_keep (h : rpH y G hf hp) (ho : rp_off G a 1) : rpH y (gk_up G a e) hf hp := ⟨fun k hk => ⟨(h.1 k hk).1, rp_up (h.1 k hk).2 ho⟩, h.2⟩
theorem rpS_keep (h : rpS G PS pf) (ho : rp_off G a 3) : rpS (gk_up G a e) PS pf := fun t ht => rp_up (h t ht) ho
theorem rp_list_keep {ea : Nat} {l : List Nat} (h : rp_list y G ea l) (ho : rp_off G a 14) : rp_list y (gk_up G a e) ea l := by
  obtain ⟨h1, h2, h3⟩ := h
  refine ⟨h1, h2, ?_⟩
  rcases h3 with h3 | ⟨cap, g, a1, a2⟩
  · exact Or.inl h3
  · exact Or.inr ⟨cap, g, rp_up a1 ho, a2⟩
theorem rpL_keep (h : rpL y G ol) (ho : rp_off G a 0) (ho2 : rp_off G a 14) : rpL y (gk_up G a e) ol := by
  obtain ⟨⟨ea, mc, h1, h2⟩, h3⟩ := h
  exact ⟨⟨ea, mc, fun f hf => ⟨rp_up (h1 f hf).1 ho, rp_list_keep (h1 f hf).2 ho2⟩, h2⟩, h3⟩
theorem rpF_put (h : rpF y G fr lv lt et tl) {f : Nat} (hf5 : f < 5) {fr2 lv2 : Nat → Nat} {lt2 et2 tl2 : Nat → Int32} (h3 : fr2 f < 3) (he : e = rp_eF y fr2 lv2 lt2 et2 tl2 f) (hs : ∀ k, k ≠ f → fr2 k = fr k ∧ lv2 k = lv k ∧ lt2 k = lt k ∧ et2 k = et k ∧ tl2 k = tl k) : rpF y (gk_up G (ly_f y 1 f) e) fr2 lv2 lt2 et2 tl2 := by
  intro k hk
  by_cases hkf : k = f
  · subst hkf
    exact ⟨h3, by rw [gk_us, he]⟩
  · obtain ⟨a1, a2⟩ := h k hk
    obtain ⟨b1, b2, b3, b4, b5⟩ := hs k hkf
    have ne : ly_f y 1 k ≠ ly_f y 1 f := fun q => by
      have h1 := (h f hf5).2
      rw [← q, a2] at h1
      simp only [rp_eF, Option.some.injEq, Sum.inr.injEq, Prod.mk.injEq, List.cons.injEq, Value.int.injEq, true_and] at h1
      exact hkf ((nI_eq (by omega) (by omega)).mp h1.1)
    refine ⟨by rw [b1]; exact a1, ?_⟩
    rw [gk_un _ _ ne, a2]
    simp only [rp_eF, b1, b2, b3, b4, b5]
theorem rpR_put (h : rpR y G ru) {r : Nat} (hr : r < 3) {ru2 : Nat → Nat → Int32} (he : e = rp_eR ru2 r) (hs : ∀ k, k ≠ r → ru2 k = ru k) : rpR y (gk_up G (ly_f y 0 r) e) ru2 := by
  intro k hk
  by_cases hkr : k = r
  · subst hkr
    rw [gk_us, he]
  · have a2 := h k hk
    have ne : ly_f y 0 k ≠ ly_f y 0 r := fun q => by
      have h1 := h r hr
      rw [← q, a2] at h1
      simp only [rp_eR, Option.some.injEq, Sum.inr.injEq, Prod.mk.injEq, List.cons.injEq, Value.int.injEq, true_and] at h1
      exact hkr ((nI_eq (by omega) (by omega)).mp h1.1)
    rw [gk_un _ _ ne, a2]
    simp only [rp_eR, hs k hkr]
theorem rpH_put (h : rpH y G hf hp) {k : Nat} (hk : k < 4) {hf2 hp2 : Nat → Option Nat} (h5 : ∀ f, hf2 k = some f → f < 5) (he : e = rp_eH y hf2 hp2 k) (hs : ∀ j, j ≠ k → hf2 j = hf j ∧ hp2 j = hp j) : rpH y (gk_up G (ly_f y 2 k) e) hf2 hp2 := by
  refine ⟨fun j hj => ?_, h.2⟩
  by_cases hjk : j = k
  · subst hjk
    exact ⟨h5, by rw [gk_us, he]⟩
  · obtain ⟨a1, a2⟩ := h.1 j hj
    obtain ⟨b1, b2⟩ := hs j hjk
    refine ⟨by rw [b1]; exact a1, ?_⟩
    rw [gk_un _ _ (fun q => hjk (h.2 j k hj hk q)), a2]
    simp only [rp_eH, b1, b2]
theorem rpS_put (h : rpS G PS pf) {t : Nat} {pf2 : Nat → Nat → Int32} (he : e = rp_eS pf2 t) (hs : ∀ k j, j ≠ t → pf2 k j = pf k j) : rpS (gk_up G t e) PS pf2 := by
  intro j hj
  by_cases hjt : j = t
  · subst hjt
    rw [gk_us, he]
  · rw [gk_un _ _ hjt, h j hj]
    simp only [rp_eS, hs _ j hjt]
end RPK
