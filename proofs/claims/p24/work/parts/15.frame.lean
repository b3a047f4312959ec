/-! TWO OBJECTS AND ROWS OF INTS SIDE BY SIDE: maps that are apart, the frame, the law's world. -/
def gk_j (G Gr : gk_G) : gk_G := fun a => match G a with
  | some e => some e
  | none => Gr a
/-- two maps hold nothing at one address -/
def gk_dj (G Gr : gk_G) : Prop := ∀ a, G a = none ∨ Gr a = none
theorem gk_j1 {G Gr : gk_G} {a : Nat} {e : va_E} (h : G a = some e) : gk_j G Gr a = some e := by simp [gk_j, h]
theorem gk_j2 {G Gr : gk_G} {a : Nat} {e : va_E} (hd : gk_dj G Gr) (h : Gr a = some e) : gk_j G Gr a = some e := by
  rcases hd a with h1 | h1
  · simp [gk_j, h1, h]
  · rw [h1] at h; cases h
theorem gk_jn {G Gr : gk_G} {a : Nat} : gk_j G Gr a = none ↔ G a = none ∧ Gr a = none := by
  unfold gk_j
  cases h : G a <;> simp
theorem gk_jo {G Gr : gk_G} {a : Nat} {e : va_E} (h : gk_j G Gr a = some e) : G a = some e ∨ Gr a = some e := by
  unfold gk_j at h
  cases h1 : G a with
  | none => rw [h1] at h; exact Or.inr h
  | some e1 => rw [h1] at h; exact Or.inl h
theorem gk_jc {G Gr : gk_G} (hd : gk_dj G Gr) : gk_j G Gr = gk_j Gr G := by
  funext a
  unfold gk_j
  rcases hd a with h | h
  · rw [h]; cases Gr a <;> rfl
  · rw [h]; cases G a <;> rfl
theorem gk_ja (G1 G2 G3 : gk_G) : gk_j (gk_j G1 G2) G3 = gk_j G1 (gk_j G2 G3) := by
  funext a
  unfold gk_j
  cases G1 a <;> rfl
theorem gk_dj.symm {G Gr : gk_G} (h : gk_dj G Gr) : gk_dj Gr G := fun a => (h a).symm
theorem gk_dj_j {G G1 G2 : gk_G} : gk_dj G (gk_j G1 G2) ↔ gk_dj G G1 ∧ gk_dj G G2 := by
  constructor
  · intro h
    exact ⟨fun a => (h a).imp id (fun q => (gk_jn.mp q).1), fun a => (h a).imp id (fun q => (gk_jn.mp q).2)⟩
  · rintro ⟨h1, h2⟩ a
    rcases h1 a with h | h
    · exact Or.inl h
    · rcases h2 a with q | q
      · exact Or.inl q
      · exact Or.inr (gk_jn.mpr ⟨h, q⟩)
theorem gk_dj_up {G G1 : gk_G} {a : Nat} {e : va_E} (h : gk_dj G G1) (ha : G a = none) : gk_dj G (gk_up G1 a e) := fun q => by
  by_cases hq : q = a
  · subst hq; exact Or.inl ha
  · rw [gk_un _ _ hq]; exact h q
theorem gk_j_up {G G1 : gk_G} {a : Nat} {e : va_E} (ha : G a = none) : gk_up (gk_j G G1) a e = gk_j G (gk_up G1 a e) := by
  funext q
  by_cases hq : q = a
  · subst hq; rw [gk_us]; simp [gk_j, ha, gk_us]
  · rw [gk_un _ _ hq]
    unfold gk_j
    rw [gk_un _ _ hq]
theorem gk_P_sub {D : va_G} {A : Nat → Prop} {G G1 : gk_G} {H : Heap} (h : gk_P D A G H) (hs : ∀ a e, G1 a = some e → G a = some e) : gk_P D A G1 H := fun a e q => h a e (hs a e q)
theorem vx_L_anti {C n d : String} {A B : Nat → Prop} {U : State} {H : Heap} (h : vx_L C n d A U H) (hs : ∀ a, B a → A a) : vx_L C n d B U H := by
  obtain ⟨c, k, i, f, a, cell, h1, h2, h3, h4, h5, h6, h7, h8, h9, h10⟩ := h
  exact ⟨c, k, i, f, a, cell, h1, h2, h3, h4, h5, h6, h7, h8, h9, fun q => h10 (hs a q)⟩
theorem va_Z_anti {C n d : String} {v : Value} {A B : Nat → Prop} {U : State} {H : Heap} (h : va_Z C n d v A U H) (hs : ∀ a, B a → A a) : va_Z C n d v B U H := by
  obtain ⟨cf, kf, fi, f, a, cell, a1, a2, a3, a4, a5, a6, a7, a8⟩ := h
  exact ⟨cf, kf, fi, f, a, cell, a1, a2, a3, a4, a5, a6, a7, fun q => a8 (hs a q)⟩
theorem va_Zq_anti {C n d : String} {A B : Nat → Prop} {U : State} {H : Heap} (h : va_Zq C n d A U H) (hs : ∀ a, B a → A a) : va_Zq C n d B U H := by
  rcases h with h | ⟨t, h⟩
  · exact Or.inl (va_Z_anti h hs)
  · exact Or.inr ⟨t, va_Z_anti h hs⟩
theorem gk_V_anti {y : ly_T} {A B : Nat → Prop} {s : State} (h : gk_V y A s) (hs : ∀ a, B a → A a) : gk_V y B s := by
  obtain ⟨h1, h2, h3, ⟨z1, l1⟩, ⟨z2, l2⟩, d3, d4⟩ := h
  refine ⟨h1, h2, h3, ⟨va_Zq_anti z1 hs, vx_L_anti l1 hs⟩, ⟨va_Zq_anti z2 hs, vx_L_anti l2 hs⟩, va_Z_anti d3 hs, ?_⟩
  obtain ⟨cell, a1, a2, a3, a4, a5, a6, a7⟩ := d4
  exact ⟨cell, a1, a2, a3, a4, a5, a6, fun q => a7 (hs _ q)⟩
/-- THE FRAME: what is true of a method over a part of the map is true over all of it; the rest stays as it was -/
theorem gk_frame {l : Launch} {yy : MethodName} {w : Cond} {fr lo mc ms : Nat} {y : ly_T} {A : Nat → Prop} {av : List Value} {Go Gr : gk_G} {post : Option Value → gk_G → Prop} (hM : ∀ A, gk_M0 l yy w fr lo mc ms y A av Go post) (hd : gk_dj Go Gr) : gk_M0 l yy w fr lo mc ms y A av (gk_j Go Gr) (fun v G1 => ∃ Go1, post v Go1 ∧ G1 = gk_j Go1 Gr ∧ gk_dj Go1 Gr) := by
  intro p e ha hc hk s m args below hf happ hp hK
  obtain ⟨rfl, hA, hV, hP⟩ := hp
  obtain ⟨B, hB⟩ : ∃ B : Nat → Prop, B = fun q => Go q ≠ none ∨ s.heap.size ≤ q := ⟨_, rfl⟩
  have hBA : ∀ a, B a → A a := fun a h => by
    rw [hB] at h
    rcases h with h | h
    · obtain ⟨e, he⟩ := Option.ne_none_iff_exists'.mp h
      exact (hP a e (gk_j1 he)).1
    · exact hA a h
  have hPo : gk_P (ly_D y) B Go s.heap := fun a e h => ⟨by rw [hB]; exact Or.inl (by rw [h]; exact Option.some_ne_none e), (hP a e (gk_j1 h)).2⟩
  obtain ⟨n, o, h1, h2, h3, ⟨⟨v, Go1, rfl, hpost, hP1⟩, hF⟩, L, hL, hLf⟩ := hM B p e ha hc hk s m _ below hf happ ⟨rfl, fun q hq => by rw [hB]; exact Or.inr hq, gk_V_anti hV hBA, hPo⟩ hK
  have hrest : ∀ a e, Gr a = some e → a < s.heap.size ∧ ¬ B a := fun a e h => by
    have hlt := gk_lt hP (gk_j2 hd h)
    refine ⟨hlt, ?_⟩
    rw [hB]
    rintro (q | q)
    · rcases hd a with z | z
      · exact q z
      · rw [z] at h; cases h
    · exact absurd hlt (Nat.not_lt.mpr q)
  have hd1 : gk_dj Go1 Gr := fun a => by
    cases hg : Gr a with
    | none => exact Or.inr rfl
    | some e =>
      cases hg2 : Go1 a with
      | none => exact Or.inl rfl
      | some e2 => exact absurd (hP1 a e2 hg2).1 (hrest a e hg).2
  refine ⟨n, _, h1, h2, h3, ⟨⟨v, _, rfl, ⟨Go1, hpost, rfl, hd1⟩, fun a e h => ?_⟩, hF.1, fun q hq hA2 => hF.2 q hq (fun z => hA2 (hBA q z))⟩, L, hL, fun q hq => hBA _ (hLf q hq)⟩
  rcases gk_jo h with h | h
  · exact ⟨hBA a (hP1 a e h).1, (hP1 a e h).2⟩
  · obtain ⟨b1, b2⟩ := hrest a e h
    exact ⟨(hP a e (gk_j2 hd h)).1, (hP a e (gk_j2 hd h)).2.kept (hF.2 a b1 b2)⟩
theorem gk_M0m {l : Launch} {y : ly_T} {A : Nat → Prop} {G : gk_G} {yy : MethodName} {w : Cond} {fr lo mc ms : Nat} {av : List Value} {post post2 : Option Value → gk_G → Prop} (h : gk_M0 l yy w fr lo mc ms y A av G post) (hq : ∀ (v : Option Value) (G1 : gk_G), post v G1 → ∃ G2, post2 v G2 ∧ ∀ a e, G2 a = some e → G1 a = some e) : gk_M0 l yy w fr lo mc ms y A av G post2 := by
  unfold gk_M0 Met at h ⊢
  refine MetFree.mono h (fun _ _ h => h) (fun _ _ _ _ _ h => h) (fun a s o s' hp hx => ?_)
  obtain ⟨⟨⟨v, G1, h1, h2, h3⟩, h4⟩, h5⟩ := hx
  obtain ⟨G2, k1, k2⟩ := hq v G1 h2
  exact ⟨⟨⟨v, G2, h1, k1, gk_P_sub h3 k2⟩, h4⟩, h5⟩
/-- the same, the map as it comes -/
theorem gk_M0e {l : Launch} {y : ly_T} {A : Nat → Prop} {G : gk_G} {yy : MethodName} {w : Cond} {fr lo mc ms : Nat} {av : List Value} {post post2 : Option Value → gk_G → Prop} (h : gk_M0 l yy w fr lo mc ms y A av G post) (hq : ∀ (v : Option Value) (G1 : gk_G), post v G1 → post2 v G1) : gk_M0 l yy w fr lo mc ms y A av G post2 :=
  gk_M0m h (fun v G1 q => ⟨G1, hq v G1 q, fun _ _ z => z⟩)
/-! the second object's fixed things -/
def ly_sw (y : ly_T) : ly_T := (y.1, y.2.1, fun i => if i < 4 then y.2.2.1 (i + 20) else y.2.2.1 i, fun i j => y.2.2.2 (i + 10) j)
theorem gk_M0_sw {l : Launch} {y : ly_T} {A : Nat → Prop} {G : gk_G} {yy : MethodName} {w : Cond} {fr lo mc ms : Nat} {av : List Value} {post : Option Value → gk_G → Prop} (h : gk_M0 l yy w fr lo mc ms (ly_sw y) A av G post) : gk_M0 l yy w fr lo mc ms y A av G post := h
/-! rows of ints: their addresses, lengths, contents -/
abbrev la_T : Type := List (Nat × Nat × (Nat → Int32))
def la_G (c : ClassId) : la_T → gk_G
  | [] => fun _ => none
  | x :: r => gk_up (la_G c r) x.1 (rp_i c x.2.1 x.2.2)
def la_N (al : la_T) : Prop := (al.map Prod.fst).Nodup
theorem la_no {c : ClassId} : ∀ {al : la_T} {a : Nat}, ¬ a ∈ al.map Prod.fst → la_G c al a = none := by
  intro al
  induction al with
  | nil => intro a _; rfl
  | cons x r ih =>
    intro a h
    rw [List.map_cons, List.mem_cons, not_or] at h
    show gk_up _ _ _ a = none
    rw [gk_un _ _ h.1]
    exact ih h.2
theorem la_no2 {c : ClassId} : ∀ {al : la_T} {a : Nat}, la_G c al a = none → ¬ a ∈ al.map Prod.fst := by
  intro al
  induction al with
  | nil => intro a _ h; cases h
  | cons x r ih =>
    intro a h
    by_cases hx : a = x.1
    · rw [hx] at h
      rw [show la_G c (x :: r) x.1 = some _ from gk_us _ _ _] at h
      cases h
    · rw [show la_G c (x :: r) a = la_G c r a from gk_un _ _ hx] at h
      rw [List.map_cons, List.mem_cons, not_or]
      exact ⟨hx, ih h⟩
theorem la_get {c : ClassId} : ∀ {al : la_T} {k a n : Nat} {f : Nat → Int32}, la_N al → al[k]? = some (a, n, f) → la_G c al a = some (rp_i c n f) := by
  intro al
  induction al with
  | nil => intro k a n f _ h; cases h
  | cons x r ih =>
    intro k a n f hn h
    unfold la_N at hn
    rw [List.map_cons, List.nodup_cons] at hn
    cases k with
    | zero =>
      cases h
      exact gk_us _ _ _
    | succ k =>
      have hm : a ∈ r.map Prod.fst := List.mem_map.mpr ⟨_, List.mem_of_getElem? h, rfl⟩
      show gk_up _ _ _ a = _
      rw [gk_un _ _ (fun (z : a = x.1) => hn.1 (z ▸ hm))]
      exact ih hn.2 h
theorem la_map_set : ∀ {al : la_T} {k a n : Nat} {f g : Nat → Int32}, al[k]? = some (a, n, f) → (al.set k (a, n, g)).map Prod.fst = al.map Prod.fst := by
  intro al
  induction al with
  | nil => intro k a n f g h; cases h
  | cons x r ih =>
    intro k a n f g h
    cases k with
    | zero => cases h; rfl
    | succ k => rw [List.set_cons_succ, List.map_cons, List.map_cons, ih h]
theorem la_set {c : ClassId} : ∀ {al : la_T} {k a n : Nat} {f g : Nat → Int32}, la_N al → al[k]? = some (a, n, f) → gk_up (la_G c al) a (rp_i c n g) = la_G c (al.set k (a, n, g)) := by
  intro al
  induction al with
  | nil => intro k a n f g _ h; cases h
  | cons x r ih =>
    intro k a n f g hn h
    unfold la_N at hn
    rw [List.map_cons, List.nodup_cons] at hn
    cases k with
    | zero =>
      cases h
      exact gk_uu _ _ _ _
    | succ k =>
      have hm : a ∈ r.map Prod.fst := List.mem_map.mpr ⟨_, List.mem_of_getElem? h, rfl⟩
      have hne : x.1 ≠ a := fun z => hn.1 (z ▸ hm)
      rw [List.set_cons_succ]
      show gk_up (gk_up _ _ _) a _ = gk_up _ _ _
      rw [← ih hn.2 h]
      funext q
      by_cases h1 : q = a
      · rw [h1, gk_us, gk_un _ _ (Ne.symm hne), gk_us]
      · rw [gk_un _ _ h1]
        by_cases h2 : q = x.1
        · rw [h2, gk_us, gk_us]
        · rw [gk_un _ _ h2, gk_un _ _ h2, gk_un _ _ h1]
