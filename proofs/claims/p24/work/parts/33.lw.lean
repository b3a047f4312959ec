/-! THE LAW'S WORLD: two objects of the class and rows of ints, apart. -/
def rq (y : ly_T) (G : gk_G) (td : Int32) (ru : Nat → Nat → Int32) (fr : Nat → Nat) (hf : Nat → Option Nat) (S : ts_T) (hp : Nat → Option Nat) : Prop := rp y G td ru fr S.1 S.2.1 S.2.2.1 S.2.2.2.1 hf hp S.2.2.2.2.1 S.2.2.2.2.2.1 S.2.2.2.2.2.2
theorem rp_list_mn {y : ly_T} {G G1 : gk_G} {ea : Nat} {l : List Nat} (h : rp_list y G ea l) (hs : ∀ a e, G a = some e → G1 a = some e) : rp_list y G1 ea l := by
  obtain ⟨h1, h2, h3⟩ := h
  refine ⟨h1, h2, ?_⟩
  rcases h3 with h3 | ⟨cap, g, a1, a2⟩
  · exact Or.inl h3
  · exact Or.inr ⟨cap, g, hs _ _ a1, a2⟩
theorem rp_mn {y : ly_T} {G G1 : gk_G} {td : Int32} {ru : Nat → Nat → Int32} {fr lv : Nat → Nat} {lt et tl : Nat → Int32} {hf hp : Nat → Option Nat} {ol : Nat → List Nat} {PS : Nat → Prop} {pf : Nat → Nat → Int32} (h : rp y G td ru fr lv lt et tl hf hp ol PS pf) (hs : ∀ a e, G a = some e → G1 a = some e) : rp y G1 td ru fr lv lt et tl hf hp ol PS pf := by
  obtain ⟨hA, ⟨⟨g1, b1, c1⟩, ⟨g2, b2, c2⟩, g3, b3, c3⟩, hR, hF, hH, ⟨⟨ea, mc, h1, h2⟩, h3⟩, hS, -, -⟩ := h
  exact ⟨hs _ _ hA, ⟨⟨g1, hs _ _ b1, c1⟩, ⟨g2, hs _ _ b2, c2⟩, g3, hs _ _ b3, c3⟩, fun r hr => hs _ _ (hR r hr), fun f hf => ⟨(hF f hf).1, hs _ _ (hF f hf).2⟩, ⟨fun k hk => ⟨(hH.1 k hk).1, hs _ _ (hH.1 k hk).2⟩, hH.2⟩,
    ⟨⟨ea, mc, fun f hf => ⟨hs _ _ (h1 f hf).1, rp_list_mn (h1 f hf).2 hs⟩, h2⟩, h3⟩, fun t ht => hs _ _ (hS t ht), trivial, trivial⟩
def lw (y : ly_T) (G : gk_G) (td : Int32) (ru : Nat → Nat → Int32) (fr : Nat → Nat) (hf : Nat → Option Nat) (S : ts_T) (hp : Nat → Option Nat) (td2 : Int32) (ru2 : Nat → Nat → Int32) (fr2 : Nat → Nat) (hf2 : Nat → Option Nat) (S2 : ts_T) (hp2 : Nat → Option Nat) (al : la_T) : Prop :=
  ∃ Go Gt : gk_G, G = gk_j Go (gk_j Gt (la_G (ly_k y 0) al)) ∧ gk_dj Go Gt ∧ gk_dj Go (la_G (ly_k y 0) al) ∧ gk_dj Gt (la_G (ly_k y 0) al) ∧ la_N al ∧ rq y Go td ru fr hf S hp ∧ rq (ly_sw y) Gt td2 ru2 fr2 hf2 S2 hp2
section LW
variable {y : ly_T} {G : gk_G} {td td2 : Int32} {ru ru2 : Nat → Nat → Int32} {fr fr2 : Nat → Nat} {hf hp hf2 hp2 : Nat → Option Nat} {S S2 : ts_T} {al : la_T}
theorem lw_o (h : lw y G td ru fr hf S hp td2 ru2 fr2 hf2 S2 hp2 al) : rq y G td ru fr hf S hp := by
  obtain ⟨Go, Gt, rfl, h1, h2, h3, h4, h5, h6⟩ := h
  exact rp_mn h5 (fun a e q => gk_j1 q)
theorem lw_t (h : lw y G td ru fr hf S hp td2 ru2 fr2 hf2 S2 hp2 al) : rq (ly_sw y) G td2 ru2 fr2 hf2 S2 hp2 := by
  obtain ⟨Go, Gt, rfl, h1, h2, h3, h4, h5, h6⟩ := h
  exact rp_mn h6 (fun a e q => gk_j2 (gk_dj_j.mpr ⟨h1, h2⟩) (gk_j1 q))
theorem lw_get (h : lw y G td ru fr hf S hp td2 ru2 fr2 hf2 S2 hp2 al) {k a n : Nat} {f : Nat → Int32} (hk : al[k]? = some (a, n, f)) : G a = some (rp_i (ly_k y 0) n f) := by
  obtain ⟨Go, Gt, rfl, h1, h2, h3, h4, h5, h6⟩ := h
  exact gk_j2 (gk_dj_j.mpr ⟨h1, h2⟩) (gk_j2 h3 (la_get h4 hk))
theorem lw_set (h : lw y G td ru fr hf S hp td2 ru2 fr2 hf2 S2 hp2 al) {k a n : Nat} {f : Nat → Int32} (hk : al[k]? = some (a, n, f)) (g : Nat → Int32) : lw y (gk_up G a (rp_i (ly_k y 0) n g)) td ru fr hf S hp td2 ru2 fr2 hf2 S2 hp2 (al.set k (a, n, g)) := by
  obtain ⟨Go, Gt, rfl, h1, h2, h3, h4, h5, h6⟩ := h
  have ha := la_get (c := ly_k y 0) h4 hk
  have hao : Go a = none := (h2 a).resolve_right (fun q => by rw [q] at ha; cases ha)
  have hat : Gt a = none := (h3 a).resolve_right (fun q => by rw [q] at ha; cases ha)
  refine ⟨Go, Gt, by rw [gk_j_up hao, gk_j_up hat, la_set h4 hk], h1, ?_, ?_, ?_, h5, h6⟩
  · rw [← la_set (c := ly_k y 0) (g := g) h4 hk]; exact gk_dj_up h2 hao
  · rw [← la_set (c := ly_k y 0) (g := g) h4 hk]; exact gk_dj_up h3 hat
  · unfold la_N; rw [la_map_set hk]; exact h4
theorem lw_new (h : lw y G td ru fr hf S hp td2 ru2 fr2 hf2 S2 hp2 al) {q : Nat} (hq : G q = none) (n : Nat) (f : Nat → Int32) : lw y (gk_up G q (rp_i (ly_k y 0) n f)) td ru fr hf S hp td2 ru2 fr2 hf2 S2 hp2 ((q, n, f) :: al) := by
  obtain ⟨Go, Gt, rfl, h1, h2, h3, h4, h5, h6⟩ := h
  obtain ⟨ho, hr⟩ := gk_jn.mp hq
  obtain ⟨ht, hl⟩ := gk_jn.mp hr
  refine ⟨Go, Gt, by rw [gk_j_up ho, gk_j_up ht]; rfl, h1, gk_dj_up h2 ho, gk_dj_up h3 ht, ?_, h5, h6⟩
  unfold la_N
  rw [List.map_cons, List.nodup_cons]
  exact ⟨la_no2 hl, h4⟩
/-- the first row is given up -/
theorem lw_tail {x : Nat × Nat × (Nat → Int32)} (h : lw y G td ru fr hf S hp td2 ru2 fr2 hf2 S2 hp2 (x :: al)) : ∃ G2, lw y G2 td ru fr hf S hp td2 ru2 fr2 hf2 S2 hp2 al ∧ ∀ a e, G2 a = some e → G a = some e := by
  obtain ⟨Go, Gt, rfl, h1, h2, h3, h4, h5, h6⟩ := h
  have h4n := h4
  unfold la_N at h4
  rw [List.map_cons, List.nodup_cons] at h4
  have sub : ∀ a e, la_G (ly_k y 0) al a = some e → la_G (ly_k y 0) (x :: al) a = some e := fun a e q => by
    show gk_up _ _ _ a = _
    rw [gk_un _ _ (fun (z : a = x.1) => by rw [z, la_no h4.1] at q; cases q)]
    exact q
  have dj : ∀ G3, gk_dj G3 (la_G (ly_k y 0) (x :: al)) → gk_dj G3 (la_G (ly_k y 0) al) := fun G3 hd a => by
    rcases hd a with q | q
    · exact Or.inl q
    · right
      cases hg : la_G (ly_k y 0) al a with
      | none => rfl
      | some e => rw [sub a e hg] at q; cases q
  refine ⟨gk_j Go (gk_j Gt (la_G (ly_k y 0) al)), ⟨Go, Gt, rfl, h1, dj _ h2, dj _ h3, h4.2, h5, h6⟩, fun a e q => ?_⟩
  rcases gk_jo q with q | q
  · exact gk_j1 q
  · rcases gk_jo q with z | z
    · exact gk_j2 (gk_dj_j.mpr ⟨h1, h2⟩) (gk_j1 z)
    · exact gk_j2 (gk_dj_j.mpr ⟨h1, h2⟩) (gk_j2 h3 (sub a e z))
/-- the first object by itself -/
theorem lw_co (h : lw y G td ru fr hf S hp td2 ru2 fr2 hf2 S2 hp2 al) : ∃ Go Gr : gk_G, G = gk_j Go Gr ∧ gk_dj Go Gr ∧ rq y Go td ru fr hf S hp ∧ ∀ (Go1 : gk_G) (td1 : Int32) (ru1 : Nat → Nat → Int32) (fr1 : Nat → Nat) (hf1 : Nat → Option Nat) (S1 : ts_T) (hp1 : Nat → Option Nat), gk_dj Go1 Gr → rq y Go1 td1 ru1 fr1 hf1 S1 hp1 → lw y (gk_j Go1 Gr) td1 ru1 fr1 hf1 S1 hp1 td2 ru2 fr2 hf2 S2 hp2 al := by
  obtain ⟨Go, Gt, rfl, h1, h2, h3, h4, h5, h6⟩ := h
  exact ⟨Go, gk_j Gt (la_G (ly_k y 0) al), rfl, gk_dj_j.mpr ⟨h1, h2⟩, h5, fun Go1 td1 ru1 fr1 hf1 S1 hp1 hd hr => ⟨Go1, Gt, rfl, (gk_dj_j.mp hd).1, (gk_dj_j.mp hd).2, h3, h4, hr, h6⟩⟩
/-- the second object by itself -/
theorem lw_ct (h : lw y G td ru fr hf S hp td2 ru2 fr2 hf2 S2 hp2 al) : ∃ Gt Gr : gk_G, G = gk_j Gt Gr ∧ gk_dj Gt Gr ∧ rq (ly_sw y) Gt td2 ru2 fr2 hf2 S2 hp2 ∧ ∀ (Gt1 : gk_G) (td1 : Int32) (ru1 : Nat → Nat → Int32) (fr1 : Nat → Nat) (hf1 : Nat → Option Nat) (S1 : ts_T) (hp1 : Nat → Option Nat), gk_dj Gt1 Gr → rq (ly_sw y) Gt1 td1 ru1 fr1 hf1 S1 hp1 → lw y (gk_j Gt1 Gr) td ru fr hf S hp td1 ru1 fr1 hf1 S1 hp1 al := by
  obtain ⟨Go, Gt, rfl, h1, h2, h3, h4, h5, h6⟩ := h
  have e : ∀ Gx : gk_G, gk_dj Go Gx → gk_j Go (gk_j Gx (la_G (ly_k y 0) al)) = gk_j Gx (gk_j Go (la_G (ly_k y 0) al)) := fun Gx hx => by
    rw [← gk_ja, gk_jc hx, gk_ja]
  refine ⟨Gt, gk_j Go (la_G (ly_k y 0) al), e Gt h1, gk_dj_j.mpr ⟨h1.symm, h3⟩, h6, fun Gt1 td1 ru1 fr1 hf1 S1 hp1 hd hr => ?_⟩
  obtain ⟨d1, d2⟩ := gk_dj_j.mp hd
  exact ⟨Go, Gt1, (e Gt1 d1.symm).symm, d1.symm, h2, d2, h4, h5, hr⟩
end LW
