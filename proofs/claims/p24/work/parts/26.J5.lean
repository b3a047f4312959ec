/-! the class's lists over 'rp' -/
theorem gk_M0w {l : Launch} {y : ly_T} {A : Nat → Prop} {G : gk_G} {yy : MethodName} {w : Cond} {fr lo mc ms : Nat} {av : List Value} {post post2 : Option Value → gk_G → Prop} (h : gk_M0 l yy w fr lo mc ms y A av G post) (hq : ∀ (v : Option Value) (G1 : gk_G), G (ly_a y 6) = none → post v G1 → post2 v G1) : gk_M0 l yy w fr lo mc ms y A av G post2 := by
  unfold gk_M0 Met at h ⊢
  refine MetFree.mono h (fun _ _ h => h) (fun _ _ _ _ _ h => h) (fun a s o s' hp hx => ?_)
  obtain ⟨-, -, hV, hP⟩ := hp
  obtain ⟨⟨⟨v, G1, h1, h2, h3⟩, h4⟩, h5⟩ := hx
  have hn : G (ly_a y 6) = none := by
    cases hg : G (ly_a y 6) with
    | none => rfl
    | some e => exact absurd (hP _ _ hg).1 hV.2.2.2.2.2.2.out
  exact ⟨⟨⟨v, G1, h1, hq v G1 hn h2, h3⟩, h4⟩, h5⟩
theorem rp_mono {y : ly_T} {G G1 : gk_G} {td : Int32} {ru : Nat → Nat → Int32} {fr lv : Nat → Nat} {lt et tl : Nat → Int32} {hf hp : Nat → Option Nat} {ol ol1 : Nat → List Nat} {PS : Nat → Prop} {pf : Nat → Nat → Int32} (hR : rp y G td ru fr lv lt et tl hf hp ol PS pf)
    (hk : ∀ b e, G b = some e → rp_kd e ≠ 0 → (rp_kd e ≠ 14 ∨ b = ly_a y 1 ∨ b = ly_a y 2 ∨ b = ly_a y 3) → G1 b = some e) (hL : rpL y G1 ol1) : rp y G1 td ru fr lv lt et tl hf hp ol1 PS pf := by
  obtain ⟨hA, ⟨⟨g1, b1, c1⟩, ⟨g2, b2, c2⟩, g3, b3, c3⟩, hRr, hF, hH, -, hS, hO, hM⟩ := hR
  refine ⟨hk _ _ hA (by show 5 ≠ 0; decide) (Or.inl (by show 5 ≠ 14; decide)), ⟨⟨g1, hk _ _ b1 (by show 14 ≠ 0; decide) (Or.inr (Or.inl rfl)), c1⟩, ⟨g2, hk _ _ b2 (by show 14 ≠ 0; decide) (Or.inr (Or.inr (Or.inl rfl))), c2⟩, g3, hk _ _ b3 (by show 14 ≠ 0; decide) (Or.inr (Or.inr (Or.inr rfl))), c3⟩,
    fun r hr => hk _ _ (hRr r hr) (by show 4 ≠ 0; decide) (Or.inl (by show 4 ≠ 14; decide)), fun f hf => ⟨(hF f hf).1, hk _ _ (hF f hf).2 (by show 2 ≠ 0; decide) (Or.inl (by show 2 ≠ 14; decide))⟩, ⟨fun k hk4 => ⟨(hH.1 k hk4).1, hk _ _ (hH.1 k hk4).2 (by show 1 ≠ 0; decide) (Or.inl (by show 1 ≠ 14; decide))⟩, hH.2⟩, hL,
    fun t ht => hk _ _ (hS t ht) (by show 3 ≠ 0; decide) (Or.inl (by show 3 ≠ 14; decide)), trivial, trivial⟩
theorem rp_lset {y : ly_T} {G : gk_G} {td : Int32} {ru : Nat → Nat → Int32} {fr lv : Nat → Nat} {lt et tl : Nat → Int32} {hf hp : Nat → Option Nat} {ol : Nat → List Nat} {PS : Nat → Prop} {pf : Nat → Nat → Int32} (hR : rp y G td ru fr lv lt et tl hf hp ol PS pf) {f : Nat} (hf5 : f < 5) {mc : Int32} {ed n : Nat} (hg : G (ly_f y 3 f) = some (.inr (0, [.int mc, .ref ed, .int (nI n)]))) (hn : n = (ol f).length) (hl : rp_list y G ed (ol f)) (ea : Nat → Nat) (mcs : Nat → Int32) (hall : ∀ f, f < 5 → G (ly_f y 3 f) = some (.inr (0, [.int (mcs f), .ref (ea f), .int (nI (ol f).length)])) ∧ rp_list y G (ea f) (ol f)) (hdis : ∀ f k, f < 5 → k < 5 → f ≠ k → ea f = ea k → ea f = ly_a y 6) (he : ea f = ed) (he0 : G (ly_a y 6) = none)
    {G1 : gk_G} {mc1 : Int32} {ed1 cap1 : Nat} {g1 : Nat → Option Nat} {l1 : List Nat} (h1 : G1 (ly_f y 3 f) = some (.inr (0, [.int mc1, .ref ed1, .int (nI l1.length)]))) (h2 : l1.length ≤ 1000) (h3 : G1 ed1 = some (rp_r (ly_k y 6) cap1 g1)) (h4 : cap1 ≤ 1500 ∧ l1.length ≤ cap1 ∧ 0 < cap1 ∧ ∀ k, k < l1.length → g1 k = l1[k]?) (h5 : ed1 = ed ∨ G ed1 = none) (h6 : ∀ b e, b ≠ ly_f y 3 f → b ≠ ed1 → G b = some e → G1 b = some e) : rp y G1 td ru fr lv lt et tl hf hp (va_up ol f l1) PS pf := by
  have hB := hR.2.1
  have hne : ed1 ≠ ly_a y 1 ∧ ed1 ≠ ly_a y 2 ∧ ed1 ≠ ly_a y 3 := by
    rcases h5 with h5 | h5
    · rw [h5]; exact hl.2.1
    · obtain ⟨⟨g1, b1, -⟩, ⟨g2, b2, -⟩, g3, b3, -⟩ := hB
      exact ⟨fun z => (by rw [z, b1] at h5; cases h5), fun z => (by rw [z, b2] at h5; cases h5), fun z => (by rw [z, b3] at h5; cases h5)⟩
  have hed : ∀ e, G ed1 = some e → rp_kd e = 14 ∧ ed1 = ed := fun e hz => by
    rcases h5 with h5 | h5
    · refine ⟨?_, h5⟩
      rw [h5] at hz
      rcases hl.2.2 with ⟨-, q⟩ | ⟨cap, g, q, -⟩
      · rw [q, he0] at hz; cases hz
      · rw [q] at hz; cases hz; rfl
    · rw [h5] at hz; cases hz
  refine rp_mono hR (fun b e hb hk0 hk14 => h6 b e (fun z => ?_) (fun z => ?_) hb) ⟨⟨fun k => if k = f then ed1 else ea k, fun k => if k = f then mc1 else mcs k, fun k hk => ?_, fun j k hj hk hjk hz => ?_⟩, hR.2.2.2.2.2.1.2⟩
  · rw [z, hg] at hb; cases hb; exact hk0 rfl
  · rw [z] at hb hk14
    rcases hk14 with h | h | h | h
    · exact h (hed e hb).1
    · exact hne.1 h
    · exact hne.2.1 h
    · exact hne.2.2 h
  · by_cases hkf : k = f
    · subst hkf
      simp only [if_pos, va_up_self]
      exact ⟨h1, h2, hne, Or.inr ⟨cap1, g1, h3, h4⟩⟩
    · simp only [if_neg hkf, va_up_ne _ _ hkf]
      obtain ⟨a1, a2, a3, a4⟩ := hall k hk
      refine ⟨h6 _ _ (fun z => hkf (hR.2.2.2.2.2.1.2 k f hk hf5 z)) (fun z => ?_) a1, a2, a3, ?_⟩
      · rw [z] at a1
        exact absurd (hed _ a1).1 (by show 0 ≠ 14; decide)
      · rcases a4 with a4 | ⟨cap, g, b1, b2⟩
        · exact Or.inl a4
        · refine Or.inr ⟨cap, g, h6 _ _ (fun z => ?_) (fun z => ?_) b1, b2⟩
          · rw [z, hg] at b1; cases b1
          · have b3 := b1
            rw [z] at b1
            have b4 := hdis k f hk hf5 hkf (by rw [he, z]; exact (hed _ b1).2)
            rw [b4, he0] at b3
            cases b3
  · simp only at hz ⊢
    by_cases hjf : j = f
    · subst hjf
      rw [if_neg (Ne.symm hjk)] at hz
      rw [if_pos rfl] at hz ⊢
      rcases h5 with h5 | h5
      · rw [h5, ← he] at hz ⊢
        exact hdis j k hj hk hjk hz
      · obtain ⟨-, -, -, a4⟩ := hall k hk
        rcases a4 with ⟨-, q⟩ | ⟨cap, g, q, -⟩
        · rw [hz, q]
        · rw [← hz, h5] at q; cases q
    · rw [if_neg hjf] at hz ⊢
      by_cases hkf : k = f
      · subst hkf
        rw [if_pos rfl] at hz
        rcases h5 with h5 | h5
        · rw [h5, ← he] at hz
          exact hdis j k hj hk hjk hz
        · obtain ⟨-, -, -, a4⟩ := hall j hj
          rcases a4 with ⟨-, q⟩ | ⟨cap, g, q, -⟩
          · exact q
          · rw [hz, h5] at q; cases q
      · rw [if_neg hkf] at hz
        exact hdis j k hj hk hjk hz
theorem c_list_size (l : Launch) {y : ly_T} {A : Nat → Prop} {G : gk_G} {td : Int32} {ru : Nat → Nat → Int32} {fr lv : Nat → Nat} {lt et tl : Nat → Int32} {hf hp : Nat → Option Nat} {ol : Nat → List Nat} {PS : Nat → Prop} {pf : Nat → Nat → Int32} (hR : rp y G td ru fr lv lt et tl hf hp ol PS pf) {f : Nat} (hf5 : f < 5) : gk_M0 l yJx4a65c_size_8abf5 (Cond.code yJx4a65c_size_8abf5 cJx4a65c_size_8abf5 1 (some .int)) 0 0 0 0 y A [.ref (ly_f y 3 f)] G (fun v G1 => v = some (.int (nI (ol f).length)) ∧ G1 = G) := by
  obtain ⟨⟨ea, mc, h1, h2⟩, h3⟩ := hR.2.2.2.2.2.1
  exact c_Jx4a65c_size_8abf5 l (h1 f hf5).1
theorem c_list_get (l : Launch) {y : ly_T} {A : Nat → Prop} {G : gk_G} {td : Int32} {ru : Nat → Nat → Int32} {fr lv : Nat → Nat} {lt et tl : Nat → Int32} {hf hp : Nat → Option Nat} {ol : Nat → List Nat} {PS : Nat → Prop} {pf : Nat → Nat → Int32} (hR : rp y G td ru fr lv lt et tl hf hp ol PS pf) {f : Nat} (hf5 : f < 5) {k t : Nat} (hk : (ol f)[k]? = some t) : gk_M0 l yJx4a65c_get_915e3 (Cond.code yJx4a65c_get_915e3 cJx4a65c_get_915e3 2 (some (.object "java/lang/Object"))) 2 60 0 0 y A [.ref (ly_f y 3 f), .int (nI k)] G (fun v G1 => v = some (.ref t) ∧ G1 = G) := by
  obtain ⟨⟨ea, mc, h1, h2⟩, h3⟩ := hR.2.2.2.2.2.1
  obtain ⟨a1, a2, a3, a4⟩ := h1 f hf5
  have hkl := (List.getElem?_eq_some_iff.mp hk).1
  rcases a4 with ⟨a4, -⟩ | ⟨cap, g, b1, b2, b3, b4, b5⟩
  · rw [a4] at hkl; exact absurd hkl (Nat.not_lt_zero _)
  · have h9 := c_Jx4a65c_get_915e3 (A := A) l a1 b1 b2 hkl b3
    rw [b5 k hkl, hk] at h9
    exact h9
theorem c_list_add (l : Launch) {y : ly_T} {A : Nat → Prop} {G : gk_G} {td : Int32} {ru : Nat → Nat → Int32} {fr lv : Nat → Nat} {lt et tl : Nat → Int32} {hf hp : Nat → Option Nat} {ol : Nat → List Nat} {PS : Nat → Prop} {pf : Nat → Nat → Int32} (hR : rp y G td ru fr lv lt et tl hf hp ol PS pf) {f : Nat} (hf5 : f < 5) {t : Nat} (hin : ∀ q ∈ ol f, PS q) (ht : PS t) (hlen : (ol f).length ≤ 999) : gk_M0 l yJx4a65c_add_9ea2d (Cond.code yJx4a65c_add_9ea2d cJx4a65c_add_9ea2d 2 (some .boolean)) 6 210 1 1500 y A [.ref (ly_f y 3 f), .ref t] G (fun v G1 => v = some (.int 1) ∧ rp y G1 td ru fr lv lt et tl hf hp (va_up ol f (ol f ++ [t])) PS pf) := by
  obtain ⟨⟨ea, mc, h1, h2⟩, h3⟩ := hR.2.2.2.2.2.1
  obtain ⟨a1, a2, a3, a4⟩ := h1 f hf5
  have hpt : ∀ q, PS q → gl_pt G q := fun q hq => ⟨_, hR.2.2.2.2.2.2.1 q hq⟩
  have key : ∀ (g : Nat → Option Nat), (((ol f).length = 0 ∧ ea f = ly_a y 6) ∨ ∃ cap, G (ea f) = some (rp_r (ly_k y 6) cap g) ∧ (ol f).length ≤ cap ∧ 0 < cap ∧ cap ≤ 1500) → (∀ k, k < (ol f).length → g k = (ol f)[k]?) → gk_M0 l yJx4a65c_add_9ea2d (Cond.code yJx4a65c_add_9ea2d cJx4a65c_add_9ea2d 2 (some .boolean)) 6 210 1 1500 y A [.ref (ly_f y 3 f), .ref t] G (fun v G1 => v = some (.int 1) ∧ rp y G1 td ru fr lv lt et tl hf hp (va_up ol f (ol f ++ [t])) PS pf) := by
    intro g hF hg
    refine gk_M0w (c_Jx4a65c_add_9ea2d l a1 hF hlen (fun i hi q hq => hpt q (hin q ?_)) (hpt t ht)) (fun v G1 he0 hw => ?_)
    · rw [hg i hi] at hq
      exact List.mem_of_getElem? hq
    · obtain ⟨rfl, ed2, cap2, g2, c1, c2, c3, c4, c5, c6, c7, c8⟩ := hw
      have hl : (ol f ++ [t]).length = (ol f).length + 1 := by simp
      refine ⟨rfl, rp_lset hR hf5 a1 rfl ⟨a2, a3, a4⟩ ea mc h1 h2 rfl he0 (by rw [hl]; exact c1) (by omega) c2 ⟨c4, by omega, by omega, fun k hk => ?_⟩ c7 c8⟩
      rw [hl] at hk
      by_cases hkn : k < (ol f).length
      · rw [c6 k hkn, hg k hkn, List.getElem?_append_left hkn]
      · have : k = (ol f).length := by omega
        subst this
        rw [c5, List.getElem?_append_right (Nat.le_refl _), Nat.sub_self]
        rfl
  rcases a4 with ⟨a4, a5⟩ | ⟨cap, g, b1, b2, b3, b4, b5⟩
  · exact key (fun _ => none) (Or.inl ⟨by rw [a4]; rfl, a5⟩) (fun k hk => by rw [a4] at hk; exact absurd hk (Nat.not_lt_zero _))
  · exact key g (Or.inr ⟨cap, b1, b3, b4, b2⟩) b5
theorem c_list_remove (l : Launch) {y : ly_T} {A : Nat → Prop} {G : gk_G} {td : Int32} {ru : Nat → Nat → Int32} {fr lv : Nat → Nat} {lt et tl : Nat → Int32} {hf hp : Nat → Option Nat} {ol : Nat → List Nat} {PS : Nat → Prop} {pf : Nat → Nat → Int32} (hR : rp y G td ru fr lv lt et tl hf hp ol PS pf) {f : Nat} (hf5 : f < 5) {k t : Nat} (hin : ∀ q ∈ ol f, PS q) (hk : (ol f)[k]? = some t) : gk_M0 l yJx4a65c_remove_915e3 (Cond.code yJx4a65c_remove_915e3 cJx4a65c_remove_915e3 4 (some (.object "java/lang/Object"))) 2 90 0 0 y A [.ref (ly_f y 3 f), .int (nI k)] G (fun v G1 => v = some (.ref t) ∧ rp y G1 td ru fr lv lt et tl hf hp (va_up ol f ((ol f).eraseIdx k)) PS pf) := by
  obtain ⟨⟨ea, mc, h1, h2⟩, h3⟩ := hR.2.2.2.2.2.1
  obtain ⟨a1, a2, a3, a4⟩ := h1 f hf5
  have hkl := (List.getElem?_eq_some_iff.mp hk).1
  obtain ⟨n, hn⟩ : ∃ n, (ol f).length = n + 1 := ⟨(ol f).length - 1, by omega⟩
  have a4' := a4
  rcases a4 with ⟨a4, -⟩ | ⟨cap, g, b1, b2, b3, b4, b5⟩
  · rw [a4] at hkl; exact absurd hkl (Nat.not_lt_zero _)
  · have hl : ((ol f).eraseIdx k).length = n := by rw [List.length_eraseIdx_of_lt hkl]; omega
    refine gk_M0w (c_Jx4a65c_remove_915e3 (A := A) l (by rw [hn] at a1; exact a1) b1 (by omega) (by omega) b2 (fun i hi q hq => ⟨_, hR.2.2.2.2.2.2.1 q (hin q ?_)⟩) (by rw [b5 k hkl]; exact hk)) (fun v G1 he0 hw => ?_)
    · rw [b5 i (by omega)] at hq
      exact List.mem_of_getElem? hq
    · obtain ⟨rfl, g2, c1, c2, c3, c4⟩ := hw
      refine ⟨rfl, rp_lset hR hf5 a1 rfl ⟨a2, a3, a4'⟩ ea mc h1 h2 rfl he0 (by rw [hl]; exact c1) (by omega) c2 ⟨b2, by omega, b4, fun j hj => ?_⟩ (Or.inl rfl) c4⟩
      rw [hl] at hj
      rw [c3 j hj, List.getElem?_eraseIdx]
      split
      · exact b5 j (by omega)
      · exact b5 (j + 1) (by omega)
