/-! one call on both sides: places, names, writing, turns, runs -/
theorem x_fget {P : Nat → Bool} : ∀ (l : List Nat) (p t : Nat), l[p]? = some t → P t = true → (l.filter P)[((l.take p).filter P).length]? = some t := by
  intro l
  induction l with
  | nil => intro p t h; cases h
  | cons a l ih =>
    intro p t h hP
    cases p with
    | zero =>
      obtain rfl : a = t := Option.some.inj h
      simp [hP]
    | succ p =>
      have h2 : l[p]? = some t := h
      have := ih p t h2 hP
      rw [List.take_succ_cons, List.filter_cons, List.filter_cons]
      split
      · rw [List.length_cons, List.getElem?_cons_succ]
        exact this
      · exact this
theorem x_fex {P : Nat → Bool} : ∀ (l : List Nat) (k t : Nat), (l.filter P)[k]? = some t → ∃ p, l[p]? = some t ∧ P t = true ∧ ((l.take p).filter P).length = k := by
  intro l
  induction l with
  | nil => intro k t h; cases h
  | cons a l ih =>
    intro k t h
    by_cases ha : P a = true
    · rw [List.filter_cons, if_pos ha] at h
      cases k with
      | zero =>
        obtain rfl : a = t := Option.some.inj h
        exact ⟨0, rfl, ha, rfl⟩
      | succ k =>
        obtain ⟨p, p1, p2, p3⟩ := ih k t h
        exact ⟨p + 1, p1, p2, by rw [List.take_succ_cons, List.filter_cons, if_pos ha, List.length_cons, p3]⟩
    · rw [List.filter_cons, if_neg ha] at h
      obtain ⟨p, p1, p2, p3⟩ := ih k t h
      exact ⟨p + 1, p1, p2, by rw [List.take_succ_cons, List.filter_cons, if_neg ha, p3]⟩
theorem x_ftake {P : Nat → Bool} (l : List Nat) (p : Nat) : (l.filter P).take ((l.take p).filter P).length = (l.take p).filter P := by
  have e : l.filter P = (l.take p).filter P ++ (l.drop p).filter P := by rw [← List.filter_append, List.take_append_drop]
  rw [e, List.take_left]
section XJ
variable {td : Int32} {ru : Nat → Nat → Int32} {fr : Nat → Nat} {S : ts_T} {hf hp : Nat → Option Nat} {row : List Nat} {fi : Nat → Nat} {md mq : Int32} {mv : Nat → Nat → Int32} {N : Nat}
theorem xI_cnt (h : xI td ru fr S hf hp row fi md mq mv N) {f n : Nat} (hf5 : f < 5) (hn : n ≤ row.length) : m_cnt mv (nI f) n = ((row.take n).filter (fun t => decide (fi t = f))).length :=
  x_cnt (fun k t hk => (h.1.2.2.2.2.1 k t hk).1) (fun t ht => (h.2.1.2.2.1 t ht).1) hf5 n hn
theorem xI_olds (h : xI td ru fr S hf hp row fi md mq mv N) {f : Nat} (hf5 : f < 5) : m_cnt mv (nI f) row.length = (S.2.2.2.2.1 f).length := by
  rw [xI_cnt h hf5 (Nat.le_refl _), List.take_length, (h.2.1.2.2.2.2.2.1 f hf5).1]
theorem xI_plc_ok (h : xI td ru fr S hf hp row fi md mq mv N) (hN : N < 512) {f k t : Nat} (hf5 : f < 5) (hk : (S.2.2.2.2.1 f)[k]? = some t) : (∃ p, p < row.length ∧ mv 14 p = nI f ∧ nI k = nI (m_cnt mv (nI f) p)) ∧ ∀ p, p < row.length → mv 14 p = nI f → nI k = nI (m_cnt mv (nI f) p) → row[p]? = some t ∧ ((row.take p).filter (fun t => decide (fi t = f))).length = k := by
  have hq := (xI_q h hN).2
  rw [(h.2.1.2.2.2.2.2.1 f hf5).1] at hk
  obtain ⟨p, p1, p2, p3⟩ := x_fex row k t hk
  have hpl := (List.getElem?_eq_some_iff.mp p1).1
  have hkl := (List.getElem?_eq_some_iff.mp hk).1
  have hkl2 : k < row.length := Nat.lt_of_lt_of_le hkl (List.length_filter_le _ _)
  refine ⟨⟨p, hpl, by rw [(h.1.2.2.2.2.1 p t p1).1, of_decide_eq_true p2], by rw [xI_cnt h hf5 (by omega), p3]⟩, fun p2 h1 h2 h3 => ?_⟩
  rw [xI_cnt h hf5 (by omega)] at h3
  have hle : ((row.take p2).filter (fun t => decide (fi t = f))).length ≤ row.length := Nat.le_trans (List.length_filter_le _ _) (by rw [List.length_take]; omega)
  have h4 := (nI_eq (by omega) (by omega)).mp h3
  obtain ⟨u, hu⟩ : ∃ u, row[p2]? = some u := ⟨_, List.getElem?_eq_getElem h1⟩
  have hfu : fi u = f := (nI_eq (by have := (h.2.1.2.2.1 u (List.mem_of_getElem? hu)).1; omega) (by omega)).mp ((h.1.2.2.2.2.1 p2 u hu).1.symm.trans h2)
  have := x_fget (P := fun t => decide (fi t = f)) row p2 u hu (decide_eq_true hfu)
  rw [← h4, hk] at this
  exact ⟨by rw [hu]; exact this.symm, h4.symm⟩
theorem xI_plc_no (h : xI td ru fr S hf hp row fi md mq mv N) (hN : N < 512) {i j : Int32} (hno : rg_out i 5 ∨ ∃ f, f < 5 ∧ i = nI f ∧ rg_out j (S.2.2.2.2.1 f).length) : ∀ p, p < row.length → mv 14 p = i → ¬ j = nI (m_cnt mv i p) := by
  have hq := (xI_q h hN).2
  rintro p hp1 rfl rfl
  obtain ⟨u, hu⟩ : ∃ u, row[p]? = some u := ⟨_, List.getElem?_eq_getElem hp1⟩
  have hu5 := (h.2.1.2.2.1 u (List.mem_of_getElem? hu)).1
  have e := (h.1.2.2.2.2.1 p u hu).1
  rw [e] at hno
  rcases hno with ho | ⟨f, hf5, hfe, ho⟩
  · exact rg_out_no hu5 (by decide) ho
  · have hfu : fi u = f := (nI_eq (by omega) (by omega)).mp hfe
    rw [hfu, xI_cnt h hf5 (by omega)] at ho
    have := x_fget (P := fun t => decide (fi t = f)) row p u hu (decide_eq_true hfu)
    rw [← (h.2.1.2.2.2.2.2.1 f hf5).1] at this
    have hl := (List.getElem?_eq_some_iff.mp this).1
    have := xI_len5 h hN f hf5
    exact rg_out_no hl (by omega) ho
theorem xI_old (h : xI td ru fr S hf hp row fi md mq mv N) {f p t : Nat} (hf5 : f < 5) (hp1 : row[p]? = some t) : ∀ n, n ≤ row.length → m_old mv (nI f) p n = ((row.take n).filter (fun u => decide (fi u = f) && decide (S.2.2.2.2.2.2 1 u = S.2.2.2.2.2.2 1 t))).length := by
  have e16 := (h.1.2.2.2.2.1 p t hp1).2.2.1
  intro n
  induction n with
  | zero => intro _; rfl
  | succ n ih =>
    intro hn
    obtain ⟨u, hu⟩ : ∃ u, row[n]? = some u := ⟨_, List.getElem?_eq_getElem (by omega)⟩
    have e : row.take (n + 1) = row.take n ++ [u] := by rw [List.take_add_one, hu]; rfl
    obtain ⟨h14, -, h16, -⟩ := h.1.2.2.2.2.1 n u hu
    have hu5 := (h.2.1.2.2.1 u (List.mem_of_getElem? hu)).1
    by_cases hf : fi u = f
    · by_cases hd : S.2.2.2.2.2.2 1 u = S.2.2.2.2.2.2 1 t
      · rw [m_old_y (by rw [h14, hf]) (by rw [h16, e16, hd]), ih (by omega), e]
        simp [List.filter_append, hf, hd]
      · rw [m_old_o (by rw [h16, e16]; exact hd), ih (by omega), e]
        simp [List.filter_append, hf, hd]
    · rw [m_old_n (by rw [h14, nI_eq (by omega) (by omega)]; exact hf), ih (by omega), e]
      simp [List.filter_append, hf]
theorem xI_name (h : xI td ru fr S hf hp row fi md mq mv N) (hN : N < 512) {f p k t : Nat} (hf5 : f < 5) (hp1 : row[p]? = some t) (hk : ((row.take p).filter (fun t => decide (fi t = f))).length = k) (hkl : k ≤ (S.2.2.2.2.1 f).length) :
    (if mv 7 (fr f) = 0 then nI (m_cnt mv (nI f) row.length) - nI k else 1000 * mv 16 p + nI (m_old mv (nI f) p p)) = if ru (fr f) 8 = 0 then nI ((S.2.2.2.2.1 f).length - k) else 1000 * S.2.2.2.2.2.2 1 t + nI (t_cnt S.2.2.2.2.2.2 (S.2.2.2.2.1 f) k (S.2.2.2.2.2.2 1 t)) := by
  have hpl := (List.getElem?_eq_some_iff.mp hp1).1
  rw [(h.1.2.2.1 (fr f) (h.2.2.2.2.1 f hf5).1).2.2.2.2.2.2.2.1, xI_olds h hf5, pk_sub hkl, (h.1.2.2.2.2.1 p t hp1).2.2.1, xI_old h hf5 hp1 p (by omega)]
  have : ((row.take p).filter (fun u => decide (fi u = f) && decide (S.2.2.2.2.2.2 1 u = S.2.2.2.2.2.2 1 t))).length = t_cnt S.2.2.2.2.2.2 (S.2.2.2.2.1 f) k (S.2.2.2.2.2.2 1 t) := by
    rw [t_cnt, (h.2.1.2.2.2.2.2.1 f hf5).1, ← hk, x_ftake, List.filter_filter]
    congr 1
    exact List.filter_congr (fun u _ => Bool.and_comm _ _)
  rw [this]
theorem xI_holds (h : xI td ru fr S hf hp row fi md mq mv N) (hN : N < 512) {a : Nat} (ha : a < 4) {z9 b : Int32} (hT : (hf a = none ∧ z9 = -1) ∨ ∃ f t x, f < 5 ∧ hf a = some f ∧ hp a = some t ∧ t_plc (S.2.2.2.2.1 f) t x ∧ z9 = 100 * nI f + x)
    (hM : (mv 18 a = -1 ∧ b = -1) ∨ (¬ mv 18 a = -1 ∧ ((mv 19 a = -1 ∧ b = 100 * mv 18 a + 0) ∨ ∃ q, q < 4096 ∧ mv 19 a = nI q ∧ b = 100 * mv 18 a + (1 + nI (m_cnt mv (mv 18 a) q))))) : z9 = b := by
  have hq := (xI_q h hN).2
  rcases h.1.2.2.2.2.2 a ha with ⟨p1, p2, p3, p4⟩ | ⟨f, f5, p1, p2, p3⟩
  · rcases hT with ⟨-, hT⟩ | ⟨f, t, x, -, q1, -⟩
    · rcases hM with ⟨-, hM⟩ | ⟨hM, -⟩
      · rw [hT, hM]
      · exact absurd p3 hM
    · rw [p1] at q1; cases q1
  · have hn18 : ¬ mv 18 a = -1 := by rw [p2]; exact m_nIn (by omega)
    rcases hT with ⟨hT, -⟩ | ⟨g, t, x, g5, q1, q2, q3, q4⟩
    · rw [p1] at hT; cases hT
    · obtain rfl : f = g := Option.some.inj (p1.symm.trans q1)
      have hM := (hM.resolve_left (fun z => hn18 z.1)).2
      have memf : ∀ u, u ∈ S.2.2.2.2.1 f → u ∈ row ∧ fi u = f := fun u hu => by
        rw [(h.2.1.2.2.2.2.2.1 f f5).1, List.mem_filter] at hu
        exact ⟨hu.1, of_decide_eq_true hu.2⟩
      rcases p3 with ⟨p3, p4⟩ | ⟨k, u, e1, e2, e3, e4⟩
      · obtain rfl : S.1 f = t := Option.some.inj (p3.symm.trans q2)
        have hx : x = 0 := by
          rcases q3 with ⟨k, k1, -⟩ | ⟨-, q3⟩
          · exact absurd (memf _ (List.mem_of_getElem? k1)).1 (h.2.1.2.2.2.1 f f5).2
          · exact q3
        rcases hM with ⟨-, hM⟩ | ⟨q, hq4, hM, -⟩
        · rw [q4, hM, p2, hx]
        · exact absurd (hM.symm.trans p4) (m_nIn (by omega))
      · obtain rfl : u = t := Option.some.inj (e3.symm.trans q2)
        have hkl := (List.getElem?_eq_some_iff.mp e1).1
        rcases hM with ⟨hM, -⟩ | ⟨q, hq4, hM, hb⟩
        · exact absurd (e4.symm.trans hM) (m_nIn (by omega))
        · obtain rfl : k = q := (nI_eq (by omega) (by omega)).mp (e4.symm.trans hM)
          have hg := x_fget (P := fun t => decide (fi t = f)) row k u e1 (decide_eq_true e2)
          rw [← (h.2.1.2.2.2.2.2.1 f f5).1] at hg
          have hx : x = nI (((row.take k).filter (fun t => decide (fi t = f))).length + 1) := by
            rcases q3 with ⟨j, j1, -, j2⟩ | ⟨q3, -⟩
            · have nd : (S.2.2.2.2.1 f).Nodup := by
                rw [(h.2.1.2.2.2.2.2.1 f f5).1]
                exact h.2.1.1.sublist List.filter_sublist
              rw [j2, x_idx nd j1 hg]
            · exact absurd hg (q3 _)
          rw [q4, hb, p2, hx, xI_cnt h f5 (by omega), ← nI_1, Int32.add_comm 1]
/-- writing to the live part, and to an old one -/
theorem xI_write1 {a f : Nat} {n : Int32} (h : xI td ru fr S hf hp row fi md mq mv N) (hN : N < 512) (hf5 : f < 5) (hn : rg_in n 1 1000) : xI td ru fr (S.1, S.2.1, S.2.2.1, S.2.2.2.1, S.2.2.2.2.1, S.2.2.2.2.2.1, rp_u2 S.2.2.2.2.2.2 0 (S.1 f) (S.2.2.2.2.2.2 0 (S.1 f) + n)) hf hp row fi md mq (rp_u2 mv 10 f (mv 10 f + n)) (N + 1) := by
  obtain ⟨⟨m1, m2, m3, m4, m5, m6⟩, ht, u1, u2, u3, u4⟩ := h
  have hn0 : ¬ n < 0 := fun q => hn.1 (Int32.lt_iff_toInt_lt.mpr (by
    have := Int32.lt_iff_toInt_lt.mp q
    rw [show (0 : Int32).toInt = 0 from rfl] at this
    rw [show (1 : Int32).toInt = 1 from rfl]
    omega))
  obtain ⟨j, hj, rfl⟩ := nI_of hn0
  have hj2 : j ≤ 1000 := (nI_leI (b := 1000) hj (by decide)).mp hn.2
  have e : ∀ i k, i ≠ 10 → rp_u2 mv 10 f (mv 10 f + nI j) i k = mv i k := fun i k hi => rp_u2n _ _ (fun q => hi q.1)
  obtain ⟨n1, n2, n3, n4, n5, n6, n7, n8, n9⟩ := tx_mono ht
  refine ⟨⟨m1, m2, fun k hk => ?_, fun g hg => ?_, fun k t hk => ?_, fun k hk => ?_⟩, ⟨n1, n2, n3, n4, n5, n6, fun g hg => ?_, fun t hh => ?_, fun g hg => ?_⟩, u1, u2, u3, fun k hk => ?_⟩
  · rw [e 0 k (by decide), e 1 k (by decide), e 2 k (by decide), e 3 k (by decide), e 4 k (by decide), e 5 k (by decide), e 6 k (by decide), e 7 k (by decide), e 8 k (by decide)]
    exact m3 k hk
  · rw [e 9 g (by decide), e 11 g (by decide), e 12 g (by decide), e 13 g (by decide)]
    refine ⟨(m4 g hg).1, ?_, (m4 g hg).2.2⟩
    show _ = rp_u2 S.2.2.2.2.2.2 0 (S.1 f) (S.2.2.2.2.2.2 0 (S.1 f) + nI j) 0 (S.1 g)
    by_cases hgf : g = f
    · rw [hgf, rp_u2s, rp_u2s, (m4 f hf5).2.1]
    · rw [rp_u2n _ _ (fun q => hgf q.2), rp_u2n _ _ (fun q => hgf (n5 g f hg hf5 q.2))]
      exact (m4 g hg).2.1
  · have htr := List.mem_of_getElem? hk
    have hne : t ≠ S.1 f := fun q => (n4 f hf5).2 (q ▸ htr)
    rw [e 14 k (by decide), e 15 k (by decide), e 16 k (by decide), e 17 k (by decide)]
    show _ ∧ _ = rp_u2 S.2.2.2.2.2.2 0 (S.1 f) (S.2.2.2.2.2.2 0 (S.1 f) + nI j) 0 t ∧ _ = rp_u2 S.2.2.2.2.2.2 0 (S.1 f) (S.2.2.2.2.2.2 0 (S.1 f) + nI j) 1 t ∧ _ = rp_u2 S.2.2.2.2.2.2 0 (S.1 f) (S.2.2.2.2.2.2 0 (S.1 f) + nI j) 2 t
    rw [rp_u2n (i := 0) _ _ (fun q => hne q.2), rp_u2n (i := 1) _ _ (fun q => hne q.2), rp_u2n (i := 2) _ _ (fun q => hne q.2)]
    exact m5 k t hk
  · rw [e 18 k (by decide), e 19 k (by decide)]
    exact m6 k hk
  · show ∃ c, c ≤ 1000 * (N + 1) ∧ rp_u2 S.2.2.2.2.2.2 0 (S.1 f) (S.2.2.2.2.2.2 0 (S.1 f) + nI j) 0 (S.1 g) = nI c
    by_cases hgf : g = f
    · obtain ⟨c, hc, ec⟩ := ht.2.2.2.2.2.2.1 f hf5
      rw [hgf, rp_u2s, ec, nI_add]
      exact ⟨c + j, by omega, rfl⟩
    · rw [rp_u2n _ _ (fun q => hgf (n5 g f hg hf5 q.2))]
      exact n7 g hg
  · show rp_u2 S.2.2.2.2.2.2 0 (S.1 f) (S.2.2.2.2.2.2 0 (S.1 f) + nI j) 2 t = 0 ∨ rp_u2 S.2.2.2.2.2.2 0 (S.1 f) (S.2.2.2.2.2.2 0 (S.1 f) + nI j) 2 t = 1
    rw [rp_u2n _ _ (fun q => absurd q.1 (by decide))]
    exact n8 t hh
  · show rp_u2 S.2.2.2.2.2.2 0 (S.1 f) (S.2.2.2.2.2.2 0 (S.1 f) + nI j) 2 (S.1 g) = 0
    rw [rp_u2n _ _ (fun q => absurd q.1 (by decide))]
    exact n9 g hg
  · rw [e 17 k (by decide)]
    exact u4 k hk
theorem xI_write2 {p t : Nat} {n : Int32} (h : xI td ru fr S hf hp row fi md mq mv N) (hp1 : row[p]? = some t) : xI td ru fr (S.1, S.2.1, S.2.2.1, S.2.2.2.1, S.2.2.2.2.1, S.2.2.2.2.2.1, rp_u2 S.2.2.2.2.2.2 0 t (S.2.2.2.2.2.2 0 t + n)) hf hp row fi md mq (rp_u2 mv 15 p (mv 15 p + n)) (N + 1) := by
  obtain ⟨⟨m1, m2, m3, m4, m5, m6⟩, ht, u1, u2, u3, u4⟩ := h
  have htr := List.mem_of_getElem? hp1
  have e : ∀ i k, i ≠ 15 → rp_u2 mv 15 p (mv 15 p + n) i k = mv i k := fun i k hi => rp_u2n _ _ (fun q => hi q.1)
  obtain ⟨n1, n2, n3, n4, n5, n6, n7, n8, n9⟩ := tx_mono ht
  have hne : ∀ g, g < 5 → S.1 g ≠ t := fun g hg q => (n4 g hg).2 (q ▸ htr)
  refine ⟨⟨m1, m2, fun k hk => ?_, fun g hg => ?_, fun k u hk => ?_, fun k hk => ?_⟩, ⟨n1, n2, n3, n4, n5, n6, fun g hg => ?_, fun u hh => ?_, fun g hg => ?_⟩, u1, u2, u3, fun k hk => ?_⟩
  · rw [e 0 k (by decide), e 1 k (by decide), e 2 k (by decide), e 3 k (by decide), e 4 k (by decide), e 5 k (by decide), e 6 k (by decide), e 7 k (by decide), e 8 k (by decide)]
    exact m3 k hk
  · rw [e 9 g (by decide), e 10 g (by decide), e 11 g (by decide), e 12 g (by decide), e 13 g (by decide)]
    refine ⟨(m4 g hg).1, ?_, (m4 g hg).2.2⟩
    show _ = rp_u2 S.2.2.2.2.2.2 0 t (S.2.2.2.2.2.2 0 t + n) 0 (S.1 g)
    rw [rp_u2n _ _ (fun q => hne g hg q.2)]
    exact (m4 g hg).2.1
  · rw [e 14 k (by decide), e 16 k (by decide), e 17 k (by decide)]
    obtain ⟨a1, a2, a3, a4⟩ := m5 k u hk
    show _ ∧ _ = rp_u2 S.2.2.2.2.2.2 0 t (S.2.2.2.2.2.2 0 t + n) 0 u ∧ _ = rp_u2 S.2.2.2.2.2.2 0 t (S.2.2.2.2.2.2 0 t + n) 1 u ∧ _ = rp_u2 S.2.2.2.2.2.2 0 t (S.2.2.2.2.2.2 0 t + n) 2 u
    rw [rp_u2n (i := 1) _ _ (fun q => absurd q.1 (by decide)), rp_u2n (i := 2) _ _ (fun q => absurd q.1 (by decide))]
    refine ⟨a1, ?_, a3, a4⟩
    by_cases hkp : k = p
    · subst hkp
      obtain rfl : u = t := Option.some.inj (hk.symm.trans hp1)
      rw [rp_u2s, rp_u2s, a2]
    · have hut : u ≠ t := fun q => hkp (x_idx n1 (q ▸ hk) hp1)
      rw [rp_u2n _ _ (fun q => hkp q.2), rp_u2n _ _ (fun q => hut q.2)]
      exact a2
  · rw [e 18 k (by decide), e 19 k (by decide)]
    exact m6 k hk
  · show ∃ c, c ≤ 1000 * (N + 1) ∧ rp_u2 S.2.2.2.2.2.2 0 t (S.2.2.2.2.2.2 0 t + n) 0 (S.1 g) = nI c
    rw [rp_u2n _ _ (fun q => hne g hg q.2)]
    exact n7 g hg
  · show rp_u2 S.2.2.2.2.2.2 0 t (S.2.2.2.2.2.2 0 t + n) 2 u = 0 ∨ rp_u2 S.2.2.2.2.2.2 0 t (S.2.2.2.2.2.2 0 t + n) 2 u = 1
    rw [rp_u2n _ _ (fun q => absurd q.1 (by decide))]
    exact n8 u hh
  · show rp_u2 S.2.2.2.2.2.2 0 t (S.2.2.2.2.2.2 0 t + n) 2 (S.1 g) = 0
    rw [rp_u2n _ _ (fun q => absurd q.1 (by decide))]
    exact n9 g hg
  · rw [e 17 k (by decide)]
    exact u4 k hk
theorem xI_turn {f q : Nat} (h : xI td ru fr S hf hp row fi md mq mv N) (hN : N < 512) (hf5 : f < 5) (hq : ¬ S.2.2.2.2.2.1 q) :
    (m_turn mv f (fr f) row.length md).2.2 = (t_tth td ru fr S.1 hp S.2.2.2.2.1 S.2.2.2.2.2.2 f q).length ∧
    ∃ row2 fi2, xI td ru fr (t_turn td ru fr hp S f q) hf hp row2 fi2 md (nI (m_turn mv f (fr f) row.length md).2.1) (m_turn mv f (fr f) row.length md).1 (N + 1) := by
  obtain ⟨a1, row2, fi2, a2, -, a3, a4⟩ := x_turn (q := q) h.1 h.2.1 h.2.2 (by omega) hf5 hq
  obtain ⟨n1, n2, n3, n4, n5, n6, n7, n8, n9⟩ := a3
  refine ⟨a1, row2, fi2, a2, ⟨n1, by omega, n3, n4, n5, fun g hg => ⟨(n6 g hg).1, Nat.le_trans (n6 g hg).2 ?_⟩, fun g hg => ?_, n8, n9⟩, a4⟩
  · simp only [va_up]
    split
    · exact Nat.le_refl _
    · exact Nat.le_succ _
  · obtain ⟨c, hc, e⟩ := n7 g hg
    exact ⟨c, by omega, e⟩
theorem xI_run {S2 : ts_T} {b : Int32} {ml : Nat → Nat} {e : Nat} (h : xI td ru fr S hf hp row fi md mq mv N) (hN : N < 512) (he : td = nI e) (he5 : e ≤ 5000) (hml : ∀ f, f < 5 → ml f ≤ 5000 ∧ S.2.1 f = nI (ml f)) (hr : t_runR td ru fr hp S 5 S2 b) :
    (m_run1 fr ml e mv row.length 5).2.2 = b ∧ ∃ row2 fi2, xI td ru fr S2 hf (t_tls b ru fr S2.1 hf hp 3) row2 fi2 md (nI (m_run1 fr ml e mv row.length 5).2.1) (m_tells (m_run1 fr ml e mv row.length 5).1 (m_run1 fr ml e mv row.length 5).2.2 3) (N + 1) := by
  obtain ⟨a1, row2, fi2, ⟨m1, m2, m3, m4, m5, m6⟩, -, a3, ⟨u1, u2, u3, u4⟩, -⟩ := x_run1 h.1 h.2.1 h.2.2 (by omega) (by omega) he he5 hml 5 (Nat.le_refl _) S2 b hr
  refine ⟨a1, row2, fi2, ?_⟩
  rw [a1]
  obtain ⟨V, hV⟩ : ∃ z, z = (m_run1 fr ml e mv row.length 5).1 := ⟨_, rfl⟩
  rw [← hV] at m3 m4 m5 m6 u4 ⊢
  have H := x_tells (b := b) (ru := ru) m6 (fun f hf => ⟨(u3 f hf).1, (m4 f hf).1⟩) (fun r hr => (m3 r hr).2.2.2.2.2.2.2.2) 3 (Nat.le_refl _)
  have ro : ∀ i j, i ≠ 19 → m_tells V b 3 i j = V i j := fun i j hi => m_tells_row hi 3
  obtain ⟨n1, n2, n3, n4, n5, n6, n7, n8, n9⟩ := a3
  refine ⟨⟨m1, m2, fun k hk => ?_, fun g hg => ?_, fun k t hk => ?_, H⟩, ⟨n1, by omega, n3, n4, n5, fun g hg => ⟨(n6 g hg).1, Nat.le_trans (n6 g hg).2 ?_⟩, fun g hg => ?_, n8, n9⟩, u1, u2, u3, fun j hj => ?_⟩
  · rw [ro 0 k (by decide), ro 1 k (by decide), ro 2 k (by decide), ro 3 k (by decide), ro 4 k (by decide), ro 5 k (by decide), ro 6 k (by decide), ro 7 k (by decide), ro 8 k (by decide)]
    exact m3 k hk
  · rw [ro 9 g (by decide), ro 10 g (by decide), ro 11 g (by decide), ro 12 g (by decide), ro 13 g (by decide)]
    exact m4 g hg
  · rw [ro 14 k (by decide), ro 15 k (by decide), ro 16 k (by decide), ro 17 k (by decide)]
    exact m5 k t hk
  · exact Nat.le_of_eq (if_pos hg)
  · obtain ⟨c, hc, ec⟩ := n7 g hg
    exact ⟨c, by omega, ec⟩
  · rw [ro 17 j (by decide)]
    exact u4 j hj
end XJ
