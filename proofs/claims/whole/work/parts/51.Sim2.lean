/-! throwing away, on both sides -/
/-- of a row: those of a file that must go are taken out, when there are m of them -/
def x_kp (go : Nat → Nat → Bool) (isf : Nat → Bool) : Nat → List Nat → List Nat
  | _, [] => []
  | m, t :: r => if (isf t && go t m) = true then x_kp go isf (m - 1) r else t :: x_kp go isf m r
theorem x_kp_sub (go : Nat → Nat → Bool) (isf : Nat → Bool) : ∀ (R : List Nat) (m : Nat), (x_kp go isf m R).Sublist R := by
  intro R
  induction R with
  | nil => intro m; exact List.Sublist.refl _
  | cons t r ih =>
    intro m
    simp only [x_kp]
    split
    · exact (ih _).cons _
    · exact (ih _).cons_cons _
theorem x_kp_f (go : Nat → Nat → Bool) (isf : Nat → Bool) : ∀ (R : List Nat) (m : Nat), (x_kp go isf m R).filter isf = t_kp go m (R.filter isf) := by
  intro R
  induction R with
  | nil => intro m; rfl
  | cons t r ih =>
    intro m
    simp only [x_kp]
    cases hf : isf t with
    | false => simp [hf, ih]
    | true =>
      cases hg : go t m with
      | true => simp [hf, hg, t_kp, ih]
      | false => simp [hf, hg, t_kp, ih]
theorem x_kp_g (go : Nat → Nat → Bool) (isf p : Nat → Bool) (hp : ∀ t, isf t = true → p t = false) : ∀ (R : List Nat) (m : Nat), (x_kp go isf m R).filter p = R.filter p := by
  intro R
  induction R with
  | nil => intro m; rfl
  | cons t r ih =>
    intro m
    simp only [x_kp]
    split
    · rename_i h
      rw [ih, List.filter_cons, hp t (by simp only [Bool.and_eq_true] at h; exact h.1)]
      rfl
    · rw [List.filter_cons, List.filter_cons, ih]
theorem x_le0 {x : Int32} (h : ¬ x < 0) : x ≤ 0 ↔ x = 0 := by
  rw [Int32.le_iff_toInt_le, ← Int32.toInt_inj]
  rw [Int32.lt_iff_toInt_lt] at h
  rw [show (0 : Int32).toInt = 0 from rfl] at h ⊢
  omega
/-- one place: the reference's word and the class's are one -/
theorem x_cond {td : Int32} {ru : Nat → Nat → Int32} {pf : Nat → Nat → Int32} {lv : Nat → Nat} {hf hp : Nat → Option Nat} {row : List Nat} {fi : Nat → Nat} {mv : Nat → Nat → Int32} {f r m k t : Nat} (hP : mxP pf row fi mv) (hH : mxH lv hf hp row fi mv) (hR : mxR ru mv) (hr3 : r < 3) (hgr : ¬ ru r 6 < 0) (hn : row.Nodup) (hlen : row.length ≤ 4096) (hlv : ∀ f, f < 5 → ¬ lv f ∈ row) (hf5 : f < 5) (hfi : fi t < 5) (hk : row[k]? = some t) :
    m_cond mv f r td k (nI m) = (decide (fi t = f) && t_goF td pf hp (ru r 4) (ru r 5) (ru r 6) t m) := by
  obtain ⟨h14, -, h16, -⟩ := hP k t hk
  obtain ⟨-, -, -, h3, h4, h5, -⟩ := hR r hr3
  simp only [m_cond, t_goF, t_go]
  rw [x_held hH hn hlen hlv hk, h14, h16, h3, h4, h5]
  have e1 : decide (nI (fi t) = nI f) = decide (fi t = f) := by rw [decide_eq_decide, nI_eq (by omega) (by omega)]
  have e2 : decide (¬ ru r 6 ≤ 0) = decide (¬ ru r 6 = 0) := by rw [decide_eq_decide, x_le0 hgr]
  have e3 : decide (¬ td - pf 1 t ≤ ru r 6) = decide (ru r 6 < td - pf 1 t) := by rw [decide_eq_decide, Int32.not_le]
  rw [e1, e2, e3]
  cases decide (fi t = f) <;> cases t_held hp t <;> by_cases h : td - pf 1 t < ru r 4 <;> simp [h]
/-- taking a part out that nobody holds -/
theorem x_away {pf : Nat → Nat → Int32} {lv : Nat → Nat} {hf hp : Nat → Option Nat} {K R : List Nat} {t : Nat} {fi : Nat → Nat} {mv : Nat → Nat → Int32} {f : Nat} (hP : mxP pf (K ++ t :: R) fi mv) (hH : mxH lv hf hp (K ++ t :: R) fi mv) (hlen : (K ++ t :: R).length ≤ 4096) (hnot : t_held hp t = false) :
    mxP pf (K ++ R) fi (m_away mv K.length f (K ++ R).length 4) ∧ mxH lv hf hp (K ++ R) fi (m_away mv K.length f (K ++ R).length 4) := by
  have hlen2 : (K ++ t :: R).length = (K ++ R).length + 1 := by simp; omega
  have hKl : K.length ≤ (K ++ R).length := by simp
  have get1 : ∀ k u, k < K.length → ((K ++ R)[k]? = some u ↔ (K ++ t :: R)[k]? = some u) := fun k u hk => by rw [List.getElem?_append_left hk, List.getElem?_append_left hk]
  have get2 : ∀ k u, K.length ≤ k → ((K ++ R)[k]? = some u ↔ (K ++ t :: R)[k + 1]? = some u) := fun k u hk => by
    rw [List.getElem?_append_right hk, List.getElem?_append_right (by omega), show k + 1 - K.length = (k - K.length) + 1 by omega, List.getElem?_cons_succ]
  have aw : ∀ i, (i = 14 ∨ i = 15 ∨ i = 16 ∨ i = 17) → ∀ j, m_away mv K.length f (K ++ R).length 4 i j = if K.length ≤ j ∧ j < (K ++ R).length then mv i (j + 1) else mv i j := fun i hi j => by
    simp only [m_away]
    rw [if_neg (fun h => absurd h.1 (by omega))]
    by_cases hj : K.length ≤ j ∧ j < (K ++ R).length
    · rw [if_pos ⟨hi, hj⟩, if_pos hj]
    · rw [if_neg (fun h => hj h.2), if_neg (fun h => absurd h.1 (by omega)), if_neg hj]
  have a18 : ∀ j, m_away mv K.length f (K ++ R).length 4 18 j = mv 18 j := fun j => by
    simp only [m_away]
    rw [if_neg (fun h => absurd h.1 (by decide)), if_neg (fun h => absurd h.1 (by decide)), if_neg (fun h => absurd h.1 (by decide))]
  have a19 : ∀ j, j < 4 → m_away mv K.length f (K ++ R).length 4 19 j = mv 19 j - (if nI K.length < mv 19 j then 1 else 0) := fun j hj => by
    simp only [m_away]
    rw [if_neg (fun h => absurd h.1 (by decide)), if_neg (fun h => absurd h.1 (by decide)), if_pos ⟨trivial, hj⟩]
  refine ⟨fun k u hk => ?_, fun h hh => ?_⟩
  · have hkl := (List.getElem?_eq_some_iff.mp hk).1
    rw [aw 14 (by omega), aw 15 (by omega), aw 16 (by omega), aw 17 (by omega)]
    by_cases hc : K.length ≤ k
    · rw [if_pos ⟨hc, hkl⟩, if_pos ⟨hc, hkl⟩, if_pos ⟨hc, hkl⟩, if_pos ⟨hc, hkl⟩]
      exact hP (k + 1) u ((get2 k u hc).mp hk)
    · rw [if_neg (fun q => hc q.1), if_neg (fun q => hc q.1), if_neg (fun q => hc q.1), if_neg (fun q => hc q.1)]
      exact hP k u ((get1 k u (by omega)).mp hk)
  · rw [a18, a19 h hh]
    have neg1 : ¬ nI K.length < -1 := fun q => by
      rw [Int32.lt_iff_toInt_lt, nI_toInt (by omega), show (-1 : Int32).toInt = -1 from rfl] at q
      omega
    rcases hH h hh with ⟨a, b, c, d⟩ | ⟨g, g5, a, b, ⟨c, d⟩ | ⟨k, u, e1, e2, e3, e4⟩⟩
    · rw [d, if_neg neg1]
      exact Or.inl ⟨a, b, c, rfl⟩
    · rw [d, if_neg neg1]
      exact Or.inr ⟨g, g5, a, b, Or.inl ⟨c, rfl⟩⟩
    · refine Or.inr ⟨g, g5, a, b, Or.inr ?_⟩
      have hkl := (List.getElem?_eq_some_iff.mp e1).1
      rw [e4]
      rcases Nat.lt_trichotomy k K.length with q | q | q
      · rw [if_neg (nI_nlt (by omega) (by omega))]
        exact ⟨k, u, (get1 k u q).mpr e1, e2, e3, by rw [Int32.sub_zero]⟩
      · exfalso
        subst q
        rw [gl_mid] at e1
        have hut : u = t := (Option.some.inj e1).symm
        rw [hut] at e3
        have : t_held hp t = true := by
          simp only [t_held, decide_eq_true_eq]
          have : h = 0 ∨ h = 1 ∨ h = 2 ∨ h = 3 := by omega
          rcases this with rfl | rfl | rfl | rfl
          · exact Or.inl e3
          · exact Or.inr (Or.inl e3)
          · exact Or.inr (Or.inr (Or.inl e3))
          · exact Or.inr (Or.inr (Or.inr e3))
        rw [hnot] at this
        cases this
      · rw [if_pos (nI_lt q (by omega))]
        obtain ⟨k1, rfl⟩ : ∃ k1, k = k1 + 1 := ⟨k - 1, by omega⟩
        exact ⟨k1, u, (get2 k1 u (by omega)).mpr e1, e2, e3, by rw [nI_pred]⟩
/-- what throwing away does, on both sides -/
theorem x_thr {td : Int32} {ru : Nat → Nat → Int32} {pf : Nat → Nat → Int32} {lv : Nat → Nat} {hf hp : Nat → Option Nat} {fi : Nat → Nat} {f r : Nat} (hr3 : r < 3) (hgr : ¬ ru r 6 < 0) (hf5 : f < 5) : ∀ (R K : List Nat) (mv : Nat → Nat → Int32) (m s : Nat), mxP pf (K ++ R) fi mv → mxH lv hf hp (K ++ R) fi mv → mxR ru mv → (K ++ R).Nodup → (K ++ R).length ≤ 4096 → (∀ f, f < 5 → ¬ lv f ∈ K ++ R) → (∀ t ∈ K ++ R, fi t < 5) → (R.filter (fun t => decide (fi t = f))).length ≤ m →
    (m_thr f r td R.length mv (K ++ R).length K.length (nI m) s).2.1 = (K ++ x_kp (t_goF td pf hp (ru r 4) (ru r 5) (ru r 6)) (fun t => decide (fi t = f)) m R).length ∧
    (m_thr f r td R.length mv (K ++ R).length K.length (nI m) s).2.2 = s + (t_th (t_goF td pf hp (ru r 4) (ru r 5) (ru r 6)) m (R.filter (fun t => decide (fi t = f)))).length ∧
    mxP pf (K ++ x_kp (t_goF td pf hp (ru r 4) (ru r 5) (ru r 6)) (fun t => decide (fi t = f)) m R) fi (m_thr f r td R.length mv (K ++ R).length K.length (nI m) s).1 ∧
    mxH lv hf hp (K ++ x_kp (t_goF td pf hp (ru r 4) (ru r 5) (ru r 6)) (fun t => decide (fi t = f)) m R) fi (m_thr f r td R.length mv (K ++ R).length K.length (nI m) s).1 ∧
    (m_thr f r td R.length mv (K ++ R).length K.length (nI m) s).1 13 f = t_sum pf (mv 13 f) (t_th (t_goF td pf hp (ru r 4) (ru r 5) (ru r 6)) m (R.filter (fun t => decide (fi t = f)))) ∧
    ∀ j, j ≠ f → (m_thr f r td R.length mv (K ++ R).length K.length (nI m) s).1 13 j = mv 13 j := by
  intro R
  induction R with
  | nil =>
    intro K mv m s hP hH hR hn hl hlv hfi hm
    exact ⟨rfl, rfl, hP, hH, rfl, fun j _ => rfl⟩
  | cons t R ih =>
    intro K mv m s hP hH hR hn hl hlv hfi hm
    have htf : fi t < 5 := hfi t (by simp)
    have hc := x_cond (m := m) (f := f) (td := td) hP hH hR hr3 hgr hn hl hlv hf5 htf (gl_mid K R t)
    simp only [List.length_cons, m_thr, x_kp]
    rw [hc]
    by_cases hg : (decide (fi t = f) && t_goF td pf hp (ru r 4) (ru r 5) (ru r 6) t m) = true
    · rw [if_pos hg, if_pos hg]
      have hg2 := hg
      rw [Bool.and_eq_true, decide_eq_true_eq] at hg2
      have hnot : t_held hp t = false := by
        have h := hg2.2
        simp only [t_goF, t_go, Bool.and_eq_true, Bool.not_eq_true'] at h
        exact h.1.2
      have hlen2 : (K ++ t :: R).length - 1 = (K ++ R).length := by simp
      rw [hlen2]
      obtain ⟨P2, H2⟩ := x_away (f := f) hP hH hl hnot
      have sub : (K ++ R).Sublist (K ++ t :: R) := (List.Sublist.refl K).append (List.sublist_cons_self t R)
      have hflt : ((t :: R).filter (fun t => decide (fi t = f))) = t :: R.filter (fun t => decide (fi t = f)) := by rw [List.filter_cons, if_pos (by simp [hg2.1])]
      rw [hflt] at hm ⊢
      have hm1 : 1 ≤ m := by simp only [List.length_cons] at hm; omega
      have hleft : nI m + (-1) = nI (m - 1) := by
        obtain ⟨q, rfl⟩ : ∃ q, m = q + 1 := ⟨m - 1, by omega⟩
        rw [pk_m1]
        rfl
      rw [hleft]
      have hR2 : mxR ru (m_away mv K.length f (K ++ R).length 4) := fun r hr => by
        have q : ∀ i, i < 9 → m_away mv K.length f (K ++ R).length 4 i r = mv i r := fun i hi => by
          simp only [m_away]
          rw [if_neg (fun h => absurd h.1 (by omega)), if_neg (fun h => absurd h.1 (by omega)), if_neg (fun h => absurd h.1 (by omega))]
        rw [q 0 (by decide), q 1 (by decide), q 2 (by decide), q 3 (by decide), q 4 (by decide), q 5 (by decide), q 6 (by decide), q 7 (by decide), q 8 (by decide)]
        exact hR r hr
      have h13 : m_away mv K.length f (K ++ R).length 4 13 f = mv 13 f + pf 0 t := by
        simp only [m_away]
        rw [if_pos ⟨trivial, trivial⟩, (hP K.length t (gl_mid K R t)).2.1]
      obtain ⟨i1, i2, i3, i4, i5, i6⟩ := ih K (m_away mv K.length f (K ++ R).length 4) (m - 1) (s + 1) P2 H2 hR2 (hn.sublist sub) (Nat.le_trans sub.length_le hl) (fun g hg5 hmem => hlv g hg5 (sub.subset hmem)) (fun u hu => hfi u (sub.subset hu)) (by simp only [List.length_cons] at hm; omega)
      have e : t_th (t_goF td pf hp (ru r 4) (ru r 5) (ru r 6)) m (t :: R.filter (fun t => decide (fi t = f))) = t :: t_th (t_goF td pf hp (ru r 4) (ru r 5) (ru r 6)) (m - 1) (R.filter (fun t => decide (fi t = f))) := by simp only [t_th, if_pos hg2.2]
      rw [e]
      refine ⟨i1, by rw [i2, List.length_cons]; omega, i3, i4, by rw [i5, h13]; rfl, fun j hj => ?_⟩
      rw [i6 j hj]
      simp only [m_away]
      rw [if_neg (fun h => hj h.2), if_neg (fun h => absurd h.1 (by decide)), if_neg (fun h => absurd h.1 (by decide))]
    · rw [if_neg hg, if_neg hg]
      have e0 : K ++ t :: R = (K ++ [t]) ++ R := by simp
      have e1 : K.length + 1 = (K ++ [t]).length := by simp
      have e2 : ∀ L, K ++ t :: L = (K ++ [t]) ++ L := fun L => by simp
      have e3 : t_th (t_goF td pf hp (ru r 4) (ru r 5) (ru r 6)) m ((t :: R).filter (fun t => decide (fi t = f))) = t_th (t_goF td pf hp (ru r 4) (ru r 5) (ru r 6)) m (R.filter (fun t => decide (fi t = f))) := by
        rw [List.filter_cons]
        by_cases hft : fi t = f
        · rw [if_pos (by simp [hft])]
          have : ¬ t_goF td pf hp (ru r 4) (ru r 5) (ru r 6) t m = true := fun h => hg (by rw [h]; simp [hft])
          simp only [t_th, if_neg this]
        · rw [if_neg (by simp [hft])]
      have hm2 : (R.filter (fun t => decide (fi t = f))).length ≤ m := by
        refine Nat.le_trans ?_ hm
        rw [List.filter_cons]
        split
        · simp
        · exact Nat.le_refl _
      rw [e3, e0, e1, e2 (x_kp (t_goF td pf hp (ru r 4) (ru r 5) (ru r 6)) (fun t => decide (fi t = f)) m R)]
      rw [e0] at hP hH hn hl hlv hfi
      exact ih (K ++ [t]) mv m s hP hH hR hn hl hlv hfi hm2
