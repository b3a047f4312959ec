/-! the turn of a file, on both sides -/
/-- live parts are not squeezed; how many old parts each file has at most, and all -/
def tx (S : ts_T) (row : List Nat) (fi : Nat → Nat) (N : Nat) (cf : Nat → Nat) (P : Nat) : Prop :=
  row.Nodup ∧ row.length ≤ P ∧ (∀ t ∈ row, fi t < 5 ∧ S.2.2.2.2.2.1 t) ∧ (∀ f, f < 5 → S.2.2.2.2.2.1 (S.1 f) ∧ ¬ S.1 f ∈ row) ∧ (∀ f g, f < 5 → g < 5 → S.1 f = S.1 g → f = g) ∧
  (∀ f, f < 5 → S.2.2.2.2.1 f = row.filter (fun t => decide (fi t = f)) ∧ (S.2.2.2.2.1 f).length ≤ cf f) ∧ (∀ f, f < 5 → ∃ c, c ≤ 1000 * N ∧ S.2.2.2.2.2.2 0 (S.1 f) = nI c) ∧ (∀ t, S.2.2.2.2.2.1 t → S.2.2.2.2.2.2 2 t = 0 ∨ S.2.2.2.2.2.2 2 t = 1) ∧ ∀ f, f < 5 → S.2.2.2.2.2.2 2 (S.1 f) = 0
theorem x_due {td : Int32} {ru : Nat → Nat → Int32} {fr : Nat → Nat} {S : ts_T} {mv : Nat → Nat → Int32} {N f a e : Nat} (hF : mxF fr S mv) (hR : mxR ru mv) (hU : ux td ru fr S mv) (hlive : ∃ c, c ≤ 1000 * N ∧ S.2.2.2.2.2.2 0 (S.1 f) = nI c) (hN : N ≤ 1000) (hf5 : f < 5) (ha : S.2.1 f = nI a) (ha5 : a ≤ 5000) (he : e ≤ 5300) :
    m_due mv f (fr f) a e = t_due (S.2.2.2.2.2.2 0 (S.1 f)) (ru (fr f) 1) (ru (fr f) 2) (ru (fr f) 3) (ru (fr f) 4) (S.2.2.1 f) (S.2.1 f) (nI e) := by
  obtain ⟨hr3, -, -⟩ := hU.2.2.1 f hf5
  obtain ⟨g1, g2, g3, -⟩ := hU.2.1 (fr f) hr3
  obtain ⟨-, m10, -, m12, -⟩ := hF f hf5
  obtain ⟨r0, r1, r2, r3, -⟩ := hR (fr f) hr3
  obtain ⟨c, hc, hce⟩ := hlive
  simp only [m_due, t_due, t_soon]
  rw [m10, m12, r0, r1, r2, r3, ha, x_come2 (Or.inl rfl) ha5 he g2, x_come2 (Or.inr rfl) ha5 he g3, hce]
  have e1 : decide (¬ nI c ≤ 0) = decide (¬ nI c = 0) := by rw [decide_eq_decide, x_le0 (nI_pos (by omega))]
  have e2 : decide (¬ ru (fr f) 1 ≤ 0) = decide (¬ ru (fr f) 1 = 0) := by rw [decide_eq_decide, x_le0 g1.1]
  have e3 : decide (¬ nI c < ru (fr f) 1) = decide (ru (fr f) 1 ≤ nI c) := by rw [decide_eq_decide, Int32.not_lt]
  have e4 : (decide (S.2.2.1 f = 0) || decide (¬ nI e - nI a < ru (fr f) 4)) = !decide (¬ S.2.2.1 f = 0 ∧ nI e - nI a < ru (fr f) 4) := by
    by_cases h1 : S.2.2.1 f = 0 <;> by_cases h2 : nI e - nI a < ru (fr f) 4 <;> simp [h1, h2]
  rw [e1, e2, e3, e4]
  rfl
theorem x_turn {td : Int32} {ru : Nat → Nat → Int32} {fr : Nat → Nat} {S : ts_T} {hf hp : Nat → Option Nat} {row : List Nat} {fi : Nat → Nat} {md mq : Int32} {mv : Nat → Nat → Int32} {N P f q : Nat} {cf : Nat → Nat} (hM : mx td ru fr S hf hp row fi md mq mv) (hT : tx S row fi N cf P) (hU : ux td ru fr S mv) (hP9 : P ≤ 4000) (hf5 : f < 5) (hq : ¬ S.2.2.2.2.2.1 q) :
    (m_turn mv f (fr f) row.length md).2.2 = (t_tth td ru fr S.1 hp S.2.2.2.2.1 S.2.2.2.2.2.2 f q).length ∧
    ∃ row2 fi2, mx td ru fr (t_turn td ru fr hp S f q) hf hp row2 fi2 md (nI (m_turn mv f (fr f) row.length md).2.1) (m_turn mv f (fr f) row.length md).1 ∧ (m_turn mv f (fr f) row.length md).2.1 = row2.length ∧
      tx (t_turn td ru fr hp S f q) row2 fi2 N (va_up cf f (cf f + 1)) (P + 1) ∧ ux td ru fr (t_turn td ru fr hp S f q) (m_turn mv f (fr f) row.length md).1 := by
  obtain ⟨hmd, hmq, hR, hF, hPx, hH⟩ := hM
  subst hmd
  obtain ⟨lv, lt, et, tl, ol, PS, pf⟩ := S
  obtain ⟨n1, n2, n3, n4, n5, n6, n7, n8, n9⟩ := hT
  obtain ⟨u1, u2, u3, u4⟩ := hU
  simp only at n1 n2 n3 n4 n5 n6 n7 n8 n9 u3 hF hPx hH hq
  obtain ⟨hr3, hlt, het⟩ := u3 f hf5
  obtain ⟨-, -, -, -, -, hgr, hb7, -, -⟩ := u2 (fr f) hr3
  obtain ⟨n, hn⟩ : ∃ n, n = row.length := ⟨_, rfl⟩
  rw [← hn]
  have hqrow : ¬ q ∈ row := fun h => hq (n3 q h).2
  have hqlv : ∀ g, g < 5 → lv g ≠ q := fun g hg h => hq (h ▸ (n4 g hg).1)
  have memf : ∀ g, g < 5 → ∀ t, t ∈ ol g → t ∈ row := fun g hg t ht => by
    rw [(n6 g hg).1] at ht
    exact (List.mem_filter.mp ht).1
  -- the parts' fields behind the turn
  obtain ⟨PF, hPF⟩ : ∃ z, z = t_tpf md ru fr lv hp ol pf f q := ⟨_, rfl⟩
  have pf0 : ∀ t, t ≠ q → PF 0 t = pf 0 t := fun t ht => by
    rw [hPF, t_tpf]
    split <;> simp [t_sq, ht, rp_u2]
  have pf1 : ∀ t, t ≠ q → t ≠ lv f → PF 1 t = pf 1 t := fun t ht ht2 => by
    rw [hPF, t_tpf]
    split <;> simp [t_sq, ht, ht2, rp_u2]
  have pf1l : PF 1 (lv f) = md := by
    rw [hPF, t_tpf]
    split <;> simp [t_sq, hqlv f hf5, rp_u2]
  have pf2 : ∀ t, t ≠ q → PF 2 t = if ¬ ru (fr f) 7 = 0 ∧ t ∈ ol f ∧ t_held hp t = false then 1 else pf 2 t := fun t ht => by
    rw [hPF, t_tpf]
    by_cases h7 : ru (fr f) 7 = 0
    · simp [h7, ht, rp_u2]
    · simp [h7, ht, rp_u2, t_sq]
  have pfq : ∀ i, i < 2 → PF i q = 0 := fun i hi => by
    rw [hPF, t_tpf]
    split
    · simp
    · simp [t_sq, show i ≠ 2 by omega]
  have pfq2 : PF 2 q = 0 := by
    rw [hPF, t_tpf]
    split
    · simp
    · have : ¬ q ∈ ol f := fun h => hqrow (memf f hf5 q h)
      simp [t_sq, this]
  -- the row with the new old part
  have nlv : ∀ g, g < 5 → ¬ lv g ∈ row := fun g hg => (n4 g hg).2
  obtain ⟨row1, hrow1⟩ : ∃ z, z = row ++ [lv f] := ⟨_, rfl⟩
  obtain ⟨fi1, hfi1⟩ : ∃ z, z = va_up fi (lv f) f := ⟨_, rfl⟩
  have fi1r : ∀ t ∈ row, fi1 t = fi t := fun t ht => by rw [hfi1]; exact va_up_ne _ _ (fun h => nlv f hf5 (h ▸ ht))
  have fi1l : fi1 (lv f) = f := by rw [hfi1]; exact va_up_self _ _ _
  have hlen1 : row1.length = n + 1 := by rw [hrow1, hn]; simp
  have nd1 : row1.Nodup := by
    rw [hrow1, List.nodup_append]
    refine ⟨n1, by simp, fun a ha b hb => ?_⟩
    rw [List.mem_singleton.mp hb]
    exact fun h => nlv f hf5 (h ▸ ha)
  have get1 : ∀ k t, k < n → (row1[k]? = some t ↔ row[k]? = some t) := fun k t hk => by rw [hrow1, List.getElem?_append_left (by omega)]
  have getn : row1[n]? = some (lv f) := by rw [hrow1, hn, List.getElem?_append_right (Nat.le_refl _), Nat.sub_self]; rfl
  have flt : ∀ g, g < 5 → g ≠ f → row1.filter (fun t => decide (fi1 t = g)) = row.filter (fun t => decide (fi t = g)) := fun g hg hgf => by
    rw [hrow1, List.filter_append, List.filter_congr (q := fun t => decide (fi t = g)) (fun t ht => by rw [fi1r t ht])]
    simp [fi1l, Ne.symm hgf]
  have fltf : row1.filter (fun t => decide (fi1 t = f)) = ol f ++ [lv f] := by
    rw [hrow1, List.filter_append, List.filter_congr (q := fun t => decide (fi t = f)) (fun t ht => by rw [fi1r t ht]), (n6 f hf5).1]
    simp [fi1l]
  have memol : ∀ t, t ∈ row → (t ∈ ol f ↔ fi t = f) := fun t ht => by
    rw [(n6 f hf5).1, List.mem_filter]
    simp [ht]
  -- the reference's rows ahead of squeezing
  obtain ⟨X, hX⟩ : ∃ z, z = m_b2 (m_hd (m_b1 mv f n md) f n 4) f md := ⟨_, rfl⟩
  have x14 : ∀ i j, i = 14 ∨ i = 15 ∨ i = 16 ∨ i = 17 → X i j = m_b1 mv f n md i j := fun i j hi => by
    rw [hX, m_b2, rp_u2n _ _ (by omega), rp_u2n _ _ (by omega), rp_u2n _ _ (by omega)]
    exact if_neg (fun h => absurd h.1 (by omega))
  have b1k : ∀ i j, i = 14 ∨ i = 15 ∨ i = 16 ∨ i = 17 → j ≠ n → m_b1 mv f n md i j = mv i j := fun i j _ hj => by
    rw [m_b1, rp_u2n _ _ (by omega), rp_u2n _ _ (by omega), rp_u2n _ _ (by omega), rp_u2n _ _ (by omega)]
  have xo : ∀ i j, i < 10 ∨ i = 18 ∨ (i = 13) → X i j = mv i j := fun i j hi => by
    rw [hX, m_b2, rp_u2n _ _ (by omega), rp_u2n _ _ (by omega), rp_u2n _ _ (by omega)]
    show (if _ then _ else _) = _
    rw [if_neg (fun h => absurd h.1 (by omega)), m_b1, rp_u2n _ _ (by omega), rp_u2n _ _ (by omega), rp_u2n _ _ (by omega), rp_u2n _ _ (by omega)]
  have x19 : ∀ j, j < 4 → X 19 j = if mv 18 j = nI f ∧ mv 19 j = -1 then nI n else mv 19 j := fun j hj => by
    rw [hX, m_b2, rp_u2n _ _ (by omega), rp_u2n _ _ (by omega), rp_u2n _ _ (by omega)]
    have e : ∀ i, i = 18 ∨ i = 19 → m_b1 mv f n md i j = mv i j := fun i hi => by
      rw [m_b1, rp_u2n _ _ (by omega), rp_u2n _ _ (by omega), rp_u2n _ _ (by omega), rp_u2n _ _ (by omega)]
    show (if 19 = 19 ∧ j < 4 ∧ m_b1 mv f n md 18 j = nI f ∧ m_b1 mv f n md 19 j = -1 then nI n else m_b1 mv f n md 19 j) = _
    rw [e 18 (by omega), e 19 (by omega)]
    by_cases h : mv 18 j = nI f ∧ mv 19 j = -1
    · rw [if_pos ⟨rfl, hj, h⟩, if_pos h]
    · rw [if_neg (fun z => h z.2.2), if_neg h]
  have HX : mxH (va_up lv f q) hf hp row1 fi1 X := by
    intro h hh
    rw [xo 18 h (by omega), x19 h hh]
    rcases hH h hh with ⟨a, b, c, d⟩ | ⟨g, g5, a, b, ⟨c, d⟩ | ⟨k, t, e1, e2, e3, e4⟩⟩
    · exact Or.inl ⟨a, b, c, by rw [if_neg (fun z => by rw [c] at z; exact m_nIn (by omega) z.1.symm), d]⟩
    · by_cases hgf : g = f
      · subst hgf
        exact Or.inr ⟨g, g5, a, b, Or.inr ⟨n, lv g, getn, fi1l, c, by rw [if_pos ⟨b, d⟩]⟩⟩
      · refine Or.inr ⟨g, g5, a, b, Or.inl ⟨by rw [va_up_ne _ _ hgf]; exact c, ?_⟩⟩
        rw [if_neg (fun z => hgf ((nI_eq (by omega) (by omega)).mp (b.symm.trans z.1))), d]
    · have hkl := (List.getElem?_eq_some_iff.mp e1).1
      refine Or.inr ⟨g, g5, a, b, Or.inr ⟨k, t, (get1 k t (by omega)).mpr e1, by rw [fi1r t (List.mem_of_getElem? e1)]; exact e2, e3, ?_⟩⟩
      rw [if_neg (fun z => m_nIn (by omega) (e4.symm.trans z.2)), e4]
  -- behind squeezing
  obtain ⟨V, hV⟩ : ∃ z, z = m_tb mv f (fr f) n md := ⟨_, rfl⟩
  have hVX : V = m_sqz X f (fr f) n := by rw [hV, hX]; rfl
  have vo : ∀ i j, i ≠ 17 → V i j = X i j := fun i j hi => by
    rw [hVX]
    exact if_neg (fun h => hi h.1)
  have HV : mxH (va_up lv f q) hf hp row1 fi1 V := fun h hh => by
    rw [vo 18 h (by decide), vo 19 h (by decide)]
    exact HX h hh
  have nlv1 : ∀ g, g < 5 → ¬ va_up lv f q g ∈ row1 := fun g hg h => by
    rw [hrow1] at h
    by_cases hgf : g = f
    · rw [hgf, va_up_self] at h
      rcases List.mem_append.mp h with h | h
      · exact hqrow h
      · exact hqlv f hf5 (List.mem_singleton.mp h).symm
    · rw [va_up_ne _ _ hgf] at h
      rcases List.mem_append.mp h with h | h
      · exact nlv g hg h
      · exact hgf (n5 g f hg hf5 (List.mem_singleton.mp h))
  have PV : mxP PF row1 fi1 V := by
    intro k t hk
    have hkl := (List.getElem?_eq_some_iff.mp hk).1
    rw [hlen1] at hkl
    rw [vo 14 k (by decide), vo 15 k (by decide), vo 16 k (by decide)]
    by_cases hkn : k = n
    · subst hkn
      rw [getn] at hk
      obtain rfl : lv f = t := Option.some.inj hk
      rw [x14 14 k (by omega), x14 15 k (by omega), x14 16 k (by omega), fi1l, pf0 _ (hqlv f hf5), pf1l, pf2 _ (hqlv f hf5), if_neg (fun h => nlv f hf5 (memf f hf5 _ h.2.1)), n9 f hf5, hVX]
      refine ⟨?_, ?_, ?_, ?_⟩
      · simp [m_b1, rp_u2]
      · simp [m_b1, rp_u2, (hF f hf5).2.1]
      · simp [m_b1, rp_u2]
      · show (if _ then _ else X 17 k) = _
        rw [if_neg (fun h => absurd h.2 (Nat.lt_irrefl _)), x14 17 k (by omega)]
        simp [m_b1, rp_u2]
    · have hk2 := (get1 k t (by omega)).mp hk
      have htr := List.mem_of_getElem? hk2
      have htq : t ≠ q := fun h => hqrow (h ▸ htr)
      have htl : t ≠ lv f := fun h => nlv f hf5 (h ▸ htr)
      obtain ⟨a1, a2, a3, a4⟩ := hPx k t hk2
      rw [x14 14 k (by omega), x14 15 k (by omega), x14 16 k (by omega), b1k 14 k (by omega) hkn, b1k 15 k (by omega) hkn, b1k 16 k (by omega) hkn, fi1r t htr, pf0 t htq, pf1 t htq htl, pf2 t htq]
      refine ⟨a1, a2, a3, ?_⟩
      rw [hVX]
      show (if 17 = 17 ∧ k < n then (if ¬ X 17 k = 0 ∨ (¬ X 6 (fr f) = 0 ∧ X 14 k = nI f ∧ m_held X (nI k) = false) then (1 : Int32) else 0) else X 17 k) = _
      rw [if_pos ⟨rfl, by omega⟩, x14 17 k (by omega), x14 14 k (by omega), b1k 17 k (by omega) hkn, b1k 14 k (by omega) hkn, a4, a1, xo 6 (fr f) (by omega), (hR (fr f) hr3).2.2.2.2.2.2.1, x_held HX nd1 (by omega) nlv1 hk]
      have e1 : (nI (fi t) = nI f) = (t ∈ ol f) := propext (by rw [memol t htr, nI_eq (by have := (n3 t htr).1; omega) (by omega)])
      simp only [e1]
      rcases n8 t (n3 t htr).2 with h0 | h0
      · rw [h0]; simp
      · rw [h0]; simp
  have RV : mxR ru V := fun r hr => by
    have e : ∀ i, i < 9 → V i r = mv i r := fun i hi => by rw [vo i r (by omega), xo i r (by omega)]
    rw [e 0 (by decide), e 1 (by decide), e 2 (by decide), e 3 (by decide), e 4 (by decide), e 5 (by decide), e 6 (by decide), e 7 (by decide), e 8 (by decide)]
    exact hR r hr
  have fi5 : ∀ t ∈ row1, fi1 t < 5 := fun t ht => by
    rw [hrow1] at ht
    rcases List.mem_append.mp ht with h | h
    · rw [fi1r t h]; exact (n3 t h).1
    · rw [List.mem_singleton.mp h, fi1l]; exact hf5
  have hcnt : m_cnt V (nI f) (n + 1) = (ol f ++ [lv f]).length := by
    rw [x_cnt (fun k t hk => (PV k t hk).1) fi5 hf5 (n + 1) (by omega), ← hlen1, List.take_length, fltf]
  obtain ⟨i1, i2, i3, i4, i5, i6⟩ := x_thr (td := md) (ru := ru) (pf := PF) (r := fr f) hr3 hgr.1 hf5 row1 [] V (ol f ++ [lv f]).length 0 PV HV RV nd1 (by simp only [List.nil_append]; omega) nlv1 fi5 (by rw [fltf]; exact Nat.le_refl _)
  have hturn : m_turn mv f (fr f) n md = m_thr f (fr f) md row1.length V row1.length 0 (nI (ol f ++ [lv f]).length) 0 := by
    rw [m_turn, ← hV, hcnt, hlen1]
  simp only [List.nil_append, List.length_nil, Nat.zero_add] at i1 i2 i3 i4 i5 i6
  rw [← hturn] at i1 i2 i3 i4 i5 i6
  rw [fltf] at i2 i5
  obtain ⟨GO, hGO⟩ : ∃ z, z = t_goF md PF hp (ru (fr f) 4) (ru (fr f) 5) (ru (fr f) 6) := ⟨_, rfl⟩
  rw [← hGO] at i1 i2 i3 i4 i5
  have hGO2 : t_tgo md ru fr lv hp ol pf f q = GO := by rw [t_tgo, ← hPF, hGO]
  have hth : t_tth md ru fr lv hp ol pf f q = t_th GO (ol f ++ [lv f]).length (ol f ++ [lv f]) := by rw [t_tth, hGO2]
  have hkp : t_tkp md ru fr lv hp ol pf f q = t_kp GO (ol f ++ [lv f]).length (ol f ++ [lv f]) := by rw [t_tkp, hGO2]
  obtain ⟨row2, hrow2⟩ : ∃ z, z = x_kp GO (fun t => decide (fi1 t = f)) (ol f ++ [lv f]).length row1 := ⟨_, rfl⟩
  rw [← hrow2] at i1 i3 i4
  have sub2 : row2.Sublist row1 := by rw [hrow2]; exact x_kp_sub _ _ _ _
  have mem2 : ∀ t ∈ row2, t ∈ row ∨ t = lv f := fun t ht => by
    have := sub2.subset ht
    rw [hrow1] at this
    rcases List.mem_append.mp this with h | h
    · exact Or.inl h
    · exact Or.inr (List.mem_singleton.mp h)
  have m13 : V 13 f = tl f := by rw [vo 13 f (by decide), xo 13 f (by omega)]; exact (hF f hf5).2.2.2.2
  have vrow : ∀ i j, i < 13 → (m_turn mv f (fr f) n md).1 i j = V i j := fun i j hi => by rw [hturn]; exact m_thr_row (by omega) _ _ _ _ _ _
  refine ⟨by rw [i2, hth], row2, fi1, ⟨rfl, by rw [i1], fun r hr => ?_, fun g hg => ?_, ?_, ?_⟩, i1, ⟨nd1.sublist sub2, ?_, fun t ht => ⟨fi5 t (sub2.subset ht), ?_⟩, fun g hg => ⟨?_, fun h => nlv1 g hg (sub2.subset h)⟩, fun a b ha hb hab => ?_, fun g hg => ?_, fun g hg => ?_, fun t ht => ?_, fun g hg => ?_⟩, ⟨u1, u2, fun g hg => ⟨(u3 g hg).1, ?_, ?_⟩, ?_⟩⟩
  · have e : ∀ i, i < 9 → (m_turn mv f (fr f) n md).1 i r = V i r := fun i hi => vrow i r (by omega)
    rw [e 0 (by decide), e 1 (by decide), e 2 (by decide), e 3 (by decide), e 4 (by decide), e 5 (by decide), e 6 (by decide), e 7 (by decide), e 8 (by decide)]
    exact RV r hr
  · obtain ⟨f1, f2, f3, f4, f5⟩ : mv 9 g = nI (fr g) ∧ mv 10 g = pf 0 (lv g) ∧ mv 11 g = lt g ∧ mv 12 g = et g ∧ mv 13 g = tl g := hF g hg
    show _ ∧ _ = t_tpf md ru fr lv hp ol pf f q 0 (va_up lv f q g) ∧ _ = va_up lt f md g ∧ _ = va_up et f 1 g ∧ _ = va_up tl f (t_sum (t_tpf md ru fr lv hp ol pf f q) (tl f) (t_tth md ru fr lv hp ol pf f q)) g
    rw [← hPF, vrow 9 g (by decide), vrow 10 g (by decide), vrow 11 g (by decide), vrow 12 g (by decide), vo 9 g (by decide), vo 10 g (by decide), vo 11 g (by decide), vo 12 g (by decide), xo 9 g (by omega), hX]
    refine ⟨f1, ?_⟩
    by_cases hgf : g = f
    · subst hgf
      rw [va_up_self, va_up_self, va_up_self, va_up_self, i5, m13, hth, pfq 0 (by decide)]
      refine ⟨?_, ?_, ?_, rfl⟩ <;> simp [m_b2, rp_u2]
    · rw [va_up_ne _ _ hgf, va_up_ne _ _ hgf, va_up_ne _ _ hgf, va_up_ne _ _ hgf, i6 g hgf, vo 13 g (by decide), xo 13 g (by omega), pf0 _ (hqlv g hg), ← f2, ← f3, ← f4, ← f5]
      refine ⟨?_, ?_, ?_, rfl⟩ <;> simp [m_b2, rp_u2, hgf, m_hd, m_b1]
  · show mxP (t_tpf md ru fr lv hp ol pf f q) row2 fi1 _
    rw [← hPF]
    exact i3
  · exact i4
  · have := sub2.length_le
    omega
  · show PS t ∨ t = q
    rcases mem2 t ht with h | h
    · exact Or.inl (n3 t h).2
    · rw [h]; exact Or.inl (n4 f hf5).1
  · show PS (va_up lv f q g) ∨ va_up lv f q g = q
    by_cases hgf : g = f
    · rw [hgf, va_up_self]; exact Or.inr rfl
    · rw [va_up_ne _ _ hgf]; exact Or.inl (n4 g hg).1
  · have hab : va_up lv f q a = va_up lv f q b := hab
    by_cases haf : a = f
    · by_cases hbf : b = f
      · rw [haf, hbf]
      · rw [haf, va_up_self, va_up_ne _ _ hbf] at hab
        exact absurd hab.symm (hqlv b hb)
    · by_cases hbf : b = f
      · rw [hbf, va_up_self, va_up_ne _ _ haf] at hab
        exact absurd hab (hqlv a ha)
      · rw [va_up_ne _ _ haf, va_up_ne _ _ hbf] at hab
        exact n5 a b ha hb hab
  · show va_up ol f (t_tkp md ru fr lv hp ol pf f q) g = _ ∧ (va_up ol f (t_tkp md ru fr lv hp ol pf f q) g).length ≤ va_up cf f (cf f + 1) g
    by_cases hgf : g = f
    · subst hgf
      rw [va_up_self, va_up_self, hkp, hrow2, x_kp_f, fltf]
      refine ⟨rfl, ?_⟩
      have : ∀ (go : Nat → Nat → Bool) (l : List Nat) (m : Nat), (t_kp go m l).length ≤ l.length := by
        intro go l
        induction l with
        | nil => intro m; exact Nat.le_refl _
        | cons t r ih =>
          intro m
          simp only [t_kp]
          split
          · exact Nat.le_trans (ih _) (Nat.le_succ _)
          · exact Nat.succ_le_succ (ih _)
      have h9 := this GO (ol g ++ [lv g]) (ol g ++ [lv g]).length
      have h8 := (n6 g hg).2
      simp only [List.length_append, List.length_cons, List.length_nil] at h9 ⊢
      omega
    · rw [va_up_ne _ _ hgf, va_up_ne _ _ hgf, hrow2, x_kp_g GO (fun t => decide (fi1 t = f)) (fun t => decide (fi1 t = g)) (fun t ht => by
        have := of_decide_eq_true ht
        exact decide_eq_false (fun h => hgf (h.symm.trans this))), flt g hg hgf]
      exact n6 g hg
  · show ∃ c, c ≤ 1000 * N ∧ t_tpf md ru fr lv hp ol pf f q 0 (va_up lv f q g) = nI c
    rw [← hPF]
    by_cases hgf : g = f
    · rw [hgf, va_up_self, pfq 0 (by decide)]
      exact ⟨0, Nat.zero_le _, rfl⟩
    · rw [va_up_ne _ _ hgf, pf0 _ (hqlv g hg)]
      exact n7 g hg
  · show t_tpf md ru fr lv hp ol pf f q 2 t = 0 ∨ t_tpf md ru fr lv hp ol pf f q 2 t = 1
    rw [← hPF]
    by_cases htq : t = q
    · rw [htq, pfq2]; exact Or.inl rfl
    · rw [pf2 t htq]
      split
      · exact Or.inr rfl
      · exact n8 t (Or.resolve_right ht htq)
  · show t_tpf md ru fr lv hp ol pf f q 2 (va_up lv f q g) = 0
    rw [← hPF]
    by_cases hgf : g = f
    · rw [hgf, va_up_self, pfq2]
    · rw [va_up_ne _ _ hgf, pf2 _ (hqlv g hg), if_neg (fun h => nlv g hg (memf f hf5 _ h.2.1))]
      exact n9 g hg
  · show ∃ a, a ≤ 5000 ∧ va_up lt f md g = nI a
    by_cases hgf : g = f
    · rw [hgf, va_up_self]; exact u1
    · rw [va_up_ne _ _ hgf]; exact (u3 g hg).2.1
  · show va_up et f 1 g = 0 ∨ va_up et f 1 g = 1
    by_cases hgf : g = f
    · rw [hgf, va_up_self]; exact Or.inr rfl
    · rw [va_up_ne _ _ hgf]; exact (u3 g hg).2.2
  · exact m_turn_bit (by omega) u4
