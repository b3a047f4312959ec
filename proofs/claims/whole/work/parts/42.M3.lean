/-! the reference: writing, names, what is held, throwing away -/
/-- how many of the first n are x's and of the day of p -/
def m_old (mv : Nat → Nat → Int32) (x : Int32) (p n : Nat) : Nat := ((List.range n).filter (fun k => decide (mv 14 k = x) && decide (mv 16 k = mv 16 p))).length
theorem m_old_y {mv : Nat → Nat → Int32} {x : Int32} {p n : Nat} (h : mv 14 n = x) (h2 : mv 16 n = mv 16 p) : m_old mv x p (n + 1) = m_old mv x p n + 1 := by
  simp [m_old, List.range_succ, List.filter_append, h, h2]
theorem m_old_n {mv : Nat → Nat → Int32} {x : Int32} {p n : Nat} (h : ¬ mv 14 n = x) : m_old mv x p (n + 1) = m_old mv x p n := by
  simp [m_old, List.range_succ, List.filter_append, h]
theorem m_old_o {mv : Nat → Nat → Int32} {x : Int32} {p n : Nat} (h : ¬ mv 16 n = mv 16 p) : m_old mv x p (n + 1) = m_old mv x p n := by
  simp [m_old, List.range_succ, List.filter_append, h]
/-- taking the place k, of the file g, out of n: what is thrown away is added, the rows are moved up to c, the first w holders -/
def m_away (mv : Nat → Nat → Int32) (k g c w : Nat) : Nat → Nat → Int32 := fun i j => if i = 13 ∧ j = g then mv 13 g + mv 15 k else if (i = 14 ∨ i = 15 ∨ i = 16 ∨ i = 17) ∧ k ≤ j ∧ j < c then mv i (j + 1) else if i = 19 ∧ j < w then mv 19 j - (if nI k < mv 19 j then 1 else 0) else mv i j
theorem m_away_0 (mv : Nat → Nat → Int32) (k g : Nat) : m_away mv k g k 0 = rp_u2 mv 13 g (mv 13 g + mv 15 k) := by
  funext i j
  simp only [m_away, rp_u2]
  by_cases h1 : i = 13 ∧ j = g
  · rw [if_pos h1, if_pos h1]
  · rw [if_neg h1, if_neg h1, if_neg (fun h => by omega), if_neg (fun h => by omega)]
theorem m_away_s (mv : Nat → Nat → Int32) (k g c : Nat) (hk : k ≤ c) : rp_u2 (rp_u2 (rp_u2 (rp_u2 (m_away mv k g c 0) 14 c (mv 14 (c + 1))) 15 c (mv 15 (c + 1))) 16 c (mv 16 (c + 1))) 17 c (mv 17 (c + 1)) = m_away mv k g (c + 1) 0 := by
  funext i j
  simp only [m_away, rp_u2]
  by_cases hj : j = c
  · subst hj
    by_cases h4 : i = 14
    · subst h4; simp [hk]
    by_cases h5 : i = 15
    · subst h5; simp [hk]
    by_cases h6 : i = 16
    · subst h6; simp [hk]
    by_cases h7 : i = 17
    · subst h7; simp [hk]
    simp [h4, h5, h6, h7]
  · have e : (k ≤ j ∧ j < c + 1) = (k ≤ j ∧ j < c) := propext (by omega)
    simp only [hj, and_false, if_false, e]
theorem m_away_h (mv : Nat → Nat → Int32) (k g c w : Nat) (x : Int32) (hx : x = mv 19 w - (if nI k < mv 19 w then 1 else 0)) : rp_u2 (m_away mv k g c w) 19 w x = m_away mv k g c (w + 1) := by
  funext i j
  subst hx
  simp only [m_away, rp_u2]
  by_cases hj : j = w
  · subst hj
    by_cases h9 : i = 19
    · subst h9; simp
    · simp [h9]
  · have e : (j < w + 1) = (j < w) := propext (by omega)
    simp only [hj, and_false, if_false, e]
set_option maxHeartbeats 4000000 in
set_option maxRecDepth 100000 in
theorem c_X5_write (l : Launch) {y : ly_T} {A : Nat → Prop} {G : gk_G} {td : Int32} {ru : Nat → Nat → Int32} {fr lv : Nat → Nat} {lt et tl : Nat → Int32} {hf hp : Nat → Option Nat} {ol : Nat → List Nat} {PS : Nat → Prop} {pf : Nat → Nat → Int32} {ov : Int64} {md mq mt : Int32} {mv : Nat → Nat → Int32} {i n : Int32}  (hR : rp y G td ru fr lv lt et tl hf hp ol PS pf ov md mq mt mv) (h18 : ∀ h, h < 4 → mv 18 h = -1 ∨ ∃ f, f < 5 ∧ mv 18 h = nI f) (h19 : ∀ h, h < 4 → mv 19 h = -1 ∨ ∃ q, q < 4096 ∧ mv 19 h = nI q) : gk_M0 l yX5_write (Cond.code yX5_write cX5_write 5 (some .int)) 3 90 0 0 y A [.ref (ly_a y 5), .int i, .int n] G (fun v G1 => (∃ h, h < 4 ∧ i = nI h ∧ rg_in n 1 1000 ∧ ¬ mv 18 h = -1 ∧ ((mv 19 h = -1 ∧ ∃ f, f < 5 ∧ mv 18 h = nI f ∧ v = some (.int (mv 10 f + n)) ∧ rp y G1 td ru fr lv lt et tl hf hp ol PS pf ov md mq 0 (rp_u2 mv 10 f (mv 10 f + n))) ∨ (∃ q, q < 4096 ∧ mv 19 h = nI q ∧ v = some (.int (mv 15 q + n)) ∧ rp y G1 td ru fr lv lt et tl hf hp ol PS pf ov md mq 0 (rp_u2 mv 15 q (mv 15 q + n))))) ∨ (rg_out i 4 ∧ (∃ x, v = some (.int x)) ∧ rp y G1 td ru fr lv lt et tl hf hp ol PS pf ov md mq 1 mv) ∨ (¬ rg_out i 4 ∧ ¬ rg_in n 1 1000 ∧ (∃ x, v = some (.int x)) ∧ rp y G1 td ru fr lv lt et tl hf hp ol PS pf ov md mq 2 mv) ∨ (rg_in n 1 1000 ∧ ∃ h, h < 4 ∧ i = nI h ∧ mv 18 h = -1 ∧ (∃ x, v = some (.int x)) ∧ rp y G1 td ru fr lv lt et tl hf hp ol PS pf ov md mq 3 mv)) := by
  refine gk_of0 (cc := cX5_write) (maxL := 5) (ret := (some .int)) (own := RX5) (by decide +kernel) rfl rfl (Nat.le_of_ble_eq_true rfl) ?_
  intro p e s m below meth c ls hK hret hlk _ hP hS hl
  have hl : lv_has ls 5 [(0, .ref (ly_a y 5)), (1, .int i), (2, .int n)] := hl
  refine lv_iload_n hK.1.1 hK.1.2.1 dX5_write_0 rfl (lv_at hl 1 rfl) ?_
  refine gk_callS0 (n := 1) (As := [.int i]) (rest := []) hK (c_X5_isHolder l hR (i := i)) (gk_gS q_9_0 q_9_1 q_1_5 q_9_2) ⟨by decide +kernel, by decide +kernel, by decide +kernel⟩ ⟨(Nat.le_of_ble_eq_true rfl), (Nat.le_of_ble_eq_true rfl)⟩ hP hS rfl hl.1 rfl (Nat.le_of_ble_eq_true rfl) dX5_write_1 ⟨(Nat.le_of_ble_eq_true rfl), (Nat.le_of_ble_eq_true rfl)⟩ (fun v G1 H locs hw hP hS => ?_)
  obtain ⟨hw, hG9⟩ := hw
  rw [hG9] at hP
  rcases hw with ⟨h_1, hh_1, rfl, rfl⟩ | ⟨ho_2, rfl⟩
  · refine W.eq (g2 := F0 m 4 ls [.int 1]) rfl ?_
    refine lv_istore_n (lv' := [(3, .int 1), (0, .ref (ly_a y 5)), (1, .int (nI h_1)), (2, .int n)]) hK.1.1 hK.1.2.1 dX5_write_4 rfl hl (by decide) rfl (fun ls hl => ?_)
    refine lv_aload_n hK.1.1 hK.1.2.1 dX5_write_5 rfl (lv_at hl 1 rfl) ?_
    refine lv_iload_n hK.1.1 hK.1.2.1 dX5_write_6 rfl (lv_at hl 0 rfl) ?_
    refine lv_iload_n hK.1.1 hK.1.2.1 dX5_write_7 rfl (lv_at hl 3 rfl) ?_
    refine lv_iconst (v := 1) hK.1.1 hK.1.2.1 dX5_write_8 (by decide) ?_
    refine lv_sipush (v := 1000) hK.1.1 hK.1.2.1 dX5_write_9 (by decide) ?_
    refine gk_callS0 (n := 3) (As := [.int n, .int 1, .int 1000]) (rest := [.int 1, .ref (ly_a y 5)]) hK (c_X5_in l hR (x9 := n) (a9 := 1) (b9 := 1000)) (gk_gS q_6_3 q_6_4 q_1_5 q_6_5) ⟨by decide +kernel, by decide +kernel, by decide +kernel⟩ ⟨(Nat.le_of_ble_eq_true rfl), (Nat.le_of_ble_eq_true rfl)⟩ hP hS rfl hl.1 rfl (Nat.le_of_ble_eq_true rfl) dX5_write_12 ⟨(Nat.le_of_ble_eq_true rfl), (Nat.le_of_ble_eq_true rfl)⟩ (fun v G1 H locs hw hP hS => ?_)
    obtain ⟨rfl, hG9⟩ := hw
    rw [hG9] at hP
    by_cases g_3 : rg_in n 1 1000
    · rw [m_in_t g_3]
      refine W.eq (g2 := F0 m 15 ls [.int 1, .int 1, .ref (ly_a y 5)]) rfl ?_
      refine lv_iload_n hK.1.1 hK.1.2.1 dX5_write_15 rfl (lv_at hl 0 rfl) ?_
      refine lv_if_eq (tgt := 33) hK.1.1 hK.1.2.1 dX5_write_16 (by decide) (fun c => absurd c (by decide)) (fun _ => ?_)
      refine lv_aload_n hK.1.1 hK.1.2.1 dX5_write_19 rfl (lv_at hl 1 rfl) ?_
      refine mr_65 hK hP hR dX5_write_20 ?_
      refine lv_iload_n hK.1.1 hK.1.2.1 dX5_write_23 rfl (lv_at hl 2 rfl) ?_
      refine mr_ild hK hP hR 18 (by decide) rfl (j := h_1) hh_1 dX5_write_24 ?_
      refine lv_iconst (v := (-1)) hK.1.1 hK.1.2.1 dX5_write_25 (by decide) ?_
      refine lv_icmp_eq (tgt := 33) hK.1.1 hK.1.2.1 dX5_write_26 (by decide) (fun c26_4 => ?_) (fun c26_4 => ?_)
      · refine lv_iconst (v := 0) hK.1.1 hK.1.2.1 dX5_write_33 (by decide) ?_
        refine gk_callV0 (n := 3) (As := [.int 1, .int 1, .int 0]) (rest := []) hK (c_X5_goes l hR (a9 := 1) (b9 := 1) (c9 := 0) (m9 := 3) (x9 := 0) (by decide) (by decide)) (gk_gV q_6_9 q_6_10 q_6_11 q_1_5 q_6_12) ⟨rfl, by decide +kernel, by decide +kernel, by decide +kernel⟩ ⟨(Nat.le_of_ble_eq_true rfl), (Nat.le_of_ble_eq_true rfl)⟩ hP hS (gk_recv hK.2.2.1.1 hP hR.2.2.2.2.2.2.2.2.1 rfl) rfl hl.1 rfl (Nat.le_of_ble_eq_true rfl) dX5_write_34 ⟨(Nat.le_of_ble_eq_true rfl), (Nat.le_of_ble_eq_true rfl)⟩ (fun v G1 H locs hw hP hS => ?_)
        obtain ⟨rfl, hR⟩ := hw
        refine W.eq (g2 := F0 m 37 ls [.int 0]) rfl ?_
        refine lv_if_ne (tgt := 42) hK.1.1 hK.1.2.1 dX5_write_37 (by decide) (fun c => absurd c (by decide)) (fun _ => ?_)
        refine lv_iconst (v := 0) hK.1.1 hK.1.2.1 dX5_write_40 (by decide) ?_
        exact gk_iret0 hK.1 hret hlk hP hS (Nat.le_of_ble_eq_true rfl) (Nat.le_of_ble_eq_true rfl) dX5_write_41 (Or.inr (Or.inr (Or.inr (⟨g_3, h_1, hh_1, rfl, c26_4, ⟨_, rfl⟩, hR⟩))))
      · refine lv_iconst (v := 1) hK.1.1 hK.1.2.1 dX5_write_29 (by decide) ?_
        refine lv_goto (tgt := 34) hK.1.1 hK.1.2.1 dX5_write_30 (by decide) ?_
        refine gk_callV0 (n := 3) (As := [.int 1, .int 1, .int 1]) (rest := []) hK (c_X5_goes l hR (a9 := 1) (b9 := 1) (c9 := 1) (m9 := 0) (x9 := 1) (by decide) (by decide)) (gk_gV q_6_9 q_6_10 q_6_11 q_1_5 q_6_12) ⟨rfl, by decide +kernel, by decide +kernel, by decide +kernel⟩ ⟨(Nat.le_of_ble_eq_true rfl), (Nat.le_of_ble_eq_true rfl)⟩ hP hS (gk_recv hK.2.2.1.1 hP hR.2.2.2.2.2.2.2.2.1 rfl) rfl hl.1 rfl (Nat.le_of_ble_eq_true rfl) dX5_write_34 ⟨(Nat.le_of_ble_eq_true rfl), (Nat.le_of_ble_eq_true rfl)⟩ (fun v G1 H locs hw hP hS => ?_)
        obtain ⟨rfl, hR⟩ := hw
        refine W.eq (g2 := F0 m 37 ls [.int 1]) rfl ?_
        refine lv_if_ne (tgt := 42) hK.1.1 hK.1.2.1 dX5_write_37 (by decide) (fun _ => ?_) (fun c => absurd c (by decide))
        refine lv_aload_n hK.1.1 hK.1.2.1 dX5_write_42 rfl (lv_at hl 1 rfl) ?_
        refine mr_68 hK hP hR dX5_write_43 ?_
        refine lv_iload_n hK.1.1 hK.1.2.1 dX5_write_46 rfl (lv_at hl 2 rfl) ?_
        refine mr_ild hK hP hR 19 (by decide) rfl (j := h_1) hh_1 dX5_write_47 ?_
        refine lv_istore (lv' := [(4, .int (mv 19 h_1)), (3, .int 1), (0, .ref (ly_a y 5)), (1, .int (nI h_1)), (2, .int n)]) hK.1.1 hK.1.2.1 dX5_write_48 hl (by decide) rfl (fun ls hl => ?_)
        refine lv_iload hK.1.1 hK.1.2.1 dX5_write_50 (lv_at hl 0 rfl) ?_
        refine lv_iconst (v := (-1)) hK.1.1 hK.1.2.1 dX5_write_52 (by decide) ?_
        refine lv_icmp_ne (tgt := 83) hK.1.1 hK.1.2.1 dX5_write_53 (by decide) (fun c53_5 => ?_) (fun c53_5 => ?_)
        · obtain ⟨q, hq5, hq9⟩ := (h19 h_1 hh_1).resolve_left c53_5
          rw [hq9] at hl
          refine lv_aload_n hK.1.1 hK.1.2.1 dX5_write_83 rfl (lv_at hl 2 rfl) ?_
          refine mr_56 hK hP hR dX5_write_84 ?_
          refine lv_iload hK.1.1 hK.1.2.1 dX5_write_87 (lv_at hl 0 rfl) ?_
          refine lv_dup2_11 hK.1.1 hK.1.2.1 dX5_write_89 rfl rfl ?_
          refine mr_ild hK hP hR 15 (by decide) rfl (j := q) hq5 dX5_write_90 ?_
          refine lv_iload_n hK.1.1 hK.1.2.1 dX5_write_91 rfl (lv_at hl 4 rfl) ?_
          refine lv_iadd hK.1.1 hK.1.2.1 dX5_write_92 ?_
          refine mw_ist hK hP hS hR 15 (by decide) rfl (j := q) hq5 dX5_write_93 (fun H locs G hP hS hR => ?_)
          refine lv_aload_n hK.1.1 hK.1.2.1 dX5_write_94 rfl (lv_at hl 2 rfl) ?_
          refine mr_56 hK hP hR dX5_write_95 ?_
          refine lv_iload hK.1.1 hK.1.2.1 dX5_write_98 (lv_at hl 0 rfl) ?_
          refine mr_ild hK hP hR 15 (by decide) rfl (j := q) hq5 dX5_write_100 ?_
          exact gk_iret0 hK.1 hret hlk hP hS (Nat.le_of_ble_eq_true rfl) (Nat.le_of_ble_eq_true rfl) dX5_write_101 (Or.inl (⟨h_1, hh_1, rfl, g_3, c26_4, Or.inr ⟨q, hq5, hq9, by rw [rp_u2s], hR⟩⟩))
        · obtain ⟨f, hf5, hf9⟩ := (h18 h_1 hh_1).resolve_left c26_4
          refine lv_aload_n hK.1.1 hK.1.2.1 dX5_write_56 rfl (lv_at hl 2 rfl) ?_
          refine mr_41 hK hP hR dX5_write_57 ?_
          refine lv_aload_n hK.1.1 hK.1.2.1 dX5_write_60 rfl (lv_at hl 2 rfl) ?_
          refine mr_65 hK hP hR dX5_write_61 ?_
          refine lv_iload_n hK.1.1 hK.1.2.1 dX5_write_64 rfl (lv_at hl 3 rfl) ?_
          refine mr_ild hK hP hR 18 (by decide) rfl (j := h_1) hh_1 dX5_write_65 ?_
          rw [hf9]
          refine lv_dup2_11 hK.1.1 hK.1.2.1 dX5_write_66 rfl rfl ?_
          refine mr_ild hK hP hR 10 (by decide) rfl (j := f) hf5 dX5_write_67 ?_
          refine lv_iload_n hK.1.1 hK.1.2.1 dX5_write_68 rfl (lv_at hl 4 rfl) ?_
          refine lv_iadd hK.1.1 hK.1.2.1 dX5_write_69 ?_
          refine mw_ist hK hP hS hR 10 (by decide) rfl (j := f) hf5 dX5_write_70 (fun H locs G hP hS hR => ?_)
          refine lv_aload_n hK.1.1 hK.1.2.1 dX5_write_71 rfl (lv_at hl 2 rfl) ?_
          refine mr_41 hK hP hR dX5_write_72 ?_
          refine lv_aload_n hK.1.1 hK.1.2.1 dX5_write_75 rfl (lv_at hl 2 rfl) ?_
          refine mr_65 hK hP hR dX5_write_76 ?_
          refine lv_iload_n hK.1.1 hK.1.2.1 dX5_write_79 rfl (lv_at hl 3 rfl) ?_
          refine mr_ild hK hP hR 18 (by decide) rfl (j := h_1) hh_1 dX5_write_80 ?_
          rw [rp_u2n _ _ (by simp), hf9]
          refine mr_ild hK hP hR 10 (by decide) rfl (j := f) hf5 dX5_write_81 ?_
          exact gk_iret0 hK.1 hret hlk hP hS (Nat.le_of_ble_eq_true rfl) (Nat.le_of_ble_eq_true rfl) dX5_write_82 (Or.inl (⟨h_1, hh_1, rfl, g_3, c26_4, Or.inl ⟨c53_5, f, hf5, hf9, by rw [rp_u2s], hR⟩⟩))
    · rw [m_in_f g_3]
      refine W.eq (g2 := F0 m 15 ls [.int 0, .int 1, .ref (ly_a y 5)]) rfl ?_
      refine lv_iload_n hK.1.1 hK.1.2.1 dX5_write_15 rfl (lv_at hl 0 rfl) ?_
      refine lv_if_eq (tgt := 33) hK.1.1 hK.1.2.1 dX5_write_16 (by decide) (fun c => absurd c (by decide)) (fun _ => ?_)
      refine lv_aload_n hK.1.1 hK.1.2.1 dX5_write_19 rfl (lv_at hl 1 rfl) ?_
      refine mr_65 hK hP hR dX5_write_20 ?_
      refine lv_iload_n hK.1.1 hK.1.2.1 dX5_write_23 rfl (lv_at hl 2 rfl) ?_
      refine mr_ild hK hP hR 18 (by decide) rfl (j := h_1) hh_1 dX5_write_24 ?_
      refine lv_iconst (v := (-1)) hK.1.1 hK.1.2.1 dX5_write_25 (by decide) ?_
      refine lv_icmp_eq (tgt := 33) hK.1.1 hK.1.2.1 dX5_write_26 (by decide) (fun c26_6 => ?_) (fun c26_6 => ?_)
      · refine lv_iconst (v := 0) hK.1.1 hK.1.2.1 dX5_write_33 (by decide) ?_
        refine gk_callV0 (n := 3) (As := [.int 1, .int 0, .int 0]) (rest := []) hK (c_X5_goes l hR (a9 := 1) (b9 := 0) (c9 := 0) (m9 := 2) (x9 := 0) (by decide) (by decide)) (gk_gV q_6_9 q_6_10 q_6_11 q_1_5 q_6_12) ⟨rfl, by decide +kernel, by decide +kernel, by decide +kernel⟩ ⟨(Nat.le_of_ble_eq_true rfl), (Nat.le_of_ble_eq_true rfl)⟩ hP hS (gk_recv hK.2.2.1.1 hP hR.2.2.2.2.2.2.2.2.1 rfl) rfl hl.1 rfl (Nat.le_of_ble_eq_true rfl) dX5_write_34 ⟨(Nat.le_of_ble_eq_true rfl), (Nat.le_of_ble_eq_true rfl)⟩ (fun v G1 H locs hw hP hS => ?_)
        obtain ⟨rfl, hR⟩ := hw
        refine W.eq (g2 := F0 m 37 ls [.int 0]) rfl ?_
        refine lv_if_ne (tgt := 42) hK.1.1 hK.1.2.1 dX5_write_37 (by decide) (fun c => absurd c (by decide)) (fun _ => ?_)
        refine lv_iconst (v := 0) hK.1.1 hK.1.2.1 dX5_write_40 (by decide) ?_
        exact gk_iret0 hK.1 hret hlk hP hS (Nat.le_of_ble_eq_true rfl) (Nat.le_of_ble_eq_true rfl) dX5_write_41 (Or.inr (Or.inr (Or.inl (⟨rg_out_no hh_1 (by decide), g_3, ⟨_, rfl⟩, hR⟩))))
      · refine lv_iconst (v := 1) hK.1.1 hK.1.2.1 dX5_write_29 (by decide) ?_
        refine lv_goto (tgt := 34) hK.1.1 hK.1.2.1 dX5_write_30 (by decide) ?_
        refine gk_callV0 (n := 3) (As := [.int 1, .int 0, .int 1]) (rest := []) hK (c_X5_goes l hR (a9 := 1) (b9 := 0) (c9 := 1) (m9 := 2) (x9 := 0) (by decide) (by decide)) (gk_gV q_6_9 q_6_10 q_6_11 q_1_5 q_6_12) ⟨rfl, by decide +kernel, by decide +kernel, by decide +kernel⟩ ⟨(Nat.le_of_ble_eq_true rfl), (Nat.le_of_ble_eq_true rfl)⟩ hP hS (gk_recv hK.2.2.1.1 hP hR.2.2.2.2.2.2.2.2.1 rfl) rfl hl.1 rfl (Nat.le_of_ble_eq_true rfl) dX5_write_34 ⟨(Nat.le_of_ble_eq_true rfl), (Nat.le_of_ble_eq_true rfl)⟩ (fun v G1 H locs hw hP hS => ?_)
        obtain ⟨rfl, hR⟩ := hw
        refine W.eq (g2 := F0 m 37 ls [.int 0]) rfl ?_
        refine lv_if_ne (tgt := 42) hK.1.1 hK.1.2.1 dX5_write_37 (by decide) (fun c => absurd c (by decide)) (fun _ => ?_)
        refine lv_iconst (v := 0) hK.1.1 hK.1.2.1 dX5_write_40 (by decide) ?_
        exact gk_iret0 hK.1 hret hlk hP hS (Nat.le_of_ble_eq_true rfl) (Nat.le_of_ble_eq_true rfl) dX5_write_41 (Or.inr (Or.inr (Or.inl (⟨rg_out_no hh_1 (by decide), g_3, ⟨_, rfl⟩, hR⟩))))
  · refine W.eq (g2 := F0 m 4 ls [.int 0]) rfl ?_
    refine lv_istore_n (lv' := [(3, .int 0), (0, .ref (ly_a y 5)), (1, .int i), (2, .int n)]) hK.1.1 hK.1.2.1 dX5_write_4 rfl hl (by decide) rfl (fun ls hl => ?_)
    refine lv_aload_n hK.1.1 hK.1.2.1 dX5_write_5 rfl (lv_at hl 1 rfl) ?_
    refine lv_iload_n hK.1.1 hK.1.2.1 dX5_write_6 rfl (lv_at hl 0 rfl) ?_
    refine lv_iload_n hK.1.1 hK.1.2.1 dX5_write_7 rfl (lv_at hl 3 rfl) ?_
    refine lv_iconst (v := 1) hK.1.1 hK.1.2.1 dX5_write_8 (by decide) ?_
    refine lv_sipush (v := 1000) hK.1.1 hK.1.2.1 dX5_write_9 (by decide) ?_
    refine gk_callS0 (n := 3) (As := [.int n, .int 1, .int 1000]) (rest := [.int 0, .ref (ly_a y 5)]) hK (c_X5_in l hR (x9 := n) (a9 := 1) (b9 := 1000)) (gk_gS q_6_3 q_6_4 q_1_5 q_6_5) ⟨by decide +kernel, by decide +kernel, by decide +kernel⟩ ⟨(Nat.le_of_ble_eq_true rfl), (Nat.le_of_ble_eq_true rfl)⟩ hP hS rfl hl.1 rfl (Nat.le_of_ble_eq_true rfl) dX5_write_12 ⟨(Nat.le_of_ble_eq_true rfl), (Nat.le_of_ble_eq_true rfl)⟩ (fun v G1 H locs hw hP hS => ?_)
    obtain ⟨rfl, hG9⟩ := hw
    rw [hG9] at hP
    by_cases g_7 : rg_in n 1 1000
    · rw [m_in_t g_7]
      refine W.eq (g2 := F0 m 15 ls [.int 1, .int 0, .ref (ly_a y 5)]) rfl ?_
      refine lv_iload_n hK.1.1 hK.1.2.1 dX5_write_15 rfl (lv_at hl 0 rfl) ?_
      refine lv_if_eq (tgt := 33) hK.1.1 hK.1.2.1 dX5_write_16 (by decide) (fun _ => ?_) (fun c => absurd c (by decide))
      refine lv_iconst (v := 0) hK.1.1 hK.1.2.1 dX5_write_33 (by decide) ?_
      refine gk_callV0 (n := 3) (As := [.int 0, .int 1, .int 0]) (rest := []) hK (c_X5_goes l hR (a9 := 0) (b9 := 1) (c9 := 0) (m9 := 1) (x9 := 0) (by decide) (by decide)) (gk_gV q_6_9 q_6_10 q_6_11 q_1_5 q_6_12) ⟨rfl, by decide +kernel, by decide +kernel, by decide +kernel⟩ ⟨(Nat.le_of_ble_eq_true rfl), (Nat.le_of_ble_eq_true rfl)⟩ hP hS (gk_recv hK.2.2.1.1 hP hR.2.2.2.2.2.2.2.2.1 rfl) rfl hl.1 rfl (Nat.le_of_ble_eq_true rfl) dX5_write_34 ⟨(Nat.le_of_ble_eq_true rfl), (Nat.le_of_ble_eq_true rfl)⟩ (fun v G1 H locs hw hP hS => ?_)
      obtain ⟨rfl, hR⟩ := hw
      refine W.eq (g2 := F0 m 37 ls [.int 0]) rfl ?_
      refine lv_if_ne (tgt := 42) hK.1.1 hK.1.2.1 dX5_write_37 (by decide) (fun c => absurd c (by decide)) (fun _ => ?_)
      refine lv_iconst (v := 0) hK.1.1 hK.1.2.1 dX5_write_40 (by decide) ?_
      exact gk_iret0 hK.1 hret hlk hP hS (Nat.le_of_ble_eq_true rfl) (Nat.le_of_ble_eq_true rfl) dX5_write_41 (Or.inr (Or.inl (⟨ho_2, ⟨_, rfl⟩, hR⟩)))
    · rw [m_in_f g_7]
      refine W.eq (g2 := F0 m 15 ls [.int 0, .int 0, .ref (ly_a y 5)]) rfl ?_
      refine lv_iload_n hK.1.1 hK.1.2.1 dX5_write_15 rfl (lv_at hl 0 rfl) ?_
      refine lv_if_eq (tgt := 33) hK.1.1 hK.1.2.1 dX5_write_16 (by decide) (fun _ => ?_) (fun c => absurd c (by decide))
      refine lv_iconst (v := 0) hK.1.1 hK.1.2.1 dX5_write_33 (by decide) ?_
      refine gk_callV0 (n := 3) (As := [.int 0, .int 0, .int 0]) (rest := []) hK (c_X5_goes l hR (a9 := 0) (b9 := 0) (c9 := 0) (m9 := 1) (x9 := 0) (by decide) (by decide)) (gk_gV q_6_9 q_6_10 q_6_11 q_1_5 q_6_12) ⟨rfl, by decide +kernel, by decide +kernel, by decide +kernel⟩ ⟨(Nat.le_of_ble_eq_true rfl), (Nat.le_of_ble_eq_true rfl)⟩ hP hS (gk_recv hK.2.2.1.1 hP hR.2.2.2.2.2.2.2.2.1 rfl) rfl hl.1 rfl (Nat.le_of_ble_eq_true rfl) dX5_write_34 ⟨(Nat.le_of_ble_eq_true rfl), (Nat.le_of_ble_eq_true rfl)⟩ (fun v G1 H locs hw hP hS => ?_)
      obtain ⟨rfl, hR⟩ := hw
      refine W.eq (g2 := F0 m 37 ls [.int 0]) rfl ?_
      refine lv_if_ne (tgt := 42) hK.1.1 hK.1.2.1 dX5_write_37 (by decide) (fun c => absurd c (by decide)) (fun _ => ?_)
      refine lv_iconst (v := 0) hK.1.1 hK.1.2.1 dX5_write_40 (by decide) ?_
      exact gk_iret0 hK.1 hret hlk hP hS (Nat.le_of_ble_eq_true rfl) (Nat.le_of_ble_eq_true rfl) dX5_write_41 (Or.inr (Or.inl (⟨ho_2, ⟨_, rfl⟩, hR⟩)))
set_option maxHeartbeats 4000000 in
set_option maxRecDepth 100000 in
theorem c_X5_holds (l : Launch) {y : ly_T} {A : Nat → Prop} {G : gk_G} {td : Int32} {ru : Nat → Nat → Int32} {fr lv : Nat → Nat} {lt et tl : Nat → Int32} {hf hp : Nat → Option Nat} {ol : Nat → List Nat} {PS : Nat → Prop} {pf : Nat → Nat → Int32} {ov : Int64} {md mq mt : Int32} {mv : Nat → Nat → Int32} {i : Int32}  (hR : rp y G td ru fr lv lt et tl hf hp ol PS pf ov md mq mt mv) (h19 : ∀ h, h < 4 → mv 19 h = -1 ∨ ∃ q, q < 4096 ∧ mv 19 h = nI q) : gk_M0 l yX5_holds (Cond.code yX5_holds cX5_holds 4 (some .int)) 3 90 0 0 y A [.ref (ly_a y 5), .int i] G (fun v G1 => (∃ h, h < 4 ∧ i = nI h ∧ ((mv 18 h = -1 ∧ v = some (.int (-1))) ∨ (¬ mv 18 h = -1 ∧ ((mv 19 h = -1 ∧ v = some (.int (100 * mv 18 h + 0))) ∨ ∃ q, q < 4096 ∧ mv 19 h = nI q ∧ v = some (.int (100 * mv 18 h + (1 + nI (m_cnt mv (mv 18 h) q))))))) ∧ rp y G1 td ru fr lv lt et tl hf hp ol PS pf ov md mq 0 mv) ∨ (rg_out i 4 ∧ (∃ x, v = some (.int x)) ∧ rp y G1 td ru fr lv lt et tl hf hp ol PS pf ov md mq 1 mv)) := by
  refine gk_of0 (cc := cX5_holds) (maxL := 4) (ret := (some .int)) (own := RX5) (by decide +kernel) rfl rfl (Nat.le_of_ble_eq_true rfl) ?_
  intro p e s m below meth c ls hK hret hlk _ hP hS hl
  have hl : lv_has ls 4 [(0, .ref (ly_a y 5)), (1, .int i)] := hl
  refine lv_aload_n hK.1.1 hK.1.2.1 dX5_holds_0 rfl (lv_at hl 0 rfl) ?_
  refine lv_iload_n hK.1.1 hK.1.2.1 dX5_holds_1 rfl (lv_at hl 1 rfl) ?_
  refine gk_callS0 (n := 1) (As := [.int i]) (rest := [.ref (ly_a y 5)]) hK (c_X5_isHolder l hR (i := i)) (gk_gS q_9_0 q_9_1 q_1_5 q_9_2) ⟨by decide +kernel, by decide +kernel, by decide +kernel⟩ ⟨(Nat.le_of_ble_eq_true rfl), (Nat.le_of_ble_eq_true rfl)⟩ hP hS rfl hl.1 rfl (Nat.le_of_ble_eq_true rfl) dX5_holds_2 ⟨(Nat.le_of_ble_eq_true rfl), (Nat.le_of_ble_eq_true rfl)⟩ (fun v G1 H locs hw hP hS => ?_)
  obtain ⟨hw, hG9⟩ := hw
  rw [hG9] at hP
  rcases hw with ⟨h_1, hh_1, rfl, rfl⟩ | ⟨ho_2, rfl⟩
  · refine W.eq (g2 := F0 m 5 ls [.int 1, .ref (ly_a y 5)]) rfl ?_
    refine lv_iconst (v := 1) hK.1.1 hK.1.2.1 dX5_holds_5 (by decide) ?_
    refine lv_iconst (v := 1) hK.1.1 hK.1.2.1 dX5_holds_6 (by decide) ?_
    refine gk_callV0 (n := 3) (As := [.int 1, .int 1, .int 1]) (rest := []) hK (c_X5_goes l hR (a9 := 1) (b9 := 1) (c9 := 1) (m9 := 0) (x9 := 1) (by decide) (by decide)) (gk_gV q_6_9 q_6_10 q_6_11 q_1_5 q_6_12) ⟨rfl, by decide +kernel, by decide +kernel, by decide +kernel⟩ ⟨(Nat.le_of_ble_eq_true rfl), (Nat.le_of_ble_eq_true rfl)⟩ hP hS (gk_recv hK.2.2.1.1 hP hR.2.2.2.2.2.2.2.2.1 rfl) rfl hl.1 rfl (Nat.le_of_ble_eq_true rfl) dX5_holds_7 ⟨(Nat.le_of_ble_eq_true rfl), (Nat.le_of_ble_eq_true rfl)⟩ (fun v G1 H locs hw hP hS => ?_)
    obtain ⟨rfl, hR⟩ := hw
    refine W.eq (g2 := F0 m 10 ls [.int 1]) rfl ?_
    refine lv_if_eq (tgt := 23) hK.1.1 hK.1.2.1 dX5_holds_10 (by decide) (fun c => absurd c (by decide)) (fun _ => ?_)
    refine lv_aload_n hK.1.1 hK.1.2.1 dX5_holds_13 rfl (lv_at hl 0 rfl) ?_
    refine mr_65 hK hP hR dX5_holds_14 ?_
    refine lv_iload_n hK.1.1 hK.1.2.1 dX5_holds_17 rfl (lv_at hl 1 rfl) ?_
    refine mr_ild hK hP hR 18 (by decide) rfl (j := h_1) hh_1 dX5_holds_18 ?_
    refine lv_iconst (v := (-1)) hK.1.1 hK.1.2.1 dX5_holds_19 (by decide) ?_
    refine lv_icmp_ne (tgt := 36) hK.1.1 hK.1.2.1 dX5_holds_20 (by decide) (fun c20_3 => ?_) (fun c20_3 => ?_)
    · rcases h19 h_1 hh_1 with e | ⟨q, hq5, hq9⟩
      · have hq9 := e
        refine lv_iconst (v := 0) hK.1.1 hK.1.2.1 dX5_holds_36 (by decide) ?_
        refine lv_istore_n (lv' := [(2, .int 0), (0, .ref (ly_a y 5)), (1, .int (nI h_1))]) hK.1.1 hK.1.2.1 dX5_holds_37 rfl hl (by decide) rfl (fun ls hl => ?_)
        refine lv_iconst (v := 0) hK.1.1 hK.1.2.1 dX5_holds_38 (by decide) ?_
        refine lv_istore_n (lv' := [(3, .int 0), (2, .int 0), (0, .ref (ly_a y 5)), (1, .int (nI h_1))]) hK.1.1 hK.1.2.1 dX5_holds_39 rfl hl (by decide) rfl (fun ls hl => ?_)
        refine lv_iload_n hK.1.1 hK.1.2.1 dX5_holds_40 rfl (lv_at hl 0 rfl) ?_
        refine lv_aload_n hK.1.1 hK.1.2.1 dX5_holds_41 rfl (lv_at hl 2 rfl) ?_
        refine mr_68 hK hP hR dX5_holds_42 ?_
        refine lv_iload_n hK.1.1 hK.1.2.1 dX5_holds_45 rfl (lv_at hl 3 rfl) ?_
        refine mr_ild hK hP hR 19 (by decide) rfl (j := h_1) hh_1 dX5_holds_46 ?_
        rw [hq9]
        refine lv_icmp_ge (tgt := 79) hK.1.1 hK.1.2.1 dX5_holds_47 (by decide) (fun _ => ?_) (fun c => absurd (by decide) c)
        refine lv_bipush (v := 100) hK.1.1 hK.1.2.1 dX5_holds_79 (by decide) ?_
        refine lv_aload_n hK.1.1 hK.1.2.1 dX5_holds_81 rfl (lv_at hl 2 rfl) ?_
        refine mr_65 hK hP hR dX5_holds_82 ?_
        refine lv_iload_n hK.1.1 hK.1.2.1 dX5_holds_85 rfl (lv_at hl 3 rfl) ?_
        refine mr_ild hK hP hR 18 (by decide) rfl (j := h_1) hh_1 dX5_holds_86 ?_
        refine lv_imul hK.1.1 hK.1.2.1 dX5_holds_87 ?_
        refine lv_aload_n hK.1.1 hK.1.2.1 dX5_holds_88 rfl (lv_at hl 2 rfl) ?_
        refine mr_68 hK hP hR dX5_holds_89 ?_
        refine lv_iload_n hK.1.1 hK.1.2.1 dX5_holds_92 rfl (lv_at hl 3 rfl) ?_
        refine mr_ild hK hP hR 19 (by decide) rfl (j := h_1) hh_1 dX5_holds_93 ?_
        rw [hq9]
        refine lv_iconst (v := (-1)) hK.1.1 hK.1.2.1 dX5_holds_94 (by decide) ?_
        refine lv_icmp_ne (tgt := 102) hK.1.1 hK.1.2.1 dX5_holds_95 (by decide) (fun c => absurd c (by decide)) (fun _ => ?_)
        refine lv_iconst (v := 0) hK.1.1 hK.1.2.1 dX5_holds_98 (by decide) ?_
        refine lv_goto (tgt := 105) hK.1.1 hK.1.2.1 dX5_holds_99 (by decide) ?_
        refine lv_iadd hK.1.1 hK.1.2.1 dX5_holds_105 ?_
        exact gk_iret0 hK.1 hret hlk hP hS (Nat.le_of_ble_eq_true rfl) (Nat.le_of_ble_eq_true rfl) dX5_holds_106 (Or.inl ⟨h_1, hh_1, rfl, Or.inr ⟨c20_3, Or.inl ⟨hq9, rfl⟩⟩, hR⟩)
      · have hq4 := hq5
        refine lv_iconst (v := 0) hK.1.1 hK.1.2.1 dX5_holds_36 (by decide) ?_
        refine lv_istore_n (lv' := [(2, .int 0), (0, .ref (ly_a y 5)), (1, .int (nI h_1))]) hK.1.1 hK.1.2.1 dX5_holds_37 rfl hl (by decide) rfl (fun ls hl => ?_)
        refine lv_iconst (v := 0) hK.1.1 hK.1.2.1 dX5_holds_38 (by decide) ?_
        refine lv_istore_n (lv' := [(3, .int 0), (2, .int 0), (0, .ref (ly_a y 5)), (1, .int (nI h_1))]) hK.1.1 hK.1.2.1 dX5_holds_39 rfl hl (by decide) rfl (fun ls hl => ?_)
        have loop : ∀ (dd : Nat) (k : Nat) (ls : Array Slot) (H : Heap) (locs : List Loc), q - k = dd → (k ≤ q) → gk_P (ly_D y) A G1 H → va_S A s.heap H locs → lv_has ls 4 [(3, .int (nI k)), (2, .int (nI (m_cnt mv (mv 18 h_1) k))), (0, .ref (ly_a y 5)), (1, .int (nI h_1))] → W p l e { frames := 3, cells := 0, slots := 0, locals := 90 } s m [.ref (ly_a y 5), .int (nI h_1)].toArray below meth c H locs ((0 + 0) + 0) ((0 + 0) + 0) (MQ below (gk_Q y A (fun v G1 => (∃ h, h < 4 ∧ (nI h_1) = nI h ∧ ((mv 18 h = -1 ∧ v = some (.int (-1))) ∨ (¬ mv 18 h = -1 ∧ ((mv 19 h = -1 ∧ v = some (.int (100 * mv 18 h + 0))) ∨ ∃ q, q < 4096 ∧ mv 19 h = nI q ∧ v = some (.int (100 * mv 18 h + (1 + nI (m_cnt mv (mv 18 h) q))))))) ∧ rp y G1 td ru fr lv lt et tl hf hp ol PS pf ov md mq 0 mv) ∨ (rg_out (nI h_1) 4 ∧ (∃ x, v = some (.int x)) ∧ rp y G1 td ru fr lv lt et tl hf hp ol PS pf ov md mq 1 mv))) [.ref (ly_a y 5), .int (nI h_1)].toArray s 0 0 A) (F0 m 40 ls []) := by
          intro dd
          induction dd using Nat.strongRecOn with
          | _ dd ih =>
          intro k ls H locs hdd hk hP hS hl
          refine lv_iload_n hK.1.1 hK.1.2.1 dX5_holds_40 rfl (lv_at hl 0 rfl) ?_
          refine lv_aload_n hK.1.1 hK.1.2.1 dX5_holds_41 rfl (lv_at hl 2 rfl) ?_
          refine mr_68 hK hP hR dX5_holds_42 ?_
          refine lv_iload_n hK.1.1 hK.1.2.1 dX5_holds_45 rfl (lv_at hl 3 rfl) ?_
          refine mr_ild hK hP hR 19 (by decide) rfl (j := h_1) hh_1 dX5_holds_46 ?_
          rw [hq9]
          refine lv_icmp_ge (tgt := 79) hK.1.1 hK.1.2.1 dX5_holds_47 (by decide) (fun c47_4 => ?_) (fun c47_4 => ?_)
          · have hkn : k = q := Nat.le_antisymm hk ((nI_leI (by omega) (by omega)).mp c47_4)
            subst hkn
            refine lv_bipush (v := 100) hK.1.1 hK.1.2.1 dX5_holds_79 (by decide) ?_
            refine lv_aload_n hK.1.1 hK.1.2.1 dX5_holds_81 rfl (lv_at hl 2 rfl) ?_
            refine mr_65 hK hP hR dX5_holds_82 ?_
            refine lv_iload_n hK.1.1 hK.1.2.1 dX5_holds_85 rfl (lv_at hl 3 rfl) ?_
            refine mr_ild hK hP hR 18 (by decide) rfl (j := h_1) hh_1 dX5_holds_86 ?_
            refine lv_imul hK.1.1 hK.1.2.1 dX5_holds_87 ?_
            refine lv_aload_n hK.1.1 hK.1.2.1 dX5_holds_88 rfl (lv_at hl 2 rfl) ?_
            refine mr_68 hK hP hR dX5_holds_89 ?_
            refine lv_iload_n hK.1.1 hK.1.2.1 dX5_holds_92 rfl (lv_at hl 3 rfl) ?_
            refine mr_ild hK hP hR 19 (by decide) rfl (j := h_1) hh_1 dX5_holds_93 ?_
            rw [hq9]
            refine lv_iconst (v := (-1)) hK.1.1 hK.1.2.1 dX5_holds_94 (by decide) ?_
            refine lv_icmp_ne (tgt := 102) hK.1.1 hK.1.2.1 dX5_holds_95 (by decide) (fun _ => ?_) (fun c => absurd c (m_nIn (by omega)))
            refine lv_iconst (v := 1) hK.1.1 hK.1.2.1 dX5_holds_102 (by decide) ?_
            refine lv_iload_n hK.1.1 hK.1.2.1 dX5_holds_103 rfl (lv_at hl 1 rfl) ?_
            refine lv_iadd hK.1.1 hK.1.2.1 dX5_holds_104 ?_
            refine lv_iadd hK.1.1 hK.1.2.1 dX5_holds_105 ?_
            exact gk_iret0 hK.1 hret hlk hP hS (Nat.le_of_ble_eq_true rfl) (Nat.le_of_ble_eq_true rfl) dX5_holds_106 (Or.inl ⟨h_1, hh_1, rfl, Or.inr ⟨c20_3, Or.inr ⟨k, by omega, hq9, rfl⟩⟩, hR⟩)
          · have hkn : k < q := Nat.lt_of_not_le (fun h => c47_4 (nI_le h (by omega)))
            refine lv_iload_n hK.1.1 hK.1.2.1 dX5_holds_50 rfl (lv_at hl 1 rfl) ?_
            refine lv_aload_n hK.1.1 hK.1.2.1 dX5_holds_51 rfl (lv_at hl 2 rfl) ?_
            refine mr_53 hK hP hR dX5_holds_52 ?_
            refine lv_iload_n hK.1.1 hK.1.2.1 dX5_holds_55 rfl (lv_at hl 0 rfl) ?_
            refine mr_ild hK hP hR 14 (by decide) rfl (j := k) (show k < 4096 by omega) dX5_holds_56 ?_
            refine lv_aload_n hK.1.1 hK.1.2.1 dX5_holds_57 rfl (lv_at hl 2 rfl) ?_
            refine mr_65 hK hP hR dX5_holds_58 ?_
            refine lv_iload_n hK.1.1 hK.1.2.1 dX5_holds_61 rfl (lv_at hl 3 rfl) ?_
            refine mr_ild hK hP hR 18 (by decide) rfl (j := h_1) hh_1 dX5_holds_62 ?_
            refine lv_icmp_ne (tgt := 70) hK.1.1 hK.1.2.1 dX5_holds_63 (by decide) (fun c63_5 => ?_) (fun c63_5 => ?_)
            · refine lv_iconst (v := 0) hK.1.1 hK.1.2.1 dX5_holds_70 (by decide) ?_
              refine lv_iadd hK.1.1 hK.1.2.1 dX5_holds_71 ?_
              rw [Int32.add_zero, ← m_cnt_n c63_5]
              refine lv_istore_n (lv' := [(2, .int (nI (m_cnt mv (mv 18 h_1) (k + 1)))), (3, .int (nI k)), (0, .ref (ly_a y 5)), (1, .int (nI h_1))]) hK.1.1 hK.1.2.1 dX5_holds_72 rfl hl (by decide) rfl (fun ls hl => ?_)
              refine lv_iinc (v := nI (k + 1)) (lv' := [(3, .int (nI (k + 1))), (2, .int (nI (m_cnt mv (mv 18 h_1) (k + 1)))), (0, .ref (ly_a y 5)), (1, .int (nI h_1))]) hK.1.1 hK.1.2.1 dX5_holds_73 hl (k := 1) rfl (nI_1 k) (by decide) rfl (fun ls hl => ?_)
              refine lv_goto (tgt := 40) hK.1.1 hK.1.2.1 dX5_holds_76 (by decide) ?_
              exact ih (q - (k + 1)) (by omega)  (k + 1) ls _ _ rfl (by omega) hP hS (lv_sub hl [0, 1, 2, 3] rfl)
            · refine lv_iconst (v := 1) hK.1.1 hK.1.2.1 dX5_holds_66 (by decide) ?_
              refine lv_goto (tgt := 71) hK.1.1 hK.1.2.1 dX5_holds_67 (by decide) ?_
              refine lv_iadd hK.1.1 hK.1.2.1 dX5_holds_71 ?_
              rw [nI_1, ← m_cnt_y c63_5]
              refine lv_istore_n (lv' := [(2, .int (nI (m_cnt mv (mv 18 h_1) (k + 1)))), (3, .int (nI k)), (0, .ref (ly_a y 5)), (1, .int (nI h_1))]) hK.1.1 hK.1.2.1 dX5_holds_72 rfl hl (by decide) rfl (fun ls hl => ?_)
              refine lv_iinc (v := nI (k + 1)) (lv' := [(3, .int (nI (k + 1))), (2, .int (nI (m_cnt mv (mv 18 h_1) (k + 1)))), (0, .ref (ly_a y 5)), (1, .int (nI h_1))]) hK.1.1 hK.1.2.1 dX5_holds_73 hl (k := 1) rfl (nI_1 k) (by decide) rfl (fun ls hl => ?_)
              refine lv_goto (tgt := 40) hK.1.1 hK.1.2.1 dX5_holds_76 (by decide) ?_
              exact ih (q - (k + 1)) (by omega)  (k + 1) ls _ _ rfl (by omega) hP hS (lv_sub hl [0, 1, 2, 3] rfl)
        exact loop _ 0 ls _ _ rfl (by omega) hP hS (lv_sub hl [0, 1, 2, 3] rfl)
    · refine lv_aload_n hK.1.1 hK.1.2.1 dX5_holds_23 rfl (lv_at hl 0 rfl) ?_
      refine mr_71 hK hP hR dX5_holds_24 ?_
      refine lv_if_ne (tgt := 34) hK.1.1 hK.1.2.1 dX5_holds_27 (by decide) (fun c => absurd c (by decide)) (fun _ => ?_)
      refine lv_iconst (v := (-1)) hK.1.1 hK.1.2.1 dX5_holds_30 (by decide) ?_
      refine lv_goto (tgt := 35) hK.1.1 hK.1.2.1 dX5_holds_31 (by decide) ?_
      exact gk_iret0 hK.1 hret hlk hP hS (Nat.le_of_ble_eq_true rfl) (Nat.le_of_ble_eq_true rfl) dX5_holds_35 (Or.inl ⟨h_1, hh_1, rfl, Or.inl ⟨c20_3, rfl⟩, hR⟩)
  · refine W.eq (g2 := F0 m 5 ls [.int 0, .ref (ly_a y 5)]) rfl ?_
    refine lv_iconst (v := 1) hK.1.1 hK.1.2.1 dX5_holds_5 (by decide) ?_
    refine lv_iconst (v := 1) hK.1.1 hK.1.2.1 dX5_holds_6 (by decide) ?_
    refine gk_callV0 (n := 3) (As := [.int 0, .int 1, .int 1]) (rest := []) hK (c_X5_goes l hR (a9 := 0) (b9 := 1) (c9 := 1) (m9 := 1) (x9 := 0) (by decide) (by decide)) (gk_gV q_6_9 q_6_10 q_6_11 q_1_5 q_6_12) ⟨rfl, by decide +kernel, by decide +kernel, by decide +kernel⟩ ⟨(Nat.le_of_ble_eq_true rfl), (Nat.le_of_ble_eq_true rfl)⟩ hP hS (gk_recv hK.2.2.1.1 hP hR.2.2.2.2.2.2.2.2.1 rfl) rfl hl.1 rfl (Nat.le_of_ble_eq_true rfl) dX5_holds_7 ⟨(Nat.le_of_ble_eq_true rfl), (Nat.le_of_ble_eq_true rfl)⟩ (fun v G1 H locs hw hP hS => ?_)
    obtain ⟨rfl, hR⟩ := hw
    refine W.eq (g2 := F0 m 10 ls [.int 0]) rfl ?_
    refine lv_if_eq (tgt := 23) hK.1.1 hK.1.2.1 dX5_holds_10 (by decide) (fun _ => ?_) (fun c => absurd c (by decide))
    refine lv_aload_n hK.1.1 hK.1.2.1 dX5_holds_23 rfl (lv_at hl 0 rfl) ?_
    refine mr_71 hK hP hR dX5_holds_24 ?_
    refine lv_if_ne (tgt := 34) hK.1.1 hK.1.2.1 dX5_holds_27 (by decide) (fun _ => ?_) (fun c => absurd c (by decide))
    refine lv_iconst (v := 0) hK.1.1 hK.1.2.1 dX5_holds_34 (by decide) ?_
    exact gk_iret0 hK.1 hret hlk hP hS (Nat.le_of_ble_eq_true rfl) (Nat.le_of_ble_eq_true rfl) dX5_holds_35 (Or.inr ⟨ho_2, ⟨_, rfl⟩, hR⟩)
set_option maxHeartbeats 4000000 in
set_option maxRecDepth 100000 in
theorem c_X5_name (l : Launch) {y : ly_T} {A : Nat → Prop} {G : gk_G} {td : Int32} {ru : Nat → Nat → Int32} {fr lv : Nat → Nat} {lt et tl : Nat → Int32} {hf hp : Nat → Option Nat} {ol : Nat → List Nat} {PS : Nat → Prop} {pf : Nat → Nat → Int32} {ov : Int64} {md mq mt : Int32} {mv : Nat → Nat → Int32} {i j : Int32} {n9 : Nat} {mr : Nat → Nat}  (hR : rp y G td ru fr lv lt et tl hf hp ol PS pf ov md mq mt mv) (hq : mq = nI n9) (hn : n9 ≤ 4096) (hr9 : ∀ f, f < 5 → mr f < 3 ∧ mv 9 f = nI (mr f)) (h14 : ∀ p, p < n9 → ∃ f, f < 5 ∧ mv 14 p = nI f) : gk_M0 l yX5_name (Cond.code yX5_name cX5_name 6 (some .int)) 3 90 0 0 y A [.ref (ly_a y 5), .int i, .int j] G (fun v G1 => (∃ p f, p < n9 ∧ mv 14 p = i ∧ j = nI (m_cnt mv i p) ∧ f < 5 ∧ i = nI f ∧ v = some (.int (if mv 7 (mr f) = 0 then nI (m_cnt mv i n9) - j else 1000 * mv 16 p + nI (m_old mv i p p))) ∧ rp y G1 td ru fr lv lt et tl hf hp ol PS pf ov md mq 0 mv) ∨ ((∀ p, p < n9 → mv 14 p = i → ¬ j = nI (m_cnt mv i p)) ∧ (∃ x, v = some (.int x)) ∧ rp y G1 td ru fr lv lt et tl hf hp ol PS pf ov md mq 1 mv)) := by
  refine gk_of0 (cc := cX5_name) (maxL := 6) (ret := (some .int)) (own := RX5) (by decide +kernel) rfl rfl (Nat.le_of_ble_eq_true rfl) ?_
  intro p e s m below meth c ls hK hret hlk _ hP hS hl
  have hl : lv_has ls 6 [(0, .ref (ly_a y 5)), (1, .int i), (2, .int j)] := hl
  refine lv_aload_n hK.1.1 hK.1.2.1 dX5_name_0 rfl (lv_at hl 0 rfl) ?_
  refine lv_iload_n hK.1.1 hK.1.2.1 dX5_name_1 rfl (lv_at hl 1 rfl) ?_
  refine lv_iload_n hK.1.1 hK.1.2.1 dX5_name_2 rfl (lv_at hl 2 rfl) ?_
  refine gk_callV0 (n := 2) (As := [.int i, .int j]) (rest := []) hK (c_X5_placeOf l hR (i := i) (j := j) hq hn) (gk_gV q_21_23 q_22_0 q_22_1 q_1_5 q_22_2) ⟨rfl, by decide +kernel, by decide +kernel, by decide +kernel⟩ ⟨(Nat.le_of_ble_eq_true rfl), (Nat.le_of_ble_eq_true rfl)⟩ hP hS (gk_recv hK.2.2.1.1 hP hR.2.2.2.2.2.2.2.2.1 rfl) rfl hl.1 rfl (Nat.le_of_ble_eq_true rfl) dX5_name_3 ⟨(Nat.le_of_ble_eq_true rfl), (Nat.le_of_ble_eq_true rfl)⟩ (fun v G1 H locs hw hP hS => ?_)
  obtain ⟨⟨x, hpl, rfl⟩, hG9⟩ := hw
  rw [hG9] at hP
  rcases hpl with ⟨pz, hpn, hp14, hpj, rfl⟩ | ⟨hpn, rfl⟩
  · refine W.eq (g2 := F0 m 6 ls [.int (nI pz)]) rfl ?_
    refine lv_istore_n (lv' := [(3, .int (nI pz)), (0, .ref (ly_a y 5)), (1, .int i), (2, .int j)]) hK.1.1 hK.1.2.1 dX5_name_6 rfl hl (by decide) rfl (fun ls hl => ?_)
    refine lv_aload_n hK.1.1 hK.1.2.1 dX5_name_7 rfl (lv_at hl 1 rfl) ?_
    refine lv_iload_n hK.1.1 hK.1.2.1 dX5_name_8 rfl (lv_at hl 0 rfl) ?_
    refine lv_iconst (v := (-1)) hK.1.1 hK.1.2.1 dX5_name_9 (by decide) ?_
    refine lv_icmp_eq (tgt := 17) hK.1.1 hK.1.2.1 dX5_name_10 (by decide) (fun c => absurd c (m_nIn (by omega))) (fun _ => ?_)
    refine lv_iconst (v := 1) hK.1.1 hK.1.2.1 dX5_name_13 (by decide) ?_
    refine lv_goto (tgt := 18) hK.1.1 hK.1.2.1 dX5_name_14 (by decide) ?_
    refine lv_iconst (v := 1) hK.1.1 hK.1.2.1 dX5_name_18 (by decide) ?_
    refine lv_iconst (v := 1) hK.1.1 hK.1.2.1 dX5_name_19 (by decide) ?_
    refine gk_callV0 (n := 3) (As := [.int 1, .int 1, .int 1]) (rest := []) hK (c_X5_goes l hR (a9 := 1) (b9 := 1) (c9 := 1) (m9 := 0) (x9 := 1) (by decide) (by decide)) (gk_gV q_6_9 q_6_10 q_6_11 q_1_5 q_6_12) ⟨rfl, by decide +kernel, by decide +kernel, by decide +kernel⟩ ⟨(Nat.le_of_ble_eq_true rfl), (Nat.le_of_ble_eq_true rfl)⟩ hP hS (gk_recv hK.2.2.1.1 hP hR.2.2.2.2.2.2.2.2.1 rfl) rfl hl.1 rfl (Nat.le_of_ble_eq_true rfl) dX5_name_20 ⟨(Nat.le_of_ble_eq_true rfl), (Nat.le_of_ble_eq_true rfl)⟩ (fun v G1 H locs hw hP hS => ?_)
    obtain ⟨rfl, hR⟩ := hw
    refine W.eq (g2 := F0 m 23 ls [.int 1]) rfl ?_
    refine lv_if_ne (tgt := 28) hK.1.1 hK.1.2.1 dX5_name_23 (by decide) (fun _ => ?_) (fun c => absurd c (by decide))
    obtain ⟨ff, hf5, hf9⟩ := h14 pz hpn
    obtain rfl : i = nI ff := hp14.symm.trans hf9
    refine lv_aload_n hK.1.1 hK.1.2.1 dX5_name_28 rfl (lv_at hl 1 rfl) ?_
    refine mr_32 hK hP hR dX5_name_29 ?_
    refine lv_aload_n hK.1.1 hK.1.2.1 dX5_name_32 rfl (lv_at hl 1 rfl) ?_
    refine mr_38 hK hP hR dX5_name_33 ?_
    refine lv_iload_n hK.1.1 hK.1.2.1 dX5_name_36 rfl (lv_at hl 2 rfl) ?_
    refine mr_ild hK hP hR 9 (by decide) rfl (j := ff) hf5 dX5_name_37 ?_
    rw [(hr9 ff hf5).2]
    refine mr_zld hK hP hR 7 (by decide) rfl (j := (mr ff)) (hr9 ff hf5).1 dX5_name_38 ?_
    refine lv_if_ne (tgt := 50) hK.1.1 hK.1.2.1 dX5_name_39 (by decide) (fun c39_1 => ?_) (fun c39_1 => ?_)
    · refine lv_iconst (v := 0) hK.1.1 hK.1.2.1 dX5_name_50 (by decide) ?_
      refine lv_istore (lv' := [(4, .int 0), (3, .int (nI pz)), (0, .ref (ly_a y 5)), (1, .int (nI ff)), (2, .int j)]) hK.1.1 hK.1.2.1 dX5_name_51 hl (by decide) rfl (fun ls hl => ?_)
      refine lv_iconst (v := 0) hK.1.1 hK.1.2.1 dX5_name_53 (by decide) ?_
      refine lv_istore (lv' := [(5, .int 0), (4, .int 0), (3, .int (nI pz)), (0, .ref (ly_a y 5)), (1, .int (nI ff)), (2, .int j)]) hK.1.1 hK.1.2.1 dX5_name_54 hl (by decide) rfl (fun ls hl => ?_)
      have loop : ∀ (dd : Nat) (k : Nat) (ls : Array Slot) (H : Heap) (locs : List Loc), pz - k = dd → (k ≤ pz) → gk_P (ly_D y) A G1 H → va_S A s.heap H locs → lv_has ls 6 [(5, .int (nI k)), (4, .int (nI (m_old mv (nI ff) pz k))), (0, .ref (ly_a y 5)), (1, .int (nI ff)), (2, .int j), (3, .int (nI pz))] → W p l e { frames := 3, cells := 0, slots := 0, locals := 90 } s m [.ref (ly_a y 5), .int (nI ff), .int j].toArray below meth c H locs ((0 + 0) + 0) ((0 + 0) + 0) (MQ below (gk_Q y A (fun v G1 => (∃ p f, p < n9 ∧ mv 14 p = (nI ff) ∧ j = nI (m_cnt mv (nI ff) p) ∧ f < 5 ∧ (nI ff) = nI f ∧ v = some (.int (if mv 7 (mr f) = 0 then nI (m_cnt mv (nI ff) n9) - j else 1000 * mv 16 p + nI (m_old mv (nI ff) p p))) ∧ rp y G1 td ru fr lv lt et tl hf hp ol PS pf ov md mq 0 mv) ∨ ((∀ p, p < n9 → mv 14 p = (nI ff) → ¬ j = nI (m_cnt mv (nI ff) p)) ∧ (∃ x, v = some (.int x)) ∧ rp y G1 td ru fr lv lt et tl hf hp ol PS pf ov md mq 1 mv))) [.ref (ly_a y 5), .int (nI ff), .int j].toArray s 0 0 A) (F0 m 56 ls []) := by
        intro dd
        induction dd using Nat.strongRecOn with
        | _ dd ih =>
        intro k ls H locs hdd hk hP hS hl
        refine lv_iload hK.1.1 hK.1.2.1 dX5_name_56 (lv_at hl 0 rfl) ?_
        refine lv_iload_n hK.1.1 hK.1.2.1 dX5_name_58 rfl (lv_at hl 5 rfl) ?_
        refine lv_icmp_ge (tgt := 105) hK.1.1 hK.1.2.1 dX5_name_59 (by decide) (fun c59_2 => ?_) (fun c59_2 => ?_)
        · have hkn : k = pz := Nat.le_antisymm hk ((nI_leI (by omega) (by omega)).mp c59_2)
          refine lv_sipush (v := 1000) hK.1.1 hK.1.2.1 dX5_name_105 (by decide) ?_
          refine lv_aload_n hK.1.1 hK.1.2.1 dX5_name_108 rfl (lv_at hl 2 rfl) ?_
          refine mr_59 hK hP hR dX5_name_109 ?_
          refine lv_iload_n hK.1.1 hK.1.2.1 dX5_name_112 rfl (lv_at hl 5 rfl) ?_
          refine mr_ild hK hP hR 16 (by decide) rfl (j := pz) (show pz < 4096 by omega) dX5_name_113 ?_
          refine lv_imul hK.1.1 hK.1.2.1 dX5_name_114 ?_
          refine lv_iload hK.1.1 hK.1.2.1 dX5_name_115 (lv_at hl 1 rfl) ?_
          refine lv_iadd hK.1.1 hK.1.2.1 dX5_name_117 ?_
          exact gk_iret0 hK.1 hret hlk hP hS (Nat.le_of_ble_eq_true rfl) (Nat.le_of_ble_eq_true rfl) dX5_name_118 (Or.inl ⟨pz, ff, hpn, hf9, hpj, hf5, rfl, by rw [if_neg c39_1, ← hkn], hR⟩)
        · have hkn : k < pz := Nat.lt_of_not_le (fun h => c59_2 (nI_le h (by omega)))
          refine lv_iload hK.1.1 hK.1.2.1 dX5_name_62 (lv_at hl 1 rfl) ?_
          refine lv_aload_n hK.1.1 hK.1.2.1 dX5_name_64 rfl (lv_at hl 2 rfl) ?_
          refine mr_53 hK hP hR dX5_name_65 ?_
          refine lv_iload hK.1.1 hK.1.2.1 dX5_name_68 (lv_at hl 0 rfl) ?_
          refine mr_ild hK hP hR 14 (by decide) rfl (j := k) (show k < 4096 by omega) dX5_name_70 ?_
          refine lv_iload_n hK.1.1 hK.1.2.1 dX5_name_71 rfl (lv_at hl 3 rfl) ?_
          refine lv_icmp_ne (tgt := 95) hK.1.1 hK.1.2.1 dX5_name_72 (by decide) (fun c72_3 => ?_) (fun c72_3 => ?_)
          · refine lv_iconst (v := 0) hK.1.1 hK.1.2.1 dX5_name_95 (by decide) ?_
            refine lv_iadd hK.1.1 hK.1.2.1 dX5_name_96 ?_
            rw [Int32.add_zero, ← m_old_n c72_3]
            refine lv_istore (lv' := [(4, .int (nI (m_old mv (nI ff) pz (k + 1)))), (5, .int (nI k)), (0, .ref (ly_a y 5)), (1, .int (nI ff)), (2, .int j), (3, .int (nI pz))]) hK.1.1 hK.1.2.1 dX5_name_97 hl (by decide) rfl (fun ls hl => ?_)
            refine lv_iinc (v := nI (k + 1)) (lv' := [(5, .int (nI (k + 1))), (4, .int (nI (m_old mv (nI ff) pz (k + 1)))), (0, .ref (ly_a y 5)), (1, .int (nI ff)), (2, .int j), (3, .int (nI pz))]) hK.1.1 hK.1.2.1 dX5_name_99 hl (k := 1) rfl (nI_1 k) (by decide) rfl (fun ls hl => ?_)
            refine lv_goto (tgt := 56) hK.1.1 hK.1.2.1 dX5_name_102 (by decide) ?_
            exact ih (pz - (k + 1)) (by omega)  (k + 1) ls _ _ rfl (by omega) hP hS (lv_sub hl [0, 1, 2, 3, 4, 5] rfl)
          · refine lv_aload_n hK.1.1 hK.1.2.1 dX5_name_75 rfl (lv_at hl 2 rfl) ?_
            refine mr_59 hK hP hR dX5_name_76 ?_
            refine lv_iload hK.1.1 hK.1.2.1 dX5_name_79 (lv_at hl 0 rfl) ?_
            refine mr_ild hK hP hR 16 (by decide) rfl (j := k) (show k < 4096 by omega) dX5_name_81 ?_
            refine lv_aload_n hK.1.1 hK.1.2.1 dX5_name_82 rfl (lv_at hl 2 rfl) ?_
            refine mr_59 hK hP hR dX5_name_83 ?_
            refine lv_iload_n hK.1.1 hK.1.2.1 dX5_name_86 rfl (lv_at hl 5 rfl) ?_
            refine mr_ild hK hP hR 16 (by decide) rfl (j := pz) (show pz < 4096 by omega) dX5_name_87 ?_
            refine lv_icmp_ne (tgt := 95) hK.1.1 hK.1.2.1 dX5_name_88 (by decide) (fun c88_4 => ?_) (fun c88_4 => ?_)
            · refine lv_iconst (v := 0) hK.1.1 hK.1.2.1 dX5_name_95 (by decide) ?_
              refine lv_iadd hK.1.1 hK.1.2.1 dX5_name_96 ?_
              rw [Int32.add_zero, ← m_old_o c88_4]
              refine lv_istore (lv' := [(4, .int (nI (m_old mv (nI ff) pz (k + 1)))), (5, .int (nI k)), (0, .ref (ly_a y 5)), (1, .int (nI ff)), (2, .int j), (3, .int (nI pz))]) hK.1.1 hK.1.2.1 dX5_name_97 hl (by decide) rfl (fun ls hl => ?_)
              refine lv_iinc (v := nI (k + 1)) (lv' := [(5, .int (nI (k + 1))), (4, .int (nI (m_old mv (nI ff) pz (k + 1)))), (0, .ref (ly_a y 5)), (1, .int (nI ff)), (2, .int j), (3, .int (nI pz))]) hK.1.1 hK.1.2.1 dX5_name_99 hl (k := 1) rfl (nI_1 k) (by decide) rfl (fun ls hl => ?_)
              refine lv_goto (tgt := 56) hK.1.1 hK.1.2.1 dX5_name_102 (by decide) ?_
              exact ih (pz - (k + 1)) (by omega)  (k + 1) ls _ _ rfl (by omega) hP hS (lv_sub hl [0, 1, 2, 3, 4, 5] rfl)
            · refine lv_iconst (v := 1) hK.1.1 hK.1.2.1 dX5_name_91 (by decide) ?_
              refine lv_goto (tgt := 96) hK.1.1 hK.1.2.1 dX5_name_92 (by decide) ?_
              refine lv_iadd hK.1.1 hK.1.2.1 dX5_name_96 ?_
              rw [nI_1, ← m_old_y c72_3 c88_4]
              refine lv_istore (lv' := [(4, .int (nI (m_old mv (nI ff) pz (k + 1)))), (5, .int (nI k)), (0, .ref (ly_a y 5)), (1, .int (nI ff)), (2, .int j), (3, .int (nI pz))]) hK.1.1 hK.1.2.1 dX5_name_97 hl (by decide) rfl (fun ls hl => ?_)
              refine lv_iinc (v := nI (k + 1)) (lv' := [(5, .int (nI (k + 1))), (4, .int (nI (m_old mv (nI ff) pz (k + 1)))), (0, .ref (ly_a y 5)), (1, .int (nI ff)), (2, .int j), (3, .int (nI pz))]) hK.1.1 hK.1.2.1 dX5_name_99 hl (k := 1) rfl (nI_1 k) (by decide) rfl (fun ls hl => ?_)
              refine lv_goto (tgt := 56) hK.1.1 hK.1.2.1 dX5_name_102 (by decide) ?_
              exact ih (pz - (k + 1)) (by omega)  (k + 1) ls _ _ rfl (by omega) hP hS (lv_sub hl [0, 1, 2, 3, 4, 5] rfl)
      exact loop _ 0 ls _ _ rfl (by omega) hP hS (lv_sub hl [0, 1, 3, 4, 5, 2] rfl)
    · refine lv_aload_n hK.1.1 hK.1.2.1 dX5_name_42 rfl (lv_at hl 1 rfl) ?_
      refine lv_iload_n hK.1.1 hK.1.2.1 dX5_name_43 rfl (lv_at hl 2 rfl) ?_
      refine gk_callV0 (n := 1) (As := [.int (nI ff)]) (rest := []) hK (c_X5_oldsOf l hR (x9 := (nI ff)) hq hn) (gk_gV q_17_23 q_18_0 q_18_1 q_1_5 q_18_2) ⟨rfl, by decide +kernel, by decide +kernel, by decide +kernel⟩ ⟨(Nat.le_of_ble_eq_true rfl), (Nat.le_of_ble_eq_true rfl)⟩ hP hS (gk_recv hK.2.2.1.1 hP hR.2.2.2.2.2.2.2.2.1 rfl) rfl hl.1 rfl (Nat.le_of_ble_eq_true rfl) dX5_name_44 ⟨(Nat.le_of_ble_eq_true rfl), (Nat.le_of_ble_eq_true rfl)⟩ (fun v G1 H locs hw hP hS => ?_)
      obtain ⟨rfl, hG9⟩ := hw
      rw [hG9] at hP
      refine W.eq (g2 := F0 m 47 ls [.int (nI (m_cnt mv (nI ff) n9))]) rfl ?_
      refine lv_iload_n hK.1.1 hK.1.2.1 dX5_name_47 rfl (lv_at hl 3 rfl) ?_
      refine lv_isub hK.1.1 hK.1.2.1 dX5_name_48 ?_
      exact gk_iret0 hK.1 hret hlk hP hS (Nat.le_of_ble_eq_true rfl) (Nat.le_of_ble_eq_true rfl) dX5_name_49 (Or.inl ⟨pz, ff, hpn, hf9, hpj, hf5, rfl, by rw [if_pos c39_1], hR⟩)
  · refine W.eq (g2 := F0 m 6 ls [.int (-1)]) rfl ?_
    refine lv_istore_n (lv' := [(3, .int (-1)), (0, .ref (ly_a y 5)), (1, .int i), (2, .int j)]) hK.1.1 hK.1.2.1 dX5_name_6 rfl hl (by decide) rfl (fun ls hl => ?_)
    refine lv_aload_n hK.1.1 hK.1.2.1 dX5_name_7 rfl (lv_at hl 1 rfl) ?_
    refine lv_iload_n hK.1.1 hK.1.2.1 dX5_name_8 rfl (lv_at hl 0 rfl) ?_
    refine lv_iconst (v := (-1)) hK.1.1 hK.1.2.1 dX5_name_9 (by decide) ?_
    refine lv_icmp_eq (tgt := 17) hK.1.1 hK.1.2.1 dX5_name_10 (by decide) (fun _ => ?_) (fun c => absurd (by decide) c)
    refine lv_iconst (v := 0) hK.1.1 hK.1.2.1 dX5_name_17 (by decide) ?_
    refine lv_iconst (v := 1) hK.1.1 hK.1.2.1 dX5_name_18 (by decide) ?_
    refine lv_iconst (v := 1) hK.1.1 hK.1.2.1 dX5_name_19 (by decide) ?_
    refine gk_callV0 (n := 3) (As := [.int 0, .int 1, .int 1]) (rest := []) hK (c_X5_goes l hR (a9 := 0) (b9 := 1) (c9 := 1) (m9 := 1) (x9 := 0) (by decide) (by decide)) (gk_gV q_6_9 q_6_10 q_6_11 q_1_5 q_6_12) ⟨rfl, by decide +kernel, by decide +kernel, by decide +kernel⟩ ⟨(Nat.le_of_ble_eq_true rfl), (Nat.le_of_ble_eq_true rfl)⟩ hP hS (gk_recv hK.2.2.1.1 hP hR.2.2.2.2.2.2.2.2.1 rfl) rfl hl.1 rfl (Nat.le_of_ble_eq_true rfl) dX5_name_20 ⟨(Nat.le_of_ble_eq_true rfl), (Nat.le_of_ble_eq_true rfl)⟩ (fun v G1 H locs hw hP hS => ?_)
    obtain ⟨rfl, hR⟩ := hw
    refine W.eq (g2 := F0 m 23 ls [.int 0]) rfl ?_
    refine lv_if_ne (tgt := 28) hK.1.1 hK.1.2.1 dX5_name_23 (by decide) (fun c => absurd c (by decide)) (fun _ => ?_)
    refine lv_iconst (v := 0) hK.1.1 hK.1.2.1 dX5_name_26 (by decide) ?_
    exact gk_iret0 hK.1 hret hlk hP hS (Nat.le_of_ble_eq_true rfl) (Nat.le_of_ble_eq_true rfl) dX5_name_27 (Or.inr ⟨hpn, ⟨_, rfl⟩, hR⟩)
set_option maxHeartbeats 4000000 in
set_option maxRecDepth 100000 in
theorem c_X5_throwsAway (l : Launch) {y : ly_T} {A : Nat → Prop} {G : gk_G} {td : Int32} {ru : Nat → Nat → Int32} {fr lv : Nat → Nat} {lt et tl : Nat → Int32} {hf hp : Nat → Option Nat} {ol : Nat → List Nat} {PS : Nat → Prop} {pf : Nat → Nat → Int32} {ov : Int64} {md mq mt : Int32} {mv : Nat → Nat → Int32} {k g n9 : Nat}  (hR : rp y G td ru fr lv lt et tl hf hp ol PS pf ov md mq mt mv) (hq : mq = nI (n9 + 1)) (hn : n9 + 1 ≤ 4096) (hk : k ≤ n9) (hg5 : g < 5) (hg9 : mv 14 k = nI g) (hbit : ∀ j, j < 4096 → mv 17 j = 0 ∨ mv 17 j = 1) : gk_M0 l yX5_throwsAway (Cond.code yX5_throwsAway cX5_throwsAway 3 none) 0 0 0 0 y A [.ref (ly_a y 5), .int (nI k)] G (fun v G1 => v = none ∧ rp y G1 td ru fr lv lt et tl hf hp ol PS pf ov md (nI n9) mt (m_away mv k g n9 4)) := by
  refine gk_of0 (cc := cX5_throwsAway) (maxL := 3) (ret := none) (own := RX5) (by decide +kernel) rfl rfl (Nat.le_of_ble_eq_true rfl) ?_
  intro p e s m below meth c ls hK hret hlk _ hP hS hl
  have hl : lv_has ls 3 [(0, .ref (ly_a y 5)), (1, .int (nI k))] := hl
  refine lv_aload_n hK.1.1 hK.1.2.1 dX5_throwsAway_0 rfl (lv_at hl 0 rfl) ?_
  refine mr_50 hK hP hR dX5_throwsAway_1 ?_
  refine lv_aload_n hK.1.1 hK.1.2.1 dX5_throwsAway_4 rfl (lv_at hl 0 rfl) ?_
  refine mr_53 hK hP hR dX5_throwsAway_5 ?_
  refine lv_iload_n hK.1.1 hK.1.2.1 dX5_throwsAway_8 rfl (lv_at hl 1 rfl) ?_
  refine mr_ild hK hP hR 14 (by decide) rfl (j := k) (show k < 4096 by omega) dX5_throwsAway_9 ?_
  rw [hg9]
  refine lv_dup2_11 hK.1.1 hK.1.2.1 dX5_throwsAway_10 rfl rfl ?_
  refine mr_ild hK hP hR 13 (by decide) rfl (j := g) hg5 dX5_throwsAway_11 ?_
  refine lv_aload_n hK.1.1 hK.1.2.1 dX5_throwsAway_12 rfl (lv_at hl 0 rfl) ?_
  refine mr_56 hK hP hR dX5_throwsAway_13 ?_
  refine lv_iload_n hK.1.1 hK.1.2.1 dX5_throwsAway_16 rfl (lv_at hl 1 rfl) ?_
  refine mr_ild hK hP hR 15 (by decide) rfl (j := k) (show k < 4096 by omega) dX5_throwsAway_17 ?_
  refine lv_iadd hK.1.1 hK.1.2.1 dX5_throwsAway_18 ?_
  refine mw_ist hK hP hS hR 13 (by decide) rfl (j := g) hg5 dX5_throwsAway_19 (fun H locs G hP hS hR => ?_)
  refine lv_aload_n hK.1.1 hK.1.2.1 dX5_throwsAway_20 rfl (lv_at hl 0 rfl) ?_
  refine lv_dup hK.1.1 hK.1.2.1 dX5_throwsAway_21 rfl ?_
  refine mr_100 hK hP hR dX5_throwsAway_22 ?_
  rw [hq]
  refine lv_iconst (v := 1) hK.1.1 hK.1.2.1 dX5_throwsAway_25 (by decide) ?_
  refine lv_isub hK.1.1 hK.1.2.1 dX5_throwsAway_26 ?_
  rw [nI_pred]
  refine mw_100 hK hP hS hR dX5_throwsAway_27 (fun H locs G hP hS hR => ?_)
  refine lv_iload_n hK.1.1 hK.1.2.1 dX5_throwsAway_30 rfl (lv_at hl 1 rfl) ?_
  refine lv_istore_n (lv' := [(2, .int (nI k)), (0, .ref (ly_a y 5)), (1, .int (nI k))]) hK.1.1 hK.1.2.1 dX5_throwsAway_31 rfl hl (by decide) rfl (fun ls hl => ?_)
  have loop : ∀ (dd : Nat) (c9 : Nat) (ls : Array Slot) (H : Heap) (locs : List Loc) (G : gk_G), n9 - c9 = dd → (k ≤ c9) → (c9 ≤ n9) → gk_P (ly_D y) A G H → va_S A s.heap H locs → rp y G td ru fr lv lt et tl hf hp ol PS pf ov md (nI n9) mt (m_away mv k g c9 0) → lv_has ls 3 [(2, .int (nI c9)), (0, .ref (ly_a y 5)), (1, .int (nI k))] → W p l e { frames := 0, cells := 0, slots := 0, locals := 0 } s m [.ref (ly_a y 5), .int (nI k)].toArray below meth c H locs 0 0 (MQ below (gk_Q y A (fun v G1 => v = none ∧ rp y G1 td ru fr lv lt et tl hf hp ol PS pf ov md (nI n9) mt (m_away mv k g n9 4))) [.ref (ly_a y 5), .int (nI k)].toArray s 0 0 A) (F0 m 32 ls []) := by
    intro dd
    induction dd using Nat.strongRecOn with
    | _ dd ih =>
    intro c9 ls H locs G hdd hc1 hc2 hP hS hR hl
    refine lv_iload_n hK.1.1 hK.1.2.1 dX5_throwsAway_32 rfl (lv_at hl 0 rfl) ?_
    refine lv_aload_n hK.1.1 hK.1.2.1 dX5_throwsAway_33 rfl (lv_at hl 1 rfl) ?_
    refine mr_100 hK hP hR dX5_throwsAway_34 ?_
    refine lv_icmp_ge (tgt := 102) hK.1.1 hK.1.2.1 dX5_throwsAway_37 (by decide) (fun c37_1 => ?_) (fun c37_1 => ?_)
    · have hkn : n9 = c9 := Nat.le_antisymm ((nI_leI (by omega) (by omega)).mp c37_1) hc2
      subst hkn
      refine lv_iconst (v := 0) hK.1.1 hK.1.2.1 dX5_throwsAway_102 (by decide) ?_
      refine lv_istore_n (lv' := [(2, .int 0), (0, .ref (ly_a y 5)), (1, .int (nI k))]) hK.1.1 hK.1.2.1 dX5_throwsAway_103 rfl hl (by decide) rfl (fun ls hl => ?_)
      have loop2 : ∀ (dd : Nat) (w9 : Nat) (ls : Array Slot) (H : Heap) (locs : List Loc) (G : gk_G), 4 - w9 = dd → (w9 ≤ 4) → gk_P (ly_D y) A G H → va_S A s.heap H locs → rp y G td ru fr lv lt et tl hf hp ol PS pf ov md (nI n9) mt (m_away mv k g n9 w9) → lv_has ls 3 [(2, .int (nI w9)), (0, .ref (ly_a y 5)), (1, .int (nI k))] → W p l e { frames := 0, cells := 0, slots := 0, locals := 0 } s m [.ref (ly_a y 5), .int (nI k)].toArray below meth c H locs 0 0 (MQ below (gk_Q y A (fun v G1 => v = none ∧ rp y G1 td ru fr lv lt et tl hf hp ol PS pf ov md (nI n9) mt (m_away mv k g n9 4))) [.ref (ly_a y 5), .int (nI k)].toArray s 0 0 A) (F0 m 104 ls []) := by
        intro dd
        induction dd using Nat.strongRecOn with
        | _ dd ih =>
        intro w9 ls H locs G hdd hw4 hP hS hR hl
        refine lv_iload_n hK.1.1 hK.1.2.1 dX5_throwsAway_104 rfl (lv_at hl 0 rfl) ?_
        refine lv_iconst (v := 4) hK.1.1 hK.1.2.1 dX5_throwsAway_105 (by decide) ?_
        refine lv_icmp_ge (tgt := 139) hK.1.1 hK.1.2.1 dX5_throwsAway_106 (by decide) (fun c106_2 => ?_) (fun c106_2 => ?_)
        · have hw5 : w9 = 4 := Nat.le_antisymm hw4 ((nI_leI (a := 4) (by omega) (by omega)).mp c106_2)
          subst hw5
          exact gk_vret0 hK.1 hret hlk hP hS (Nat.le_of_ble_eq_true rfl) (Nat.le_of_ble_eq_true rfl) dX5_throwsAway_139 (⟨rfl, hR⟩)
        · have hw5 : w9 < 4 := Nat.lt_of_not_le (fun h => c106_2 (nI_le (a := 4) h (by omega)))
          refine lv_aload_n hK.1.1 hK.1.2.1 dX5_throwsAway_109 rfl (lv_at hl 1 rfl) ?_
          refine mr_68 hK hP hR dX5_throwsAway_110 ?_
          refine lv_iload_n hK.1.1 hK.1.2.1 dX5_throwsAway_113 rfl (lv_at hl 0 rfl) ?_
          refine lv_dup2_11 hK.1.1 hK.1.2.1 dX5_throwsAway_114 rfl rfl ?_
          refine mr_ild hK hP hR 19 (by decide) rfl (j := w9) hw5 dX5_throwsAway_115 ?_
          rw [show ((m_away mv k g n9 w9) 19 w9) = mv 19 w9 by simp [m_away]]
          refine lv_aload_n hK.1.1 hK.1.2.1 dX5_throwsAway_116 rfl (lv_at hl 1 rfl) ?_
          refine mr_68 hK hP hR dX5_throwsAway_117 ?_
          refine lv_iload_n hK.1.1 hK.1.2.1 dX5_throwsAway_120 rfl (lv_at hl 0 rfl) ?_
          refine mr_ild hK hP hR 19 (by decide) rfl (j := w9) hw5 dX5_throwsAway_121 ?_
          rw [show ((m_away mv k g n9 w9) 19 w9) = mv 19 w9 by simp [m_away]]
          refine lv_iload_n hK.1.1 hK.1.2.1 dX5_throwsAway_122 rfl (lv_at hl 2 rfl) ?_
          refine lv_icmp_le (tgt := 130) hK.1.1 hK.1.2.1 dX5_throwsAway_123 (by decide) (fun c123_3 => ?_) (fun c123_3 => ?_)
          · refine lv_iconst (v := 0) hK.1.1 hK.1.2.1 dX5_throwsAway_130 (by decide) ?_
            refine lv_isub hK.1.1 hK.1.2.1 dX5_throwsAway_131 ?_
            refine mw_ist hK hP hS hR 19 (by decide) rfl (j := w9) hw5 dX5_throwsAway_132 (fun H locs G hP hS hR => ?_)
            refine lv_iinc (v := nI (w9 + 1)) (lv' := [(2, .int (nI (w9 + 1))), (0, .ref (ly_a y 5)), (1, .int (nI k))]) hK.1.1 hK.1.2.1 dX5_throwsAway_133 hl (k := 0) rfl (nI_1 w9) (by decide) rfl (fun ls hl => ?_)
            refine lv_goto (tgt := 104) hK.1.1 hK.1.2.1 dX5_throwsAway_136 (by decide) ?_
            exact ih (4 - (w9 + 1)) (by omega)  (w9 + 1) ls _ _ _ rfl (by omega) hP hS (by rw [← m_away_h _ _ _ _ w9 _ (by rw [if_neg (Int32.not_lt.mpr c123_3)])]; exact hR) (lv_sub hl [0, 1, 2] rfl)
          · refine lv_iconst (v := 1) hK.1.1 hK.1.2.1 dX5_throwsAway_126 (by decide) ?_
            refine lv_goto (tgt := 131) hK.1.1 hK.1.2.1 dX5_throwsAway_127 (by decide) ?_
            refine lv_isub hK.1.1 hK.1.2.1 dX5_throwsAway_131 ?_
            refine mw_ist hK hP hS hR 19 (by decide) rfl (j := w9) hw5 dX5_throwsAway_132 (fun H locs G hP hS hR => ?_)
            refine lv_iinc (v := nI (w9 + 1)) (lv' := [(2, .int (nI (w9 + 1))), (0, .ref (ly_a y 5)), (1, .int (nI k))]) hK.1.1 hK.1.2.1 dX5_throwsAway_133 hl (k := 0) rfl (nI_1 w9) (by decide) rfl (fun ls hl => ?_)
            refine lv_goto (tgt := 104) hK.1.1 hK.1.2.1 dX5_throwsAway_136 (by decide) ?_
            exact ih (4 - (w9 + 1)) (by omega)  (w9 + 1) ls _ _ _ rfl (by omega) hP hS (by rw [← m_away_h _ _ _ _ w9 _ (by rw [if_pos (Int32.not_le.mp c123_3)])]; exact hR) (lv_sub hl [0, 1, 2] rfl)
      exact loop2 _ 0 ls _ _ _ rfl (by omega) hP hS hR (lv_sub hl [0, 1, 2] rfl)
    · have hkn : c9 < n9 := Nat.lt_of_not_le (fun h => c37_1 (nI_le h (by omega)))
      refine lv_aload_n hK.1.1 hK.1.2.1 dX5_throwsAway_40 rfl (lv_at hl 1 rfl) ?_
      refine mr_53 hK hP hR dX5_throwsAway_41 ?_
      refine lv_iload_n hK.1.1 hK.1.2.1 dX5_throwsAway_44 rfl (lv_at hl 0 rfl) ?_
      refine lv_aload_n hK.1.1 hK.1.2.1 dX5_throwsAway_45 rfl (lv_at hl 1 rfl) ?_
      refine mr_53 hK hP hR dX5_throwsAway_46 ?_
      refine lv_iload_n hK.1.1 hK.1.2.1 dX5_throwsAway_49 rfl (lv_at hl 0 rfl) ?_
      refine lv_iconst (v := 1) hK.1.1 hK.1.2.1 dX5_throwsAway_50 (by decide) ?_
      refine lv_iadd hK.1.1 hK.1.2.1 dX5_throwsAway_51 ?_
      rw [nI_1]
      refine mr_ild hK hP hR 14 (by decide) rfl (j := (c9 + 1)) (show c9 + 1 < 4096 by omega) dX5_throwsAway_52 ?_
      rw [show ((m_away mv k g c9 0) 14 (c9 + 1)) = mv 14 (c9 + 1) by simp [rp_u2, m_away, show ¬ c9 + 1 < c9 by omega]]
      refine mw_ist hK hP hS hR 14 (by decide) rfl (j := c9) (show c9 < 4096 by omega) dX5_throwsAway_53 (fun H locs G hP hS hR => ?_)
      refine lv_aload_n hK.1.1 hK.1.2.1 dX5_throwsAway_54 rfl (lv_at hl 1 rfl) ?_
      refine mr_56 hK hP hR dX5_throwsAway_55 ?_
      refine lv_iload_n hK.1.1 hK.1.2.1 dX5_throwsAway_58 rfl (lv_at hl 0 rfl) ?_
      refine lv_aload_n hK.1.1 hK.1.2.1 dX5_throwsAway_59 rfl (lv_at hl 1 rfl) ?_
      refine mr_56 hK hP hR dX5_throwsAway_60 ?_
      refine lv_iload_n hK.1.1 hK.1.2.1 dX5_throwsAway_63 rfl (lv_at hl 0 rfl) ?_
      refine lv_iconst (v := 1) hK.1.1 hK.1.2.1 dX5_throwsAway_64 (by decide) ?_
      refine lv_iadd hK.1.1 hK.1.2.1 dX5_throwsAway_65 ?_
      rw [nI_1]
      refine mr_ild hK hP hR 15 (by decide) rfl (j := (c9 + 1)) (show c9 + 1 < 4096 by omega) dX5_throwsAway_66 ?_
      rw [show ((rp_u2 (m_away mv k g c9 0) 14 c9 (mv 14 (c9 + 1))) 15 (c9 + 1)) = mv 15 (c9 + 1) by simp [rp_u2, m_away, show ¬ c9 + 1 < c9 by omega]]
      refine mw_ist hK hP hS hR 15 (by decide) rfl (j := c9) (show c9 < 4096 by omega) dX5_throwsAway_67 (fun H locs G hP hS hR => ?_)
      refine lv_aload_n hK.1.1 hK.1.2.1 dX5_throwsAway_68 rfl (lv_at hl 1 rfl) ?_
      refine mr_59 hK hP hR dX5_throwsAway_69 ?_
      refine lv_iload_n hK.1.1 hK.1.2.1 dX5_throwsAway_72 rfl (lv_at hl 0 rfl) ?_
      refine lv_aload_n hK.1.1 hK.1.2.1 dX5_throwsAway_73 rfl (lv_at hl 1 rfl) ?_
      refine mr_59 hK hP hR dX5_throwsAway_74 ?_
      refine lv_iload_n hK.1.1 hK.1.2.1 dX5_throwsAway_77 rfl (lv_at hl 0 rfl) ?_
      refine lv_iconst (v := 1) hK.1.1 hK.1.2.1 dX5_throwsAway_78 (by decide) ?_
      refine lv_iadd hK.1.1 hK.1.2.1 dX5_throwsAway_79 ?_
      rw [nI_1]
      refine mr_ild hK hP hR 16 (by decide) rfl (j := (c9 + 1)) (show c9 + 1 < 4096 by omega) dX5_throwsAway_80 ?_
      rw [show ((rp_u2 (rp_u2 (m_away mv k g c9 0) 14 c9 (mv 14 (c9 + 1))) 15 c9 (mv 15 (c9 + 1))) 16 (c9 + 1)) = mv 16 (c9 + 1) by simp [rp_u2, m_away, show ¬ c9 + 1 < c9 by omega]]
      refine mw_ist hK hP hS hR 16 (by decide) rfl (j := c9) (show c9 < 4096 by omega) dX5_throwsAway_81 (fun H locs G hP hS hR => ?_)
      refine lv_aload_n hK.1.1 hK.1.2.1 dX5_throwsAway_82 rfl (lv_at hl 1 rfl) ?_
      refine mr_62 hK hP hR dX5_throwsAway_83 ?_
      refine lv_iload_n hK.1.1 hK.1.2.1 dX5_throwsAway_86 rfl (lv_at hl 0 rfl) ?_
      refine lv_aload_n hK.1.1 hK.1.2.1 dX5_throwsAway_87 rfl (lv_at hl 1 rfl) ?_
      refine mr_62 hK hP hR dX5_throwsAway_88 ?_
      refine lv_iload_n hK.1.1 hK.1.2.1 dX5_throwsAway_91 rfl (lv_at hl 0 rfl) ?_
      refine lv_iconst (v := 1) hK.1.1 hK.1.2.1 dX5_throwsAway_92 (by decide) ?_
      refine lv_iadd hK.1.1 hK.1.2.1 dX5_throwsAway_93 ?_
      rw [nI_1]
      refine mr_zld hK hP hR 17 (by decide) rfl (j := (c9 + 1)) (show c9 + 1 < 4096 by omega) dX5_throwsAway_94 ?_
      rw [show ((rp_u2 (rp_u2 (rp_u2 (m_away mv k g c9 0) 14 c9 (mv 14 (c9 + 1))) 15 c9 (mv 15 (c9 + 1))) 16 c9 (mv 16 (c9 + 1))) 17 (c9 + 1)) = mv 17 (c9 + 1) by simp [rp_u2, m_away, show ¬ c9 + 1 < c9 by omega]]
      refine mw_zst hK hP hS hR 17 (by decide) rfl (j := c9) (show c9 < 4096 by omega) (hbit _ (show c9 + 1 < 4096 by omega)) dX5_throwsAway_95 (fun H locs G hP hS hR => ?_)
      refine lv_iinc (v := nI (c9 + 1)) (lv' := [(2, .int (nI (c9 + 1))), (0, .ref (ly_a y 5)), (1, .int (nI k))]) hK.1.1 hK.1.2.1 dX5_throwsAway_96 hl (k := 0) rfl (nI_1 c9) (by decide) rfl (fun ls hl => ?_)
      refine lv_goto (tgt := 32) hK.1.1 hK.1.2.1 dX5_throwsAway_99 (by decide) ?_
      exact ih (n9 - (c9 + 1)) (by omega)  (c9 + 1) ls _ _ _ rfl (by omega) (by omega) hP hS (by rw [← m_away_s _ _ _ _ hc1]; exact hR) (lv_sub hl [0, 1, 2] rfl)
  exact loop _ k ls _ _ _ rfl (Nat.le_refl k) (by omega) hP hS (by rw [m_away_0]; exact hR) (lv_sub hl [0, 1, 2] rfl)
