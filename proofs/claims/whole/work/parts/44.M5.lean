/-! the reference: a run -/
theorem m_thr_row {f r : Nat} {md : Int32} {i j : Nat} (hi : i < 13 ∨ i = 18) : ∀ (k : Nat) (mv : Nat → Nat → Int32) (n p : Nat) (left : Int32) (s : Nat), (m_thr f r md k mv n p left s).1 i j = mv i j := by
  intro k
  induction k with
  | zero => intro mv n p left s; rfl
  | succ k ih =>
    intro mv n p left s
    simp only [m_thr]
    split
    · rw [ih]
      simp only [m_away]
      rw [if_neg (fun h => by omega), if_neg (fun h => by omega), if_neg (fun h => by omega)]
    · rw [ih]
theorem m_thr_n {f r : Nat} {md : Int32} : ∀ (k : Nat) (mv : Nat → Nat → Int32) (n p : Nat) (left : Int32) (s : Nat), (m_thr f r md k mv n p left s).2.1 ≤ n := by
  intro k
  induction k with
  | zero => intro mv n p left s; exact Nat.le_refl _
  | succ k ih =>
    intro mv n p left s
    simp only [m_thr]
    split
    · exact Nat.le_trans (ih _ _ _ _ _) (Nat.sub_le _ _)
    · exact ih _ _ _ _ _
theorem m_thr_bit {f r : Nat} {md : Int32} : ∀ (k : Nat) (mv : Nat → Nat → Int32) (n p : Nat) (left : Int32) (s : Nat), n ≤ 4096 → (∀ j, j < 4096 → mv 17 j = 0 ∨ mv 17 j = 1) → ∀ j, j < 4096 → (m_thr f r md k mv n p left s).1 17 j = 0 ∨ (m_thr f r md k mv n p left s).1 17 j = 1 := by
  intro k
  induction k with
  | zero => intro mv n p left s _ h; exact h
  | succ k ih =>
    intro mv n p left s hn h
    simp only [m_thr]
    split
    · refine ih _ _ _ _ _ (by omega) ?_
      by_cases h0 : n = 0
      · subst h0; exact m_away_bit h (by decide)
      · exact m_away_bit h (by omega)
    · exact ih _ _ _ _ _ hn h
theorem m_tb_row {mv : Nat → Nat → Int32} {f r n : Nat} {md : Int32} {i j : Nat} (hi : i < 10 ∨ i = 18 ∨ (i < 13 ∧ j ≠ f)) : m_tb mv f r n md i j = mv i j := by
  have h1 : ∀ mv2 : Nat → Nat → Int32, m_sqz mv2 f r n i j = mv2 i j := fun mv2 => if_neg (fun h => absurd h.1 (by omega))
  have h2 : ∀ mv2 : Nat → Nat → Int32, m_b2 mv2 f md i j = mv2 i j := fun mv2 => by
    show rp_u2 (rp_u2 (rp_u2 mv2 10 f 0) 11 f md) 12 f 1 i j = mv2 i j
    rw [rp_u2n _ _ (by omega), rp_u2n _ _ (by omega), rp_u2n _ _ (by omega)]
  have h3 : ∀ mv2 : Nat → Nat → Int32, m_hd mv2 f n 4 i j = mv2 i j := fun mv2 => if_neg (fun h => absurd h.1 (by omega))
  show m_sqz (m_b2 (m_hd (m_b1 mv f n md) f n 4) f md) f r n i j = mv i j
  rw [h1, h2, h3]
  show rp_u2 (rp_u2 (rp_u2 (rp_u2 mv 14 n (nI f)) 15 n (mv 10 f)) 16 n md) 17 n 0 i j = mv i j
  rw [rp_u2n _ _ (by omega), rp_u2n _ _ (by omega), rp_u2n _ _ (by omega), rp_u2n _ _ (by omega)]
theorem m_turn_row {mv : Nat → Nat → Int32} {f r n : Nat} {md : Int32} {i j : Nat} (hi : i < 10 ∨ i = 18 ∨ (i < 13 ∧ j ≠ f)) : (m_turn mv f r n md).1 i j = mv i j := by
  rw [m_turn, m_thr_row (by omega), m_tb_row hi]
theorem m_turn_n {mv : Nat → Nat → Int32} {f r n : Nat} {md : Int32} : (m_turn mv f r n md).2.1 ≤ n + 1 := m_thr_n _ _ _ _ _ _
theorem m_turn_bit {mv : Nat → Nat → Int32} {f r n : Nat} {md : Int32} (hn : n + 1 ≤ 4096) (h : ∀ j, j < 4096 → mv 17 j = 0 ∨ mv 17 j = 1) : ∀ j, j < 4096 → (m_turn mv f r n md).1 17 j = 0 ∨ (m_turn mv f r n md).1 17 j = 1 := m_thr_bit _ _ _ _ _ _ hn (m_tb_bit h)
/-- the first k files of a run: the rows, how many places, the bits -/
def m_run1 (mr ml : Nat → Nat) (e : Nat) (mv : Nat → Nat → Int32) (n : Nat) : Nat → (Nat → Nat → Int32) × Nat × Int32
  | 0 => (mv, n, 0)
  | k + 1 => if m_due (m_run1 mr ml e mv n k).1 k (mr k) (ml k) e = true then ((m_turn (m_run1 mr ml e mv n k).1 k (mr k) (m_run1 mr ml e mv n k).2.1 (nI e)).1, (m_turn (m_run1 mr ml e mv n k).1 k (mr k) (m_run1 mr ml e mv n k).2.1 (nI e)).2.1, (m_run1 mr ml e mv n k).2.2 ||| (1 <<< (nI k &&& 31))) else m_run1 mr ml e mv n k
/-- one of the first n files is of the rule r and among the bits -/
def m_amg (mv : Nat → Nat → Int32) (b : Int32) (r n : Nat) : Bool := (List.range n).any (fun f => decide (mv 9 f = nI r) && decide (t_bit b f = 1))
theorem m_amg_s (mv : Nat → Nat → Int32) (b : Int32) (r n : Nat) : m_amg mv b r (n + 1) = (m_amg mv b r n || (decide (mv 9 n = nI r) && decide (t_bit b n = 1))) := by
  simp [m_amg, List.range_succ, List.any_append]
/-- the first w holders are told, if they hold a part of a file of the rule r -/
def m_tlw (mv : Nat → Nat → Int32) (B : Bool) (r w : Nat) : Nat → Nat → Int32 := fun i j => if i = 19 ∧ j < w ∧ B = true ∧ ¬ mv 8 r = 0 ∧ ¬ mv 18 j = -1 ∧ mv 9 (mv 18 j).toNatClampNeg = nI r then -1 else mv i j
theorem m_tlw_0 (mv : Nat → Nat → Int32) (B : Bool) (r : Nat) : m_tlw mv B r 0 = mv := by
  funext i j
  simp [m_tlw]
theorem m_tlw_s (mv : Nat → Nat → Int32) (B : Bool) (r w : Nat) (x : Int32) (hx : x = if B = true ∧ ¬ mv 8 r = 0 ∧ ¬ mv 18 w = -1 ∧ mv 9 (mv 18 w).toNatClampNeg = nI r then -1 else mv 19 w) : rp_u2 (m_tlw mv B r w) 19 w x = m_tlw mv B r (w + 1) := by
  funext i j
  subst hx
  simp only [m_tlw, rp_u2]
  by_cases hj : j = w
  · subst hj
    by_cases h9 : i = 19
    · subst h9; simp
    · simp [h9]
  · have e : (j < w + 1) = (j < w) := propext (by omega)
    simp only [hj, and_false, if_false, e]
def m_tells (mv : Nat → Nat → Int32) (b : Int32) : Nat → (Nat → Nat → Int32)
  | 0 => mv
  | r + 1 => m_tlw (m_tells mv b r) (m_amg (m_tells mv b r) b r 5) r 4
theorem m_tells_row {mv : Nat → Nat → Int32} {b : Int32} {i j : Nat} (hi : i ≠ 19) : ∀ r, m_tells mv b r i j = mv i j := by
  intro r
  induction r with
  | zero => rfl
  | succ r ih =>
    simp only [m_tells, m_tlw]
    rw [if_neg (fun h => hi h.1), ih]
set_option maxHeartbeats 4000000 in
set_option maxRecDepth 100000 in
theorem c_X5_turn (l : Launch) {y : ly_T} {A : Nat → Prop} {G : gk_G} {td : Int32} {ru : Nat → Nat → Int32} {fr lv : Nat → Nat} {lt et tl : Nat → Int32} {hf hp : Nat → Option Nat} {ol : Nat → List Nat} {PS : Nat → Prop} {pf : Nat → Nat → Int32} {ov : Int64} {md mq mt : Int32} {mv : Nat → Nat → Int32} {i : Int32} {n9 : Nat} {mr : Nat → Nat}  (hR : rp y G td ru fr lv lt et tl hf hp ol PS pf ov md mq mt mv) (hq : mq = nI n9) (hn : n9 + 1 ≤ 4096) (hr9 : ∀ f, f < 5 → mr f < 3 ∧ mv 9 f = nI (mr f)) (hbit : ∀ j, j < 4096 → mv 17 j = 0 ∨ mv 17 j = 1) : gk_M0 l yX5_turn (Cond.code yX5_turn cX5_turn 2 (some .int)) 3 90 0 0 y A [.ref (ly_a y 5), .int i] G (fun v G1 => (∃ f, f < 5 ∧ i = nI f ∧ v = some (.int (nI (m_turn mv f (mr f) n9 md).2.2)) ∧ rp y G1 td ru fr lv lt et tl hf hp ol PS pf ov md (nI (m_turn mv f (mr f) n9 md).2.1) 0 (m_turn mv f (mr f) n9 md).1) ∨ (rg_out i 5 ∧ (∃ x, v = some (.int x)) ∧ rp y G1 td ru fr lv lt et tl hf hp ol PS pf ov md mq 1 mv)) := by
  refine gk_of0 (cc := cX5_turn) (maxL := 2) (ret := (some .int)) (own := RX5) (by decide +kernel) rfl rfl (Nat.le_of_ble_eq_true rfl) ?_
  intro p e s m below meth c ls hK hret hlk _ hP hS hl
  have hl : lv_has ls 2 [(0, .ref (ly_a y 5)), (1, .int i)] := hl
  refine lv_aload_n hK.1.1 hK.1.2.1 dX5_turn_0 rfl (lv_at hl 0 rfl) ?_
  refine lv_iload_n hK.1.1 hK.1.2.1 dX5_turn_1 rfl (lv_at hl 1 rfl) ?_
  refine gk_callS0 (n := 1) (As := [.int i]) (rest := [.ref (ly_a y 5)]) hK (c_X5_isFile l hR (i := i)) (gk_gS q_8_3 q_8_4 q_1_5 q_8_5) ⟨by decide +kernel, by decide +kernel, by decide +kernel⟩ ⟨(Nat.le_of_ble_eq_true rfl), (Nat.le_of_ble_eq_true rfl)⟩ hP hS rfl hl.1 rfl (Nat.le_of_ble_eq_true rfl) dX5_turn_2 ⟨(Nat.le_of_ble_eq_true rfl), (Nat.le_of_ble_eq_true rfl)⟩ (fun v G1 H locs hw hP hS => ?_)
  obtain ⟨hw, hG9⟩ := hw
  rw [hG9] at hP
  rcases hw with ⟨f_1, hf_1, rfl, rfl⟩ | ⟨ho_2, rfl⟩
  · refine W.eq (g2 := F0 m 5 ls [.int 1, .ref (ly_a y 5)]) rfl ?_
    refine lv_iconst (v := 1) hK.1.1 hK.1.2.1 dX5_turn_5 (by decide) ?_
    refine lv_iconst (v := 1) hK.1.1 hK.1.2.1 dX5_turn_6 (by decide) ?_
    refine gk_callV0 (n := 3) (As := [.int 1, .int 1, .int 1]) (rest := []) hK (c_X5_goes l hR (a9 := 1) (b9 := 1) (c9 := 1) (m9 := 0) (x9 := 1) (by decide) (by decide)) (gk_gV q_6_9 q_6_10 q_6_11 q_1_5 q_6_12) ⟨rfl, by decide +kernel, by decide +kernel, by decide +kernel⟩ ⟨(Nat.le_of_ble_eq_true rfl), (Nat.le_of_ble_eq_true rfl)⟩ hP hS (gk_recv hK.2.2.1.1 hP hR.2.2.2.2.2.2.2.2.1 rfl) rfl hl.1 rfl (Nat.le_of_ble_eq_true rfl) dX5_turn_7 ⟨(Nat.le_of_ble_eq_true rfl), (Nat.le_of_ble_eq_true rfl)⟩ (fun v G1 H locs hw hP hS => ?_)
    obtain ⟨rfl, hR⟩ := hw
    refine W.eq (g2 := F0 m 10 ls [.int 1]) rfl ?_
    refine lv_if_eq (tgt := 21) hK.1.1 hK.1.2.1 dX5_turn_10 (by decide) (fun c => absurd c (by decide)) (fun _ => ?_)
    refine lv_aload_n hK.1.1 hK.1.2.1 dX5_turn_13 rfl (lv_at hl 0 rfl) ?_
    refine lv_iload_n hK.1.1 hK.1.2.1 dX5_turn_14 rfl (lv_at hl 1 rfl) ?_
    refine gk_callV0 (n := 1) (As := [.int (nI f_1)]) (rest := []) hK (c_X5_turns l hR (f := f_1) (r := mr f_1) (n9 := n9) hf_1 (hr9 f_1 hf_1).1 (hr9 f_1 hf_1).2 hq hn hbit) (gk_gV q_17_14 q_17_15 q_17_16 q_1_5 q_17_17) ⟨rfl, by decide +kernel, by decide +kernel, by decide +kernel⟩ ⟨(Nat.le_of_ble_eq_true rfl), (Nat.le_of_ble_eq_true rfl)⟩ hP hS (gk_recv hK.2.2.1.1 hP hR.2.2.2.2.2.2.2.2.1 rfl) rfl hl.1 rfl (Nat.le_of_ble_eq_true rfl) dX5_turn_15 ⟨(Nat.le_of_ble_eq_true rfl), (Nat.le_of_ble_eq_true rfl)⟩ (fun v G1 H locs hw hP hS => ?_)
    obtain ⟨rfl, hR⟩ := hw
    refine W.eq (g2 := F0 m 18 ls [.int (nI (m_turn mv f_1 (mr f_1) n9 md).2.2)]) rfl ?_
    refine lv_goto (tgt := 22) hK.1.1 hK.1.2.1 dX5_turn_18 (by decide) ?_
    exact gk_iret0 hK.1 hret hlk hP hS (Nat.le_of_ble_eq_true rfl) (Nat.le_of_ble_eq_true rfl) dX5_turn_22 (Or.inl ⟨f_1, hf_1, rfl, rfl, hR⟩)
  · refine W.eq (g2 := F0 m 5 ls [.int 0, .ref (ly_a y 5)]) rfl ?_
    refine lv_iconst (v := 1) hK.1.1 hK.1.2.1 dX5_turn_5 (by decide) ?_
    refine lv_iconst (v := 1) hK.1.1 hK.1.2.1 dX5_turn_6 (by decide) ?_
    refine gk_callV0 (n := 3) (As := [.int 0, .int 1, .int 1]) (rest := []) hK (c_X5_goes l hR (a9 := 0) (b9 := 1) (c9 := 1) (m9 := 1) (x9 := 0) (by decide) (by decide)) (gk_gV q_6_9 q_6_10 q_6_11 q_1_5 q_6_12) ⟨rfl, by decide +kernel, by decide +kernel, by decide +kernel⟩ ⟨(Nat.le_of_ble_eq_true rfl), (Nat.le_of_ble_eq_true rfl)⟩ hP hS (gk_recv hK.2.2.1.1 hP hR.2.2.2.2.2.2.2.2.1 rfl) rfl hl.1 rfl (Nat.le_of_ble_eq_true rfl) dX5_turn_7 ⟨(Nat.le_of_ble_eq_true rfl), (Nat.le_of_ble_eq_true rfl)⟩ (fun v G1 H locs hw hP hS => ?_)
    obtain ⟨rfl, hR⟩ := hw
    refine W.eq (g2 := F0 m 10 ls [.int 0]) rfl ?_
    refine lv_if_eq (tgt := 21) hK.1.1 hK.1.2.1 dX5_turn_10 (by decide) (fun _ => ?_) (fun c => absurd c (by decide))
    refine lv_iconst (v := 0) hK.1.1 hK.1.2.1 dX5_turn_21 (by decide) ?_
    exact gk_iret0 hK.1 hret hlk hP hS (Nat.le_of_ble_eq_true rfl) (Nat.le_of_ble_eq_true rfl) dX5_turn_22 (Or.inr ⟨ho_2, ⟨_, rfl⟩, hR⟩)
theorem m_run1_row {mr ml : Nat → Nat} {e n : Nat} {mv : Nat → Nat → Int32} {i j k : Nat} (hi : i < 10 ∨ i = 18 ∨ (i < 13 ∧ k ≤ j)) : (m_run1 mr ml e mv n k).1 i j = mv i j := by
  induction k with
  | zero => rfl
  | succ k ih =>
    simp only [m_run1]
    split
    · rw [m_turn_row (by omega), ih (by omega)]
    · exact ih (by omega)
theorem m_run1_ok {mr ml : Nat → Nat} {e n : Nat} {mv : Nat → Nat → Int32} (hn : n + 5 ≤ 4096) (h : ∀ j, j < 4096 → mv 17 j = 0 ∨ mv 17 j = 1) : ∀ k, k ≤ 5 → (m_run1 mr ml e mv n k).2.1 ≤ n + k ∧ ∀ j, j < 4096 → (m_run1 mr ml e mv n k).1 17 j = 0 ∨ (m_run1 mr ml e mv n k).1 17 j = 1 := by
  intro k
  induction k with
  | zero => intro _; exact ⟨Nat.le_refl _, h⟩
  | succ k ih =>
    intro hk
    obtain ⟨h1, h2⟩ := ih (by omega)
    simp only [m_run1]
    split
    · exact ⟨Nat.le_trans m_turn_n (by omega), m_turn_bit (by omega) h2⟩
    · exact ⟨by omega, h2⟩
set_option maxHeartbeats 4000000 in
set_option maxRecDepth 100000 in
theorem c_X5_run (l : Launch) {y : ly_T} {A : Nat → Prop} {G : gk_G} {td : Int32} {ru : Nat → Nat → Int32} {fr lv : Nat → Nat} {lt et tl : Nat → Int32} {hf hp : Nat → Option Nat} {ol : Nat → List Nat} {PS : Nat → Prop} {pf : Nat → Nat → Int32} {ov : Int64} {md mq mt : Int32} {mv : Nat → Nat → Int32} {n9 e9 : Nat} {mr ml : Nat → Nat}  (hR : rp y G td ru fr lv lt et tl hf hp ol PS pf ov md mq mt mv) (hq : mq = nI n9) (hn : n9 + 5 ≤ 4096) (hr9 : ∀ f, f < 5 → mr f < 3 ∧ mv 9 f = nI (mr f)) (ha9 : ∀ f, f < 5 → ml f ≤ 10000 ∧ mv 11 f = nI (ml f)) (hd9 : md = nI e9) (he9 : e9 ≤ 5000) (h18 : ∀ h, h < 4 → mv 18 h = -1 ∨ ∃ f, f < 5 ∧ mv 18 h = nI f) (hbit : ∀ j, j < 4096 → mv 17 j = 0 ∨ mv 17 j = 1) : gk_M0 l yX5_run (Cond.code yX5_run cX5_run 6 (some .int)) 3 110 0 0 y A [.ref (ly_a y 5)] G (fun v G1 => v = some (.int (m_run1 mr ml e9 mv n9 5).2.2) ∧ rp y G1 td ru fr lv lt et tl hf hp ol PS pf ov md (nI (m_run1 mr ml e9 mv n9 5).2.1) 0 (m_tells (m_run1 mr ml e9 mv n9 5).1 (m_run1 mr ml e9 mv n9 5).2.2 3)) := by
  refine gk_of0 (cc := cX5_run) (maxL := 6) (ret := (some .int)) (own := RX5) (by decide +kernel) rfl rfl (Nat.le_of_ble_eq_true rfl) ?_
  intro p e s m below meth c ls hK hret hlk _ hP hS hl
  have hl : lv_has ls 6 [(0, .ref (ly_a y 5))] := hl
  subst hd9
  subst hq
  refine lv_aload_n hK.1.1 hK.1.2.1 dX5_run_0 rfl (lv_at hl 0 rfl) ?_
  refine lv_iconst (v := 0) hK.1.1 hK.1.2.1 dX5_run_1 (by decide) ?_
  refine mw_71 hK hP hS hR dX5_run_2 (fun H locs G hP hS hR => ?_)
  refine lv_iconst (v := 0) hK.1.1 hK.1.2.1 dX5_run_5 (by decide) ?_
  refine lv_istore_n (lv' := [(1, .int 0), (0, .ref (ly_a y 5))]) hK.1.1 hK.1.2.1 dX5_run_6 rfl hl (by decide) rfl (fun ls hl => ?_)
  refine lv_iconst (v := 0) hK.1.1 hK.1.2.1 dX5_run_7 (by decide) ?_
  refine lv_istore_n (lv' := [(2, .int 0), (1, .int 0), (0, .ref (ly_a y 5))]) hK.1.1 hK.1.2.1 dX5_run_8 rfl hl (by decide) rfl (fun ls hl => ?_)
  have loop : ∀ (dd : Nat) (k : Nat) (ls : Array Slot) (H : Heap) (locs : List Loc) (G : gk_G), 5 - k = dd → (k ≤ 5) → gk_P (ly_D y) A G H → va_S A s.heap H locs → rp y G td ru fr lv lt et tl hf hp ol PS pf ov (nI e9) (nI (m_run1 mr ml e9 mv n9 k).2.1) 0 (m_run1 mr ml e9 mv n9 k).1 → lv_has ls 6 [(2, .int (nI k)), (1, .int ((m_run1 mr ml e9 mv n9 k).2.2)), (0, .ref (ly_a y 5))] → W p l e { frames := 3, cells := 0, slots := 0, locals := 110 } s m [.ref (ly_a y 5)].toArray below meth c H locs 0 0 (MQ below (gk_Q y A (fun v G1 => v = some (.int (m_run1 mr ml e9 mv n9 5).2.2) ∧ rp y G1 td ru fr lv lt et tl hf hp ol PS pf ov (nI e9) (nI (m_run1 mr ml e9 mv n9 5).2.1) 0 (m_tells (m_run1 mr ml e9 mv n9 5).1 (m_run1 mr ml e9 mv n9 5).2.2 3))) [.ref (ly_a y 5)].toArray s 0 0 A) (F0 m 9 ls []) := by
    intro dd
    induction dd using Nat.strongRecOn with
    | _ dd ih =>
    intro k ls H locs G hdd hk hP hS hR hl
    refine lv_iload_n hK.1.1 hK.1.2.1 dX5_run_9 rfl (lv_at hl 0 rfl) ?_
    refine lv_iconst (v := 5) hK.1.1 hK.1.2.1 dX5_run_10 (by decide) ?_
    refine lv_icmp_ge (tgt := 44) hK.1.1 hK.1.2.1 dX5_run_11 (by decide) (fun c11_1 => ?_) (fun c11_1 => ?_)
    · have hk5 : 5 = k := Nat.le_antisymm ((nI_leI (a := 5) (by omega) (by omega)).mp c11_1) hk
      subst hk5
      obtain ⟨b9, hb9⟩ : ∃ b, b = (m_run1 mr ml e9 mv n9 5).2.2 := ⟨_, rfl⟩
      rw [← hb9] at hl
      obtain ⟨V9, hV9⟩ : ∃ b, b = (m_run1 mr ml e9 mv n9 5).1 := ⟨_, rfl⟩
      rw [← hV9] at hR
      have h9s : ∀ f, f < 5 → V9 9 f = nI (mr f) := fun f hf => by rw [hV9, m_run1_row (by omega)]; exact (hr9 f hf).2
      have h18s : ∀ h, h < 4 → V9 18 h = -1 ∨ ∃ f, f < 5 ∧ V9 18 h = nI f := fun h hh => by rw [hV9, m_run1_row (by omega)]; exact h18 h hh
      refine lv_iconst (v := 0) hK.1.1 hK.1.2.1 dX5_run_44 (by decide) ?_
      refine lv_istore_n (lv' := [(2, .int 0), (1, .int b9), (0, .ref (ly_a y 5))]) hK.1.1 hK.1.2.1 dX5_run_45 rfl hl (by decide) rfl (fun ls hl => ?_)
      have loopb : ∀ (dd : Nat) (r : Nat) (ls : Array Slot) (H : Heap) (locs : List Loc) (G : gk_G), 3 - r = dd → (r ≤ 3) → gk_P (ly_D y) A G H → va_S A s.heap H locs → rp y G td ru fr lv lt et tl hf hp ol PS pf ov (nI e9) (nI (m_run1 mr ml e9 mv n9 5).2.1) 0 (m_tells V9 b9 r) → lv_has ls 6 [(2, .int (nI r)), (1, .int b9), (0, .ref (ly_a y 5))] → W p l e { frames := 3, cells := 0, slots := 0, locals := 110 } s m [.ref (ly_a y 5)].toArray below meth c H locs 0 0 (MQ below (gk_Q y A (fun v G1 => v = some (.int (m_run1 mr ml e9 mv n9 5).2.2) ∧ rp y G1 td ru fr lv lt et tl hf hp ol PS pf ov (nI e9) (nI (m_run1 mr ml e9 mv n9 5).2.1) 0 (m_tells (m_run1 mr ml e9 mv n9 5).1 (m_run1 mr ml e9 mv n9 5).2.2 3))) [.ref (ly_a y 5)].toArray s 0 0 A) (F0 m 46 ls []) := by
        intro dd
        induction dd using Nat.strongRecOn with
        | _ dd ihb =>
        intro r ls H locs G hdd hr hP hS hR hl
        refine lv_iload_n hK.1.1 hK.1.2.1 dX5_run_46 rfl (lv_at hl 0 rfl) ?_
        refine lv_iconst (v := 3) hK.1.1 hK.1.2.1 dX5_run_47 (by decide) ?_
        refine lv_icmp_ge (tgt := 205) hK.1.1 hK.1.2.1 dX5_run_48 (by decide) (fun c48_2 => ?_) (fun c48_2 => ?_)
        · have hr3 : r = 3 := Nat.le_antisymm hr ((nI_leI (a := 3) (by omega) (by omega)).mp c48_2)
          subst hr3
          refine lv_iload_n hK.1.1 hK.1.2.1 dX5_run_205 rfl (lv_at hl 1 rfl) ?_
          exact gk_iret0 hK.1 hret hlk hP hS (Nat.le_of_ble_eq_true rfl) (Nat.le_of_ble_eq_true rfl) dX5_run_206 (⟨by rw [hb9], by rw [← hb9, ← hV9]; exact hR⟩)
        · have hr3 : r < 3 := Nat.lt_of_not_le (fun h => c48_2 (nI_le (a := 3) h (by omega)))
          obtain ⟨V8, hV8⟩ : ∃ b, b = m_tells V9 b9 r := ⟨_, rfl⟩
          rw [← hV8] at hR
          have h98 : ∀ f, f < 5 → V8 9 f = nI (mr f) := fun f hf => by rw [hV8, m_tells_row (by decide)]; exact h9s f hf
          have h188 : ∀ h, h < 4 → V8 18 h = -1 ∨ ∃ f, f < 5 ∧ V8 18 h = nI f := fun h hh => by rw [hV8, m_tells_row (by decide)]; exact h18s h hh
          refine lv_iconst (v := 0) hK.1.1 hK.1.2.1 dX5_run_51 (by decide) ?_
          refine lv_istore_n (lv' := [(3, .int 0), (2, .int (nI r)), (1, .int b9), (0, .ref (ly_a y 5))]) hK.1.1 hK.1.2.1 dX5_run_52 rfl hl (by decide) rfl (fun ls hl => ?_)
          refine lv_iconst (v := 0) hK.1.1 hK.1.2.1 dX5_run_53 (by decide) ?_
          refine lv_istore (lv' := [(4, .int 0), (3, .int 0), (2, .int (nI r)), (1, .int b9), (0, .ref (ly_a y 5))]) hK.1.1 hK.1.2.1 dX5_run_54 hl (by decide) rfl (fun ls hl => ?_)
          have loopf : ∀ (dd : Nat) (k : Nat) (B : Bool) (ls : Array Slot) (H : Heap) (locs : List Loc), 5 - k = dd → (k ≤ 5) → (B = m_amg V8 b9 r k) → gk_P (ly_D y) A G H → va_S A s.heap H locs → lv_has ls 6 [(4, .int (nI k)), (3, .int (rg_b B)), (2, .int (nI r)), (1, .int b9), (0, .ref (ly_a y 5))] → W p l e { frames := 3, cells := 0, slots := 0, locals := 110 } s m [.ref (ly_a y 5)].toArray below meth c H locs 0 0 (MQ below (gk_Q y A (fun v G1 => v = some (.int (m_run1 mr ml e9 mv n9 5).2.2) ∧ rp y G1 td ru fr lv lt et tl hf hp ol PS pf ov (nI e9) (nI (m_run1 mr ml e9 mv n9 5).2.1) 0 (m_tells (m_run1 mr ml e9 mv n9 5).1 (m_run1 mr ml e9 mv n9 5).2.2 3))) [.ref (ly_a y 5)].toArray s 0 0 A) (F0 m 56 ls []) := by
            intro dd
            induction dd using Nat.strongRecOn with
            | _ dd ih =>
            intro k B ls H locs hdd hk hB hP hS hl
            refine lv_iload hK.1.1 hK.1.2.1 dX5_run_56 (lv_at hl 0 rfl) ?_
            refine lv_iconst (v := 5) hK.1.1 hK.1.2.1 dX5_run_58 (by decide) ?_
            refine lv_icmp_ge (tgt := 99) hK.1.1 hK.1.2.1 dX5_run_59 (by decide) (fun c59_3 => ?_) (fun c59_3 => ?_)
            · have hk5 : 5 = k := Nat.le_antisymm ((nI_leI (a := 5) (by omega) (by omega)).mp c59_3) hk
              subst hk5
              refine lv_iconst (v := 0) hK.1.1 hK.1.2.1 dX5_run_99 (by decide) ?_
              refine lv_istore (lv' := [(4, .int 0), (3, .int (rg_b B)), (2, .int (nI r)), (1, .int b9), (0, .ref (ly_a y 5))]) hK.1.1 hK.1.2.1 dX5_run_100 hl (by decide) rfl (fun ls hl => ?_)
              have looph : ∀ (dd : Nat) (h : Nat) (ls : Array Slot) (H : Heap) (locs : List Loc) (G : gk_G), 4 - h = dd → (h ≤ 4) → gk_P (ly_D y) A G H → va_S A s.heap H locs → rp y G td ru fr lv lt et tl hf hp ol PS pf ov (nI e9) (nI (m_run1 mr ml e9 mv n9 5).2.1) 0 (m_tlw V8 B r h) → lv_has ls 6 [(4, .int (nI h)), (3, .int (rg_b B)), (2, .int (nI r)), (1, .int b9), (0, .ref (ly_a y 5))] → W p l e { frames := 3, cells := 0, slots := 0, locals := 110 } s m [.ref (ly_a y 5)].toArray below meth c H locs 0 0 (MQ below (gk_Q y A (fun v G1 => v = some (.int (m_run1 mr ml e9 mv n9 5).2.2) ∧ rp y G1 td ru fr lv lt et tl hf hp ol PS pf ov (nI e9) (nI (m_run1 mr ml e9 mv n9 5).2.1) 0 (m_tells (m_run1 mr ml e9 mv n9 5).1 (m_run1 mr ml e9 mv n9 5).2.2 3))) [.ref (ly_a y 5)].toArray s 0 0 A) (F0 m 102 ls []) := by
                intro dd
                induction dd using Nat.strongRecOn with
                | _ dd ih =>
                intro h ls H locs G hdd hh hP hS hR hl
                refine lv_iload hK.1.1 hK.1.2.1 dX5_run_102 (lv_at hl 0 rfl) ?_
                refine lv_iconst (v := 4) hK.1.1 hK.1.2.1 dX5_run_104 (by decide) ?_
                refine lv_icmp_ge (tgt := 199) hK.1.1 hK.1.2.1 dX5_run_105 (by decide) (fun c105_4 => ?_) (fun c105_4 => ?_)
                · have hh4 : 4 = h := Nat.le_antisymm ((nI_leI (a := 4) (by omega) (by omega)).mp c105_4) hh
                  subst hh4
                  have hR : rp y G td ru fr lv lt et tl hf hp ol PS pf ov (nI e9) (nI (m_run1 mr ml e9 mv n9 5).2.1) 0 (m_tells V9 b9 (r + 1)) := by rw [hB, hV8] at hR; exact hR
                  refine lv_iinc (v := nI (r + 1)) (lv' := [(2, .int (nI (r + 1))), (4, .int (nI 4)), (3, .int (rg_b B)), (1, .int b9), (0, .ref (ly_a y 5))]) hK.1.1 hK.1.2.1 dX5_run_199 hl (k := 2) rfl (nI_1 r) (by decide) rfl (fun ls hl => ?_)
                  refine lv_goto (tgt := 46) hK.1.1 hK.1.2.1 dX5_run_202 (by decide) ?_
                  exact ihb (3 - (r + 1)) (by omega)  (r + 1) ls _ _ _ rfl (by omega) hP hS hR (lv_sub hl [0, 3, 4] rfl)
                · have hh4 : h < 4 := Nat.lt_of_not_le (fun q => c105_4 (nI_le (a := 4) q (by omega)))
                  refine lv_iload_n hK.1.1 hK.1.2.1 dX5_run_108 rfl (lv_at hl 1 rfl) ?_
                  refine lv_if_eq (tgt := 167) hK.1.1 hK.1.2.1 dX5_run_109 (by decide) (fun c109_5 => ?_) (fun c109_5 => ?_)
                  · refine lv_iconst (v := 0) hK.1.1 hK.1.2.1 dX5_run_167 (by decide) ?_
                    refine lv_istore (lv' := [(5, .int 0), (4, .int (nI h)), (3, .int (rg_b B)), (2, .int (nI r)), (1, .int b9), (0, .ref (ly_a y 5))]) hK.1.1 hK.1.2.1 dX5_run_168 hl (by decide) rfl (fun ls hl => ?_)
                    refine lv_aload_n hK.1.1 hK.1.2.1 dX5_run_170 rfl (lv_at hl 5 rfl) ?_
                    refine mr_68 hK hP hR dX5_run_171 ?_
                    refine lv_iload hK.1.1 hK.1.2.1 dX5_run_174 (lv_at hl 1 rfl) ?_
                    refine lv_iload hK.1.1 hK.1.2.1 dX5_run_176 (lv_at hl 0 rfl) ?_
                    refine lv_if_eq (tgt := 185) hK.1.1 hK.1.2.1 dX5_run_178 (by decide) (fun _ => ?_) (fun c => absurd c (by decide))
                    refine lv_aload_n hK.1.1 hK.1.2.1 dX5_run_185 rfl (lv_at hl 5 rfl) ?_
                    refine mr_68 hK hP hR dX5_run_186 ?_
                    refine lv_iload hK.1.1 hK.1.2.1 dX5_run_189 (lv_at hl 1 rfl) ?_
                    refine mr_ild hK hP hR 19 (by decide) rfl (j := h) hh4 dX5_run_191 ?_
                    rw [show ((m_tlw V8 B r h) 19 h) = V8 19 h by simp [m_tlw]]
                    refine mw_ist hK hP hS hR 19 (by decide) rfl (j := h) hh4 dX5_run_192 (fun H locs G hP hS hR => ?_)
                    refine lv_iinc (v := nI (h + 1)) (lv' := [(4, .int (nI (h + 1))), (5, .int 0), (3, .int (rg_b B)), (2, .int (nI r)), (1, .int b9), (0, .ref (ly_a y 5))]) hK.1.1 hK.1.2.1 dX5_run_193 hl (k := 1) rfl (nI_1 h) (by decide) rfl (fun ls hl => ?_)
                    refine lv_goto (tgt := 102) hK.1.1 hK.1.2.1 dX5_run_196 (by decide) ?_
                    exact ih (4 - (h + 1)) (by omega)  (h + 1) ls _ _ _ rfl (by omega) hP hS (by rw [← m_tlw_s _ _ _ h _ (by rw [if_neg (fun q => by rw [q.1] at c109_5; exact absurd c109_5 (by decide))])]; exact hR) (lv_sub hl [0, 2, 3, 4, 5] rfl)
                  · refine lv_aload_n hK.1.1 hK.1.2.1 dX5_run_112 rfl (lv_at hl 4 rfl) ?_
                    refine mr_35 hK hP hR dX5_run_113 ?_
                    refine lv_iload_n hK.1.1 hK.1.2.1 dX5_run_116 rfl (lv_at hl 2 rfl) ?_
                    refine mr_zld hK hP hR 8 (by decide) rfl (j := r) hr3 dX5_run_117 ?_
                    rw [show ((m_tlw V8 B r h) 8 r) = V8 8 r by simp [m_tlw]]
                    refine lv_if_eq (tgt := 167) hK.1.1 hK.1.2.1 dX5_run_118 (by decide) (fun c118_6 => ?_) (fun c118_6 => ?_)
                    · refine lv_iconst (v := 0) hK.1.1 hK.1.2.1 dX5_run_167 (by decide) ?_
                      refine lv_istore (lv' := [(5, .int 0), (4, .int (nI h)), (3, .int (rg_b B)), (2, .int (nI r)), (1, .int b9), (0, .ref (ly_a y 5))]) hK.1.1 hK.1.2.1 dX5_run_168 hl (by decide) rfl (fun ls hl => ?_)
                      refine lv_aload_n hK.1.1 hK.1.2.1 dX5_run_170 rfl (lv_at hl 5 rfl) ?_
                      refine mr_68 hK hP hR dX5_run_171 ?_
                      refine lv_iload hK.1.1 hK.1.2.1 dX5_run_174 (lv_at hl 1 rfl) ?_
                      refine lv_iload hK.1.1 hK.1.2.1 dX5_run_176 (lv_at hl 0 rfl) ?_
                      refine lv_if_eq (tgt := 185) hK.1.1 hK.1.2.1 dX5_run_178 (by decide) (fun _ => ?_) (fun c => absurd c (by decide))
                      refine lv_aload_n hK.1.1 hK.1.2.1 dX5_run_185 rfl (lv_at hl 5 rfl) ?_
                      refine mr_68 hK hP hR dX5_run_186 ?_
                      refine lv_iload hK.1.1 hK.1.2.1 dX5_run_189 (lv_at hl 1 rfl) ?_
                      refine mr_ild hK hP hR 19 (by decide) rfl (j := h) hh4 dX5_run_191 ?_
                      rw [show ((m_tlw V8 B r h) 19 h) = V8 19 h by simp [m_tlw]]
                      refine mw_ist hK hP hS hR 19 (by decide) rfl (j := h) hh4 dX5_run_192 (fun H locs G hP hS hR => ?_)
                      refine lv_iinc (v := nI (h + 1)) (lv' := [(4, .int (nI (h + 1))), (5, .int 0), (3, .int (rg_b B)), (2, .int (nI r)), (1, .int b9), (0, .ref (ly_a y 5))]) hK.1.1 hK.1.2.1 dX5_run_193 hl (k := 1) rfl (nI_1 h) (by decide) rfl (fun ls hl => ?_)
                      refine lv_goto (tgt := 102) hK.1.1 hK.1.2.1 dX5_run_196 (by decide) ?_
                      exact ih (4 - (h + 1)) (by omega)  (h + 1) ls _ _ _ rfl (by omega) hP hS (by rw [← m_tlw_s _ _ _ h _ (by rw [if_neg (fun q => q.2.1 c118_6)])]; exact hR) (lv_sub hl [0, 2, 3, 4, 5] rfl)
                    · refine lv_aload_n hK.1.1 hK.1.2.1 dX5_run_121 rfl (lv_at hl 4 rfl) ?_
                      refine mr_65 hK hP hR dX5_run_122 ?_
                      refine lv_iload hK.1.1 hK.1.2.1 dX5_run_125 (lv_at hl 0 rfl) ?_
                      refine mr_ild hK hP hR 18 (by decide) rfl (j := h) hh4 dX5_run_127 ?_
                      rw [show ((m_tlw V8 B r h) 18 h) = V8 18 h by simp [m_tlw]]
                      refine lv_iconst (v := (-1)) hK.1.1 hK.1.2.1 dX5_run_128 (by decide) ?_
                      refine lv_icmp_eq (tgt := 167) hK.1.1 hK.1.2.1 dX5_run_129 (by decide) (fun c129_7 => ?_) (fun c129_7 => ?_)
                      · refine lv_iconst (v := 0) hK.1.1 hK.1.2.1 dX5_run_167 (by decide) ?_
                        refine lv_istore (lv' := [(5, .int 0), (4, .int (nI h)), (3, .int (rg_b B)), (2, .int (nI r)), (1, .int b9), (0, .ref (ly_a y 5))]) hK.1.1 hK.1.2.1 dX5_run_168 hl (by decide) rfl (fun ls hl => ?_)
                        refine lv_aload_n hK.1.1 hK.1.2.1 dX5_run_170 rfl (lv_at hl 5 rfl) ?_
                        refine mr_68 hK hP hR dX5_run_171 ?_
                        refine lv_iload hK.1.1 hK.1.2.1 dX5_run_174 (lv_at hl 1 rfl) ?_
                        refine lv_iload hK.1.1 hK.1.2.1 dX5_run_176 (lv_at hl 0 rfl) ?_
                        refine lv_if_eq (tgt := 185) hK.1.1 hK.1.2.1 dX5_run_178 (by decide) (fun _ => ?_) (fun c => absurd c (by decide))
                        refine lv_aload_n hK.1.1 hK.1.2.1 dX5_run_185 rfl (lv_at hl 5 rfl) ?_
                        refine mr_68 hK hP hR dX5_run_186 ?_
                        refine lv_iload hK.1.1 hK.1.2.1 dX5_run_189 (lv_at hl 1 rfl) ?_
                        refine mr_ild hK hP hR 19 (by decide) rfl (j := h) hh4 dX5_run_191 ?_
                        rw [show ((m_tlw V8 B r h) 19 h) = V8 19 h by simp [m_tlw]]
                        refine mw_ist hK hP hS hR 19 (by decide) rfl (j := h) hh4 dX5_run_192 (fun H locs G hP hS hR => ?_)
                        refine lv_iinc (v := nI (h + 1)) (lv' := [(4, .int (nI (h + 1))), (5, .int 0), (3, .int (rg_b B)), (2, .int (nI r)), (1, .int b9), (0, .ref (ly_a y 5))]) hK.1.1 hK.1.2.1 dX5_run_193 hl (k := 1) rfl (nI_1 h) (by decide) rfl (fun ls hl => ?_)
                        refine lv_goto (tgt := 102) hK.1.1 hK.1.2.1 dX5_run_196 (by decide) ?_
                        exact ih (4 - (h + 1)) (by omega)  (h + 1) ls _ _ _ rfl (by omega) hP hS (by rw [← m_tlw_s _ _ _ h _ (by rw [if_neg (fun q => q.2.2.1 c129_7)])]; exact hR) (lv_sub hl [0, 2, 3, 4, 5] rfl)
                      · obtain ⟨ff, hff5, hff⟩ := (h188 h hh4).resolve_left c129_7
                        refine lv_aload_n hK.1.1 hK.1.2.1 dX5_run_132 rfl (lv_at hl 4 rfl) ?_
                        refine mr_38 hK hP hR dX5_run_133 ?_
                        refine lv_aload_n hK.1.1 hK.1.2.1 dX5_run_136 rfl (lv_at hl 4 rfl) ?_
                        refine mr_65 hK hP hR dX5_run_137 ?_
                        refine lv_iload hK.1.1 hK.1.2.1 dX5_run_140 (lv_at hl 0 rfl) ?_
                        refine mr_ild hK hP hR 18 (by decide) rfl (j := h) hh4 dX5_run_142 ?_
                        rw [show ((m_tlw V8 B r h) 18 h) = V8 18 h by simp [m_tlw]]
                        refine lv_iconst (v := (-1)) hK.1.1 hK.1.2.1 dX5_run_143 (by decide) ?_
                        refine lv_icmp_ne (tgt := 151) hK.1.1 hK.1.2.1 dX5_run_144 (by decide) (fun _ => ?_) (fun c => absurd c c129_7)
                        refine lv_aload_n hK.1.1 hK.1.2.1 dX5_run_151 rfl (lv_at hl 4 rfl) ?_
                        refine mr_65 hK hP hR dX5_run_152 ?_
                        refine lv_iload hK.1.1 hK.1.2.1 dX5_run_155 (lv_at hl 0 rfl) ?_
                        refine mr_ild hK hP hR 18 (by decide) rfl (j := h) hh4 dX5_run_157 ?_
                        rw [show ((m_tlw V8 B r h) 18 h) = V8 18 h by simp [m_tlw], hff]
                        refine mr_ild hK hP hR 9 (by decide) rfl (j := ff) hff5 dX5_run_158 ?_
                        rw [show ((m_tlw V8 B r h) 9 ff) = V8 9 ff by simp [m_tlw]]
                        refine lv_iload_n hK.1.1 hK.1.2.1 dX5_run_159 rfl (lv_at hl 2 rfl) ?_
                        refine lv_icmp_ne (tgt := 167) hK.1.1 hK.1.2.1 dX5_run_160 (by decide) (fun c160_8 => ?_) (fun c160_8 => ?_)
                        · refine lv_iconst (v := 0) hK.1.1 hK.1.2.1 dX5_run_167 (by decide) ?_
                          refine lv_istore (lv' := [(5, .int 0), (4, .int (nI h)), (3, .int (rg_b B)), (2, .int (nI r)), (1, .int b9), (0, .ref (ly_a y 5))]) hK.1.1 hK.1.2.1 dX5_run_168 hl (by decide) rfl (fun ls hl => ?_)
                          refine lv_aload_n hK.1.1 hK.1.2.1 dX5_run_170 rfl (lv_at hl 5 rfl) ?_
                          refine mr_68 hK hP hR dX5_run_171 ?_
                          refine lv_iload hK.1.1 hK.1.2.1 dX5_run_174 (lv_at hl 1 rfl) ?_
                          refine lv_iload hK.1.1 hK.1.2.1 dX5_run_176 (lv_at hl 0 rfl) ?_
                          refine lv_if_eq (tgt := 185) hK.1.1 hK.1.2.1 dX5_run_178 (by decide) (fun _ => ?_) (fun c => absurd c (by decide))
                          refine lv_aload_n hK.1.1 hK.1.2.1 dX5_run_185 rfl (lv_at hl 5 rfl) ?_
                          refine mr_68 hK hP hR dX5_run_186 ?_
                          refine lv_iload hK.1.1 hK.1.2.1 dX5_run_189 (lv_at hl 1 rfl) ?_
                          refine mr_ild hK hP hR 19 (by decide) rfl (j := h) hh4 dX5_run_191 ?_
                          rw [show ((m_tlw V8 B r h) 19 h) = V8 19 h by simp [m_tlw]]
                          refine mw_ist hK hP hS hR 19 (by decide) rfl (j := h) hh4 dX5_run_192 (fun H locs G hP hS hR => ?_)
                          refine lv_iinc (v := nI (h + 1)) (lv' := [(4, .int (nI (h + 1))), (5, .int 0), (3, .int (rg_b B)), (2, .int (nI r)), (1, .int b9), (0, .ref (ly_a y 5))]) hK.1.1 hK.1.2.1 dX5_run_193 hl (k := 1) rfl (nI_1 h) (by decide) rfl (fun ls hl => ?_)
                          refine lv_goto (tgt := 102) hK.1.1 hK.1.2.1 dX5_run_196 (by decide) ?_
                          exact ih (4 - (h + 1)) (by omega)  (h + 1) ls _ _ _ rfl (by omega) hP hS (by rw [← m_tlw_s _ _ _ h _ (by rw [if_neg (fun q => c160_8 (by have q4 := q.2.2.2; rw [hff, nI_clamp (by omega)] at q4; exact q4))])]; exact hR) (lv_sub hl [0, 2, 3, 4, 5] rfl)
                        · refine lv_iconst (v := 1) hK.1.1 hK.1.2.1 dX5_run_163 (by decide) ?_
                          refine lv_goto (tgt := 168) hK.1.1 hK.1.2.1 dX5_run_164 (by decide) ?_
                          refine lv_istore (lv' := [(5, .int 1), (4, .int (nI h)), (3, .int (rg_b B)), (2, .int (nI r)), (1, .int b9), (0, .ref (ly_a y 5))]) hK.1.1 hK.1.2.1 dX5_run_168 hl (by decide) rfl (fun ls hl => ?_)
                          refine lv_aload_n hK.1.1 hK.1.2.1 dX5_run_170 rfl (lv_at hl 5 rfl) ?_
                          refine mr_68 hK hP hR dX5_run_171 ?_
                          refine lv_iload hK.1.1 hK.1.2.1 dX5_run_174 (lv_at hl 1 rfl) ?_
                          refine lv_iload hK.1.1 hK.1.2.1 dX5_run_176 (lv_at hl 0 rfl) ?_
                          refine lv_if_eq (tgt := 185) hK.1.1 hK.1.2.1 dX5_run_178 (by decide) (fun c => absurd c (by decide)) (fun _ => ?_)
                          refine lv_iconst (v := (-1)) hK.1.1 hK.1.2.1 dX5_run_181 (by decide) ?_
                          refine lv_goto (tgt := 192) hK.1.1 hK.1.2.1 dX5_run_182 (by decide) ?_
                          refine mw_ist hK hP hS hR 19 (by decide) rfl (j := h) hh4 dX5_run_192 (fun H locs G hP hS hR => ?_)
                          refine lv_iinc (v := nI (h + 1)) (lv' := [(4, .int (nI (h + 1))), (5, .int 1), (3, .int (rg_b B)), (2, .int (nI r)), (1, .int b9), (0, .ref (ly_a y 5))]) hK.1.1 hK.1.2.1 dX5_run_193 hl (k := 1) rfl (nI_1 h) (by decide) rfl (fun ls hl => ?_)
                          refine lv_goto (tgt := 102) hK.1.1 hK.1.2.1 dX5_run_196 (by decide) ?_
                          exact ih (4 - (h + 1)) (by omega)  (h + 1) ls _ _ _ rfl (by omega) hP hS (by rw [← m_tlw_s _ _ _ h _ (by rw [if_pos ⟨(rg_bt c109_5), c118_6, c129_7, by rw [hff, nI_clamp (by omega)]; exact c160_8⟩])]; exact hR) (lv_sub hl [0, 2, 3, 4, 5] rfl)
              exact looph _ 0 ls _ _ _ rfl (by omega) hP hS (by rw [m_tlw_0]; exact hR) (lv_sub hl [0, 1, 2, 3, 4] rfl)
            · have hk5 : k < 5 := Nat.lt_of_not_le (fun h => c59_3 (nI_le (a := 5) h (by omega)))
              refine lv_iload_n hK.1.1 hK.1.2.1 dX5_run_62 rfl (lv_at hl 1 rfl) ?_
              refine lv_if_ne (tgt := 87) hK.1.1 hK.1.2.1 dX5_run_63 (by decide) (fun c63_9 => ?_) (fun c63_9 => ?_)
              · refine lv_iconst (v := 1) hK.1.1 hK.1.2.1 dX5_run_87 (by decide) ?_
                refine lv_goto (tgt := 92) hK.1.1 hK.1.2.1 dX5_run_88 (by decide) ?_
                refine lv_istore_n (lv' := [(3, .int 1), (4, .int (nI k)), (2, .int (nI r)), (1, .int b9), (0, .ref (ly_a y 5))]) hK.1.1 hK.1.2.1 dX5_run_92 rfl hl (by decide) rfl (fun ls hl => ?_)
                refine lv_iinc (v := nI (k + 1)) (lv' := [(4, .int (nI (k + 1))), (3, .int 1), (2, .int (nI r)), (1, .int b9), (0, .ref (ly_a y 5))]) hK.1.1 hK.1.2.1 dX5_run_93 hl (k := 1) rfl (nI_1 k) (by decide) rfl (fun ls hl => ?_)
                refine lv_goto (tgt := 56) hK.1.1 hK.1.2.1 dX5_run_96 (by decide) ?_
                exact ih (5 - (k + 1)) (by omega)  (k + 1) true ls _ _ rfl (by omega) (by rw [m_amg_s, ← hB, rg_bt c63_9]; rfl) hP hS (lv_sub hl [0, 1, 2, 3, 4] rfl)
              · refine lv_aload_n hK.1.1 hK.1.2.1 dX5_run_66 rfl (lv_at hl 4 rfl) ?_
                refine mr_38 hK hP hR dX5_run_67 ?_
                refine lv_iload hK.1.1 hK.1.2.1 dX5_run_70 (lv_at hl 0 rfl) ?_
                refine mr_ild hK hP hR 9 (by decide) rfl (j := k) hk5 dX5_run_72 ?_
                refine lv_iload_n hK.1.1 hK.1.2.1 dX5_run_73 rfl (lv_at hl 2 rfl) ?_
                refine lv_icmp_ne (tgt := 91) hK.1.1 hK.1.2.1 dX5_run_74 (by decide) (fun c74_10 => ?_) (fun c74_10 => ?_)
                · refine lv_iconst (v := 0) hK.1.1 hK.1.2.1 dX5_run_91 (by decide) ?_
                  refine lv_istore_n (lv' := [(3, .int 0), (4, .int (nI k)), (2, .int (nI r)), (1, .int b9), (0, .ref (ly_a y 5))]) hK.1.1 hK.1.2.1 dX5_run_92 rfl hl (by decide) rfl (fun ls hl => ?_)
                  refine lv_iinc (v := nI (k + 1)) (lv' := [(4, .int (nI (k + 1))), (3, .int 0), (2, .int (nI r)), (1, .int b9), (0, .ref (ly_a y 5))]) hK.1.1 hK.1.2.1 dX5_run_93 hl (k := 1) rfl (nI_1 k) (by decide) rfl (fun ls hl => ?_)
                  refine lv_goto (tgt := 56) hK.1.1 hK.1.2.1 dX5_run_96 (by decide) ?_
                  exact ih (5 - (k + 1)) (by omega)  (k + 1) false ls _ _ rfl (by omega) (by rw [m_amg_s, ← hB, rg_b0.mp c63_9, decide_eq_false c74_10]; rfl) hP hS (lv_sub hl [0, 1, 2, 3, 4] rfl)
                · refine lv_iload_n hK.1.1 hK.1.2.1 dX5_run_77 rfl (lv_at hl 3 rfl) ?_
                  refine lv_iload hK.1.1 hK.1.2.1 dX5_run_78 (lv_at hl 0 rfl) ?_
                  refine lv_ishr hK.1.1 hK.1.2.1 dX5_run_80 ?_
                  refine lv_iconst (v := 1) hK.1.1 hK.1.2.1 dX5_run_81 (by decide) ?_
                  refine lv_iand hK.1.1 hK.1.2.1 dX5_run_82 ?_
                  refine lv_iconst (v := 1) hK.1.1 hK.1.2.1 dX5_run_83 (by decide) ?_
                  refine lv_icmp_ne (tgt := 91) hK.1.1 hK.1.2.1 dX5_run_84 (by decide) (fun c84_11 => ?_) (fun c84_11 => ?_)
                  · refine lv_iconst (v := 0) hK.1.1 hK.1.2.1 dX5_run_91 (by decide) ?_
                    refine lv_istore_n (lv' := [(3, .int 0), (4, .int (nI k)), (2, .int (nI r)), (1, .int b9), (0, .ref (ly_a y 5))]) hK.1.1 hK.1.2.1 dX5_run_92 rfl hl (by decide) rfl (fun ls hl => ?_)
                    refine lv_iinc (v := nI (k + 1)) (lv' := [(4, .int (nI (k + 1))), (3, .int 0), (2, .int (nI r)), (1, .int b9), (0, .ref (ly_a y 5))]) hK.1.1 hK.1.2.1 dX5_run_93 hl (k := 1) rfl (nI_1 k) (by decide) rfl (fun ls hl => ?_)
                    refine lv_goto (tgt := 56) hK.1.1 hK.1.2.1 dX5_run_96 (by decide) ?_
                    exact ih (5 - (k + 1)) (by omega)  (k + 1) false ls _ _ rfl (by omega) (by rw [m_amg_s, ← hB, rg_b0.mp c63_9, decide_eq_true c74_10, decide_eq_false (p := t_bit b9 k = 1) c84_11]; rfl) hP hS (lv_sub hl [0, 1, 2, 3, 4] rfl)
                  · refine lv_iconst (v := 1) hK.1.1 hK.1.2.1 dX5_run_87 (by decide) ?_
                    refine lv_goto (tgt := 92) hK.1.1 hK.1.2.1 dX5_run_88 (by decide) ?_
                    refine lv_istore_n (lv' := [(3, .int 1), (4, .int (nI k)), (2, .int (nI r)), (1, .int b9), (0, .ref (ly_a y 5))]) hK.1.1 hK.1.2.1 dX5_run_92 rfl hl (by decide) rfl (fun ls hl => ?_)
                    refine lv_iinc (v := nI (k + 1)) (lv' := [(4, .int (nI (k + 1))), (3, .int 1), (2, .int (nI r)), (1, .int b9), (0, .ref (ly_a y 5))]) hK.1.1 hK.1.2.1 dX5_run_93 hl (k := 1) rfl (nI_1 k) (by decide) rfl (fun ls hl => ?_)
                    refine lv_goto (tgt := 56) hK.1.1 hK.1.2.1 dX5_run_96 (by decide) ?_
                    exact ih (5 - (k + 1)) (by omega)  (k + 1) true ls _ _ rfl (by omega) (by rw [m_amg_s, ← hB, rg_b0.mp c63_9, decide_eq_true c74_10, decide_eq_true (p := t_bit b9 k = 1) c84_11]; rfl) hP hS (lv_sub hl [0, 1, 2, 3, 4] rfl)
          exact loopf _ 0 false ls _ _ rfl (by omega) rfl hP hS (lv_sub hl [0, 1, 2, 3, 4] rfl)
      exact loopb _ 0 ls _ _ _ rfl (by omega) hP hS hR (lv_sub hl [0, 1, 2] rfl)
    · have hk5 : k < 5 := Nat.lt_of_not_le (fun h => c11_1 (nI_le (a := 5) h (by omega)))
      have hm := m_run1_ok (mr := mr) (ml := ml) (e := e9) hn hbit k (by omega)
      refine lv_aload_n hK.1.1 hK.1.2.1 dX5_run_14 rfl (lv_at hl 2 rfl) ?_
      refine lv_iload_n hK.1.1 hK.1.2.1 dX5_run_15 rfl (lv_at hl 0 rfl) ?_
      refine lv_aload_n hK.1.1 hK.1.2.1 dX5_run_16 rfl (lv_at hl 2 rfl) ?_
      refine mr_93 hK hP hR dX5_run_17 ?_
      refine gk_callV0 (n := 2) (As := [.int (nI k), .int (nI e9)]) (rest := []) hK (c_X5_isDueOn l hR (f := k) (r := (mr k)) (a := (ml k)) (e9 := e9) hk5 (hr9 k hk5).1 (by rw [m_run1_row (by omega)]; exact (hr9 k hk5).2) (by rw [m_run1_row (by omega)]; exact (ha9 k hk5).2) (ha9 k hk5).1 (by omega)) (gk_gV q_17_7 q_17_8 q_17_9 q_1_5 q_17_10) ⟨rfl, by decide +kernel, by decide +kernel, by decide +kernel⟩ ⟨(Nat.le_of_ble_eq_true rfl), (Nat.le_of_ble_eq_true rfl)⟩ hP hS (gk_recv hK.2.2.1.1 hP hR.2.2.2.2.2.2.2.2.1 rfl) rfl hl.1 rfl (Nat.le_of_ble_eq_true rfl) dX5_run_20 ⟨(Nat.le_of_ble_eq_true rfl), (Nat.le_of_ble_eq_true rfl)⟩ (fun v G1 H locs hw hP hS => ?_)
      obtain ⟨rfl, hG9⟩ := hw
      rw [hG9] at hP
      refine W.eq (g2 := F0 m 23 ls [.int (rg_b (m_due (m_run1 mr ml e9 mv n9 k).1 k (mr k) (ml k) e9))]) rfl ?_
      refine lv_if_eq (tgt := 38) hK.1.1 hK.1.2.1 dX5_run_23 (by decide) (fun c23_12 => ?_) (fun c23_12 => ?_)
      · have hnx : m_run1 mr ml e9 mv n9 (k + 1) = m_run1 mr ml e9 mv n9 k := by show (if _ then _ else _) = _; rw [if_neg (by rw [rg_b0.mp c23_12]; decide)]
        refine lv_iinc (v := nI (k + 1)) (lv' := [(2, .int (nI (k + 1))), (1, .int ((m_run1 mr ml e9 mv n9 k).2.2)), (0, .ref (ly_a y 5))]) hK.1.1 hK.1.2.1 dX5_run_38 hl (k := 0) rfl (nI_1 k) (by decide) rfl (fun ls hl => ?_)
        have hl : lv_has ls 6 [(2, .int (nI (k + 1))), (1, .int ((m_run1 mr ml e9 mv n9 (k + 1)).2.2)), (0, .ref (ly_a y 5))] := by rw [hnx]; exact hl
        refine lv_goto (tgt := 9) hK.1.1 hK.1.2.1 dX5_run_41 (by decide) ?_
        exact ih (5 - (k + 1)) (by omega)  (k + 1) ls _ _ _ rfl (by omega) hP hS (by rw [hnx]; exact hR) (lv_sub hl [0, 1, 2] rfl)
      · have hnx : m_run1 mr ml e9 mv n9 (k + 1) = ((m_turn (m_run1 mr ml e9 mv n9 k).1 k (mr k) (m_run1 mr ml e9 mv n9 k).2.1 (nI e9)).1, (m_turn (m_run1 mr ml e9 mv n9 k).1 k (mr k) (m_run1 mr ml e9 mv n9 k).2.1 (nI e9)).2.1, (m_run1 mr ml e9 mv n9 k).2.2 ||| (1 <<< (nI k &&& 31))) := if_pos (rg_bt c23_12)
        refine lv_iload_n hK.1.1 hK.1.2.1 dX5_run_26 rfl (lv_at hl 1 rfl) ?_
        refine lv_iconst (v := 1) hK.1.1 hK.1.2.1 dX5_run_27 (by decide) ?_
        refine lv_iload_n hK.1.1 hK.1.2.1 dX5_run_28 rfl (lv_at hl 0 rfl) ?_
        refine lv_ishl hK.1.1 hK.1.2.1 dX5_run_29 ?_
        refine lv_ior hK.1.1 hK.1.2.1 dX5_run_30 ?_
        refine lv_istore_n (lv' := [(1, .int (((m_run1 mr ml e9 mv n9 k).2.2) ||| (1 <<< ((nI k) &&& 31)))), (2, .int (nI k)), (0, .ref (ly_a y 5))]) hK.1.1 hK.1.2.1 dX5_run_31 rfl hl (by decide) rfl (fun ls hl => ?_)
        refine lv_aload_n hK.1.1 hK.1.2.1 dX5_run_32 rfl (lv_at hl 2 rfl) ?_
        refine lv_iload_n hK.1.1 hK.1.2.1 dX5_run_33 rfl (lv_at hl 1 rfl) ?_
        refine gk_callV0 (n := 1) (As := [.int (nI k)]) (rest := []) hK (c_X5_turns l hR (f := k) (r := mr k) (n9 := (m_run1 mr ml e9 mv n9 k).2.1) hk5 (hr9 k hk5).1 (by rw [m_run1_row (by omega)]; exact (hr9 k hk5).2) rfl (by have := hm.1; omega) hm.2) (gk_gV q_17_14 q_17_15 q_17_16 q_1_5 q_17_17) ⟨rfl, by decide +kernel, by decide +kernel, by decide +kernel⟩ ⟨(Nat.le_of_ble_eq_true rfl), (Nat.le_of_ble_eq_true rfl)⟩ hP hS (gk_recv hK.2.2.1.1 hP hR.2.2.2.2.2.2.2.2.1 rfl) rfl hl.1 rfl (Nat.le_of_ble_eq_true rfl) dX5_run_34 ⟨(Nat.le_of_ble_eq_true rfl), (Nat.le_of_ble_eq_true rfl)⟩ (fun v G1 H locs hw hP hS => ?_)
        obtain ⟨rfl, hR⟩ := hw
        refine W.eq (g2 := F0 m 37 ls [.int (nI (m_turn (m_run1 mr ml e9 mv n9 k).1 k (mr k) (m_run1 mr ml e9 mv n9 k).2.1 (nI e9)).2.2)]) rfl ?_
        refine lv_istore_n (lv' := [(3, .int (nI (m_turn (m_run1 mr ml e9 mv n9 k).1 k (mr k) (m_run1 mr ml e9 mv n9 k).2.1 (nI e9)).2.2)), (1, .int (((m_run1 mr ml e9 mv n9 k).2.2) ||| (1 <<< ((nI k) &&& 31)))), (2, .int (nI k)), (0, .ref (ly_a y 5))]) hK.1.1 hK.1.2.1 dX5_run_37 rfl hl (by decide) rfl (fun ls hl => ?_)
        refine lv_iinc (v := nI (k + 1)) (lv' := [(2, .int (nI (k + 1))), (3, .int (nI (m_turn (m_run1 mr ml e9 mv n9 k).1 k (mr k) (m_run1 mr ml e9 mv n9 k).2.1 (nI e9)).2.2)), (1, .int (((m_run1 mr ml e9 mv n9 k).2.2) ||| (1 <<< ((nI k) &&& 31)))), (0, .ref (ly_a y 5))]) hK.1.1 hK.1.2.1 dX5_run_38 hl (k := 2) rfl (nI_1 k) (by decide) rfl (fun ls hl => ?_)
        have hl : lv_has ls 6 [(2, .int (nI (k + 1))), (3, .int (nI (m_turn (m_run1 mr ml e9 mv n9 k).1 k (mr k) (m_run1 mr ml e9 mv n9 k).2.1 (nI e9)).2.2)), (1, .int ((m_run1 mr ml e9 mv n9 (k + 1)).2.2)), (0, .ref (ly_a y 5))] := by rw [hnx]; exact hl
        refine lv_goto (tgt := 9) hK.1.1 hK.1.2.1 dX5_run_41 (by decide) ?_
        exact ih (5 - (k + 1)) (by omega)  (k + 1) ls _ _ _ rfl (by omega) hP hS (by rw [hnx]; exact hR) (lv_sub hl [0, 2, 3] rfl)
  exact loop _ 0 ls _ _ _ rfl (by omega) hP hS hR (lv_sub hl [0, 1, 2] rfl)
