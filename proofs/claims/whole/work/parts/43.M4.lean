/-! the reference: the turn of a file -/
/-- the new place: n -/
def m_b1 (mv : Nat → Nat → Int32) (f n : Nat) (md : Int32) : Nat → Nat → Int32 := rp_u2 (rp_u2 (rp_u2 (rp_u2 mv 14 n (nI f)) 15 n (mv 10 f)) 16 n md) 17 n 0
/-- the first w holders of the live part of f hold the place n -/
def m_hd (mv : Nat → Nat → Int32) (f n w : Nat) : Nat → Nat → Int32 := fun i j => if i = 19 ∧ j < w ∧ mv 18 j = nI f ∧ mv 19 j = -1 then nI n else mv i j
theorem m_hd_0 (mv : Nat → Nat → Int32) (f n : Nat) : m_hd mv f n 0 = mv := by
  funext i j
  simp [m_hd]
theorem m_hd_s (mv : Nat → Nat → Int32) (f n w : Nat) (x : Int32) (hx : x = if mv 18 w = nI f ∧ mv 19 w = -1 then nI n else mv 19 w) : rp_u2 (m_hd mv f n w) 19 w x = m_hd mv f n (w + 1) := by
  funext i j
  subst hx
  simp only [m_hd, rp_u2]
  by_cases hj : j = w
  · subst hj
    by_cases h9 : i = 19
    · subst h9; simp
    · simp [h9]
  · have e : (j < w + 1) = (j < w) := propext (by omega)
    simp only [hj, and_false, if_false, e]
def m_b2 (mv : Nat → Nat → Int32) (f : Nat) (md : Int32) : Nat → Nat → Int32 := rp_u2 (rp_u2 (rp_u2 mv 10 f 0) 11 f md) 12 f 1
/-- the first k places are squeezed, those that may be -/
def m_sqz (mv : Nat → Nat → Int32) (f r k : Nat) : Nat → Nat → Int32 := fun i j => if i = 17 ∧ j < k then (if ¬ mv 17 j = 0 ∨ (¬ mv 6 r = 0 ∧ mv 14 j = nI f ∧ m_held mv (nI j) = false) then 1 else 0) else mv i j
theorem m_sqz_0 (mv : Nat → Nat → Int32) (f r : Nat) : m_sqz mv f r 0 = mv := by
  funext i j
  simp [m_sqz]
theorem m_sqz_s (mv : Nat → Nat → Int32) (f r k : Nat) (x : Int32) (hx : x = if ¬ mv 17 k = 0 ∨ (¬ mv 6 r = 0 ∧ mv 14 k = nI f ∧ m_held mv (nI k) = false) then 1 else 0) : rp_u2 (m_sqz mv f r k) 17 k x = m_sqz mv f r (k + 1) := by
  funext i j
  subst hx
  simp only [m_sqz, rp_u2]
  by_cases hj : j = k
  · subst hj
    by_cases h9 : i = 17
    · subst h9; simp
    · simp [h9]
  · have e : (j < k + 1) = (j < k) := propext (by omega)
    simp only [hj, and_false, if_false, e]
theorem m_sqz_held (mv : Nat → Nat → Int32) (f r k : Nat) (x : Int32) : m_held (m_sqz mv f r k) x = m_held mv x := by simp [m_held, m_sqz]
/-- whether the place p goes -/
def m_cond (mv : Nat → Nat → Int32) (f r : Nat) (md : Int32) (p : Nat) (left : Int32) : Bool := decide (mv 14 p = nI f) && !(m_held mv (nI p)) && decide (¬ md - mv 16 p < mv 3 r) && (decide (mv 4 r < left) || (decide (¬ mv 5 r ≤ 0) && decide (¬ md - mv 16 p ≤ mv 5 r)))
/-- throwing away from the place p on: the rows, how many places, how many went -/
def m_thr (f r : Nat) (md : Int32) : Nat → (Nat → Nat → Int32) → Nat → Nat → Int32 → Nat → (Nat → Nat → Int32) × Nat × Nat
  | 0, mv, n, _, _, s => (mv, n, s)
  | k + 1, mv, n, p, left, s => if m_cond mv f r md p left = true then m_thr f r md k (m_away mv p f (n - 1) 4) (n - 1) p (left + (-1)) (s + 1) else m_thr f r md k mv n (p + 1) left s
theorem m_away_bit {mv : Nat → Nat → Int32} {k g c w : Nat} (h : ∀ j, j < 4096 → mv 17 j = 0 ∨ mv 17 j = 1) (hc : c < 4096) : ∀ j, j < 4096 → m_away mv k g c w 17 j = 0 ∨ m_away mv k g c w 17 j = 1 := by
  intro j hj
  simp only [m_away]
  rw [if_neg (fun h => absurd h.1 (by decide))]
  split
  · rename_i h2
    exact h (j + 1) (by omega)
  · rw [if_neg (fun h => absurd h.1 (by decide))]
    exact h j hj
/-- all of a turn of f, whose rule is r, when there are n old parts -/
def m_tb (mv : Nat → Nat → Int32) (f r n : Nat) (md : Int32) : Nat → Nat → Int32 := m_sqz (m_b2 (m_hd (m_b1 mv f n md) f n 4) f md) f r n
def m_turn (mv : Nat → Nat → Int32) (f r n : Nat) (md : Int32) : (Nat → Nat → Int32) × Nat × Nat := m_thr f r md (n + 1) (m_tb mv f r n md) (n + 1) 0 (nI (m_cnt (m_tb mv f r n md) (nI f) (n + 1))) 0
theorem m_tb_bit {mv : Nat → Nat → Int32} {f r n : Nat} {md : Int32} (h : ∀ j, j < 4096 → mv 17 j = 0 ∨ mv 17 j = 1) : ∀ j, j < 4096 → m_tb mv f r n md 17 j = 0 ∨ m_tb mv f r n md 17 j = 1 := by
  intro j hj
  simp only [m_tb, m_sqz]
  split
  · split
    · exact Or.inr rfl
    · exact Or.inl rfl
  · simp only [m_b2, m_hd, m_b1, rp_u2]
    by_cases hjn : j = n
    · subst hjn; simp
    · simp [hjn]; exact h j hj
set_option maxHeartbeats 4000000 in
set_option maxRecDepth 100000 in
theorem c_X5_turns (l : Launch) {y : ly_T} {A : Nat → Prop} {G : gk_G} {td : Int32} {ru : Nat → Nat → Int32} {fr lv : Nat → Nat} {lt et tl : Nat → Int32} {hf hp : Nat → Option Nat} {ol : Nat → List Nat} {PS : Nat → Prop} {pf : Nat → Nat → Int32} {ov : Int64} {md mq mt : Int32} {mv : Nat → Nat → Int32} {f r n9 : Nat}  (hR : rp y G td ru fr lv lt et tl hf hp ol PS pf ov md mq mt mv) (hf5 : f < 5) (hr3 : r < 3) (hr9 : mv 9 f = nI r) (hq : mq = nI n9) (hn : n9 + 1 ≤ 4096) (hbit : ∀ j, j < 4096 → mv 17 j = 0 ∨ mv 17 j = 1) : gk_M0 l yX5_turns (Cond.code yX5_turns cX5_turns 8 (some .int)) 1 60 0 0 y A [.ref (ly_a y 5), .int (nI f)] G (fun v G1 => v = some (.int (nI (m_turn mv f r n9 md).2.2)) ∧ rp y G1 td ru fr lv lt et tl hf hp ol PS pf ov md (nI (m_turn mv f r n9 md).2.1) mt (m_turn mv f r n9 md).1) := by
  refine gk_of0 (cc := cX5_turns) (maxL := 8) (ret := (some .int)) (own := RX5) (by decide +kernel) rfl rfl (Nat.le_of_ble_eq_true rfl) ?_
  intro p e s m below meth c ls hK hret hlk _ hP hS hl
  have hl : lv_has ls 8 [(0, .ref (ly_a y 5)), (1, .int (nI f))] := hl
  subst hq
  refine lv_aload_n hK.1.1 hK.1.2.1 dX5_turns_0 rfl (lv_at hl 0 rfl) ?_
  refine mr_38 hK hP hR dX5_turns_1 ?_
  refine lv_iload_n hK.1.1 hK.1.2.1 dX5_turns_4 rfl (lv_at hl 1 rfl) ?_
  refine mr_ild hK hP hR 9 (by decide) rfl (j := f) hf5 dX5_turns_5 ?_
  rw [hr9]
  refine lv_istore_n (lv' := [(2, .int (nI r)), (0, .ref (ly_a y 5)), (1, .int (nI f))]) hK.1.1 hK.1.2.1 dX5_turns_6 rfl hl (by decide) rfl (fun ls hl => ?_)
  refine lv_aload_n hK.1.1 hK.1.2.1 dX5_turns_7 rfl (lv_at hl 1 rfl) ?_
  refine mr_53 hK hP hR dX5_turns_8 ?_
  refine lv_aload_n hK.1.1 hK.1.2.1 dX5_turns_11 rfl (lv_at hl 1 rfl) ?_
  refine mr_100 hK hP hR dX5_turns_12 ?_
  refine lv_iload_n hK.1.1 hK.1.2.1 dX5_turns_15 rfl (lv_at hl 2 rfl) ?_
  refine mw_ist hK hP hS hR 14 (by decide) rfl (j := n9) (show n9 < 4096 by omega) dX5_turns_16 (fun H locs G hP hS hR => ?_)
  refine lv_aload_n hK.1.1 hK.1.2.1 dX5_turns_17 rfl (lv_at hl 1 rfl) ?_
  refine mr_56 hK hP hR dX5_turns_18 ?_
  refine lv_aload_n hK.1.1 hK.1.2.1 dX5_turns_21 rfl (lv_at hl 1 rfl) ?_
  refine mr_100 hK hP hR dX5_turns_22 ?_
  refine lv_aload_n hK.1.1 hK.1.2.1 dX5_turns_25 rfl (lv_at hl 1 rfl) ?_
  refine mr_41 hK hP hR dX5_turns_26 ?_
  refine lv_iload_n hK.1.1 hK.1.2.1 dX5_turns_29 rfl (lv_at hl 2 rfl) ?_
  refine mr_ild hK hP hR 10 (by decide) rfl (j := f) hf5 dX5_turns_30 ?_
  rw [show ((rp_u2 mv 14 n9 (nI f)) 10 f) = mv 10 f by simp [rp_u2]]
  refine mw_ist hK hP hS hR 15 (by decide) rfl (j := n9) (show n9 < 4096 by omega) dX5_turns_31 (fun H locs G hP hS hR => ?_)
  refine lv_aload_n hK.1.1 hK.1.2.1 dX5_turns_32 rfl (lv_at hl 1 rfl) ?_
  refine mr_59 hK hP hR dX5_turns_33 ?_
  refine lv_aload_n hK.1.1 hK.1.2.1 dX5_turns_36 rfl (lv_at hl 1 rfl) ?_
  refine mr_100 hK hP hR dX5_turns_37 ?_
  refine lv_aload_n hK.1.1 hK.1.2.1 dX5_turns_40 rfl (lv_at hl 1 rfl) ?_
  refine mr_93 hK hP hR dX5_turns_41 ?_
  refine mw_ist hK hP hS hR 16 (by decide) rfl (j := n9) (show n9 < 4096 by omega) dX5_turns_44 (fun H locs G hP hS hR => ?_)
  refine lv_aload_n hK.1.1 hK.1.2.1 dX5_turns_45 rfl (lv_at hl 1 rfl) ?_
  refine mr_62 hK hP hR dX5_turns_46 ?_
  refine lv_aload_n hK.1.1 hK.1.2.1 dX5_turns_49 rfl (lv_at hl 1 rfl) ?_
  refine mr_100 hK hP hR dX5_turns_50 ?_
  refine lv_iconst (v := 0) hK.1.1 hK.1.2.1 dX5_turns_53 (by decide) ?_
  refine mw_zst hK hP hS hR 17 (by decide) rfl (j := n9) (show n9 < 4096 by omega) (by decide) dX5_turns_54 (fun H locs G hP hS hR => ?_)
  refine lv_iconst (v := 0) hK.1.1 hK.1.2.1 dX5_turns_55 (by decide) ?_
  refine lv_istore_n (lv' := [(3, .int 0), (2, .int (nI r)), (0, .ref (ly_a y 5)), (1, .int (nI f))]) hK.1.1 hK.1.2.1 dX5_turns_56 rfl hl (by decide) rfl (fun ls hl => ?_)
  have loop : ∀ (dd : Nat) (w9 : Nat) (ls : Array Slot) (H : Heap) (locs : List Loc) (G : gk_G), 4 - w9 = dd → (w9 ≤ 4) → gk_P (ly_D y) A G H → va_S A s.heap H locs → rp y G td ru fr lv lt et tl hf hp ol PS pf ov md (nI n9) mt (m_hd (m_b1 mv f n9 md) f n9 w9) → lv_has ls 8 [(3, .int (nI w9)), (2, .int (nI r)), (0, .ref (ly_a y 5)), (1, .int (nI f))] → W p l e { frames := 1, cells := 0, slots := 0, locals := 60 } s m [.ref (ly_a y 5), .int (nI f)].toArray below meth c H locs 0 0 (MQ below (gk_Q y A (fun v G1 => v = some (.int (nI (m_turn mv f r n9 md).2.2)) ∧ rp y G1 td ru fr lv lt et tl hf hp ol PS pf ov md (nI (m_turn mv f r n9 md).2.1) mt (m_turn mv f r n9 md).1)) [.ref (ly_a y 5), .int (nI f)].toArray s 0 0 A) (F0 m 57 ls []) := by
    intro dd
    induction dd using Nat.strongRecOn with
    | _ dd ih =>
    intro w9 ls H locs G hdd hw4 hP hS hR hl
    refine lv_iload_n hK.1.1 hK.1.2.1 dX5_turns_57 rfl (lv_at hl 0 rfl) ?_
    refine lv_iconst (v := 4) hK.1.1 hK.1.2.1 dX5_turns_58 (by decide) ?_
    refine lv_icmp_ge (tgt := 107) hK.1.1 hK.1.2.1 dX5_turns_59 (by decide) (fun c59_1 => ?_) (fun c59_1 => ?_)
    · have hw5 : 4 = w9 := Nat.le_antisymm ((nI_leI (a := 4) (by omega) (by omega)).mp c59_1) hw4
      subst hw5
      refine lv_aload_n hK.1.1 hK.1.2.1 dX5_turns_107 rfl (lv_at hl 2 rfl) ?_
      refine lv_dup hK.1.1 hK.1.2.1 dX5_turns_108 rfl ?_
      refine mr_100 hK hP hR dX5_turns_109 ?_
      refine lv_iconst (v := 1) hK.1.1 hK.1.2.1 dX5_turns_112 (by decide) ?_
      refine lv_iadd hK.1.1 hK.1.2.1 dX5_turns_113 ?_
      rw [nI_1]
      refine mw_100 hK hP hS hR dX5_turns_114 (fun H locs G hP hS hR => ?_)
      refine lv_aload_n hK.1.1 hK.1.2.1 dX5_turns_117 rfl (lv_at hl 2 rfl) ?_
      refine mr_41 hK hP hR dX5_turns_118 ?_
      refine lv_iload_n hK.1.1 hK.1.2.1 dX5_turns_121 rfl (lv_at hl 3 rfl) ?_
      refine lv_iconst (v := 0) hK.1.1 hK.1.2.1 dX5_turns_122 (by decide) ?_
      refine mw_ist hK hP hS hR 10 (by decide) rfl (j := f) hf5 dX5_turns_123 (fun H locs G hP hS hR => ?_)
      refine lv_aload_n hK.1.1 hK.1.2.1 dX5_turns_124 rfl (lv_at hl 2 rfl) ?_
      refine mr_44 hK hP hR dX5_turns_125 ?_
      refine lv_iload_n hK.1.1 hK.1.2.1 dX5_turns_128 rfl (lv_at hl 3 rfl) ?_
      refine lv_aload_n hK.1.1 hK.1.2.1 dX5_turns_129 rfl (lv_at hl 2 rfl) ?_
      refine mr_93 hK hP hR dX5_turns_130 ?_
      refine mw_ist hK hP hS hR 11 (by decide) rfl (j := f) hf5 dX5_turns_133 (fun H locs G hP hS hR => ?_)
      refine lv_aload_n hK.1.1 hK.1.2.1 dX5_turns_134 rfl (lv_at hl 2 rfl) ?_
      refine mr_47 hK hP hR dX5_turns_135 ?_
      refine lv_iload_n hK.1.1 hK.1.2.1 dX5_turns_138 rfl (lv_at hl 3 rfl) ?_
      refine lv_iconst (v := 1) hK.1.1 hK.1.2.1 dX5_turns_139 (by decide) ?_
      refine mw_zst hK hP hS hR 12 (by decide) rfl (j := f) hf5 (by decide) dX5_turns_140 (fun H locs G hP hS hR => ?_)
      refine lv_iconst (v := 0) hK.1.1 hK.1.2.1 dX5_turns_141 (by decide) ?_
      refine lv_istore_n (lv' := [(3, .int 0), (2, .int (nI r)), (0, .ref (ly_a y 5)), (1, .int (nI f))]) hK.1.1 hK.1.2.1 dX5_turns_142 rfl hl (by decide) rfl (fun ls hl => ?_)
      have loopb : ∀ (dd : Nat) (k : Nat) (ls : Array Slot) (H : Heap) (locs : List Loc) (G : gk_G), n9 - k = dd → (k ≤ n9) → gk_P (ly_D y) A G H → va_S A s.heap H locs → rp y G td ru fr lv lt et tl hf hp ol PS pf ov md (nI (n9 + 1)) mt (m_sqz (m_b2 (m_hd (m_b1 mv f n9 md) f n9 4) f md) f r k) → lv_has ls 8 [(3, .int (nI k)), (2, .int (nI r)), (0, .ref (ly_a y 5)), (1, .int (nI f))] → W p l e { frames := 1, cells := 0, slots := 0, locals := 60 } s m [.ref (ly_a y 5), .int (nI f)].toArray below meth c H locs 0 0 (MQ below (gk_Q y A (fun v G1 => v = some (.int (nI (m_turn mv f r n9 md).2.2)) ∧ rp y G1 td ru fr lv lt et tl hf hp ol PS pf ov md (nI (m_turn mv f r n9 md).2.1) mt (m_turn mv f r n9 md).1)) [.ref (ly_a y 5), .int (nI f)].toArray s 0 0 A) (F0 m 143 ls []) := by
        intro dd
        induction dd using Nat.strongRecOn with
        | _ dd ih =>
        intro k ls H locs G hdd hk hP hS hR hl
        refine lv_iload_n hK.1.1 hK.1.2.1 dX5_turns_143 rfl (lv_at hl 0 rfl) ?_
        refine lv_aload_n hK.1.1 hK.1.2.1 dX5_turns_144 rfl (lv_at hl 2 rfl) ?_
        refine mr_100 hK hP hR dX5_turns_145 ?_
        refine lv_iconst (v := 1) hK.1.1 hK.1.2.1 dX5_turns_148 (by decide) ?_
        refine lv_isub hK.1.1 hK.1.2.1 dX5_turns_149 ?_
        rw [nI_pred]
        refine lv_icmp_ge (tgt := 206) hK.1.1 hK.1.2.1 dX5_turns_150 (by decide) (fun c150_2 => ?_) (fun c150_2 => ?_)
        · have hkn : n9 = k := Nat.le_antisymm ((nI_leI (by omega) (by omega)).mp c150_2) hk
          subst hkn
          have hR : rp y G td ru fr lv lt et tl hf hp ol PS pf ov md (nI (n9 + 1)) mt (m_tb mv f r n9 md) := hR
          have hbt : ∀ j, j < 4096 → m_tb mv f r n9 md 17 j = 0 ∨ m_tb mv f r n9 md 17 j = 1 := m_tb_bit hbit
          refine lv_iconst (v := 0) hK.1.1 hK.1.2.1 dX5_turns_206 (by decide) ?_
          refine lv_istore_n (lv' := [(3, .int 0), (2, .int (nI r)), (0, .ref (ly_a y 5)), (1, .int (nI f))]) hK.1.1 hK.1.2.1 dX5_turns_207 rfl hl (by decide) rfl (fun ls hl => ?_)
          refine lv_aload_n hK.1.1 hK.1.2.1 dX5_turns_208 rfl (lv_at hl 2 rfl) ?_
          refine lv_iload_n hK.1.1 hK.1.2.1 dX5_turns_209 rfl (lv_at hl 3 rfl) ?_
          refine gk_callV0 (n := 1) (As := [.int (nI f)]) (rest := []) hK (c_X5_oldsOf l hR (x9 := (nI f)) rfl (show n9 + 1 ≤ 4096 by omega)) (gk_gV q_17_23 q_18_0 q_18_1 q_1_5 q_18_2) ⟨rfl, by decide +kernel, by decide +kernel, by decide +kernel⟩ ⟨(Nat.le_of_ble_eq_true rfl), (Nat.le_of_ble_eq_true rfl)⟩ hP hS (gk_recv hK.2.2.1.1 hP hR.2.2.2.2.2.2.2.2.1 rfl) rfl hl.1 rfl (Nat.le_of_ble_eq_true rfl) dX5_turns_210 ⟨(Nat.le_of_ble_eq_true rfl), (Nat.le_of_ble_eq_true rfl)⟩ (fun v G1 H locs hw hP hS => ?_)
          obtain ⟨rfl, hG9⟩ := hw
          rw [hG9] at hP
          refine W.eq (g2 := F0 m 213 ls [.int (nI (m_cnt (m_tb mv f r n9 md) (nI f) (n9 + 1)))]) rfl ?_
          refine lv_istore (lv' := [(4, .int (nI (m_cnt (m_tb mv f r n9 md) (nI f) (n9 + 1)))), (3, .int 0), (2, .int (nI r)), (0, .ref (ly_a y 5)), (1, .int (nI f))]) hK.1.1 hK.1.2.1 dX5_turns_213 hl (by decide) rfl (fun ls hl => ?_)
          refine lv_iconst (v := 0) hK.1.1 hK.1.2.1 dX5_turns_215 (by decide) ?_
          refine lv_istore (lv' := [(5, .int 0), (4, .int (nI (m_cnt (m_tb mv f r n9 md) (nI f) (n9 + 1)))), (3, .int 0), (2, .int (nI r)), (0, .ref (ly_a y 5)), (1, .int (nI f))]) hK.1.1 hK.1.2.1 dX5_turns_216 hl (by decide) rfl (fun ls hl => ?_)
          have loopc : ∀ (dd : Nat) (pz : Nat) (mvc : Nat → Nat → Int32) (nc : Nat) (left : Int32) (sm : Nat) (ls : Array Slot) (H : Heap) (locs : List Loc) (G : gk_G), nc - pz = dd → (pz ≤ nc) → (nc ≤ 4096) → (∀ j, j < 4096 → mvc 17 j = 0 ∨ mvc 17 j = 1) → (m_thr f r md (nc - pz) mvc nc pz left sm = (m_turn mv f r n9 md)) → gk_P (ly_D y) A G H → va_S A s.heap H locs → rp y G td ru fr lv lt et tl hf hp ol PS pf ov md (nI nc) mt mvc → lv_has ls 8 [(5, .int (nI pz)), (4, .int left), (3, .int (nI sm)), (2, .int (nI r)), (0, .ref (ly_a y 5)), (1, .int (nI f))] → W p l e { frames := 1, cells := 0, slots := 0, locals := 60 } s m [.ref (ly_a y 5), .int (nI f)].toArray below meth c H locs 0 0 (MQ below (gk_Q y A (fun v G1 => v = some (.int (nI (m_turn mv f r n9 md).2.2)) ∧ rp y G1 td ru fr lv lt et tl hf hp ol PS pf ov md (nI (m_turn mv f r n9 md).2.1) mt (m_turn mv f r n9 md).1)) [.ref (ly_a y 5), .int (nI f)].toArray s 0 0 A) (F0 m 218 ls []) := by
            intro dd
            induction dd using Nat.strongRecOn with
            | _ dd ih =>
            intro pz mvc nc left sm ls H locs G hdd hpz hnc hb hfin hP hS hR hl
            refine lv_iload hK.1.1 hK.1.2.1 dX5_turns_218 (lv_at hl 0 rfl) ?_
            refine lv_aload_n hK.1.1 hK.1.2.1 dX5_turns_220 rfl (lv_at hl 4 rfl) ?_
            refine mr_100 hK hP hR dX5_turns_221 ?_
            refine lv_icmp_ge (tgt := 336) hK.1.1 hK.1.2.1 dX5_turns_224 (by decide) (fun c224_3 => ?_) (fun c224_3 => ?_)
            · have hkn : nc = pz := Nat.le_antisymm ((nI_leI (by omega) (by omega)).mp c224_3) hpz
              rw [show nc - pz = 0 by omega] at hfin
              refine lv_iload_n hK.1.1 hK.1.2.1 dX5_turns_336 rfl (lv_at hl 2 rfl) ?_
              exact gk_iret0 hK.1 hret hlk hP hS (Nat.le_of_ble_eq_true rfl) (Nat.le_of_ble_eq_true rfl) dX5_turns_337 (⟨by rw [← hfin]; rfl, by rw [← hfin]; exact hR⟩)
            · have hkn : pz < nc := Nat.lt_of_not_le (fun h => c224_3 (nI_le h (by omega)))
              obtain ⟨m9, rfl⟩ : ∃ m9, nc = m9 + 1 := ⟨nc - 1, by omega⟩
              refine lv_aload_n hK.1.1 hK.1.2.1 dX5_turns_227 rfl (lv_at hl 4 rfl) ?_
              refine mr_93 hK hP hR dX5_turns_228 ?_
              refine lv_aload_n hK.1.1 hK.1.2.1 dX5_turns_231 rfl (lv_at hl 4 rfl) ?_
              refine mr_59 hK hP hR dX5_turns_232 ?_
              refine lv_iload hK.1.1 hK.1.2.1 dX5_turns_235 (lv_at hl 0 rfl) ?_
              refine mr_ild hK hP hR 16 (by decide) rfl (j := pz) (show pz < 4096 by omega) dX5_turns_237 ?_
              refine lv_isub hK.1.1 hK.1.2.1 dX5_turns_238 ?_
              refine lv_istore (lv' := [(6, .int (md - (mvc 16 pz))), (5, .int (nI pz)), (4, .int left), (3, .int (nI sm)), (2, .int (nI r)), (0, .ref (ly_a y 5)), (1, .int (nI f))]) hK.1.1 hK.1.2.1 dX5_turns_239 hl (by decide) rfl (fun ls hl => ?_)
              refine lv_iload hK.1.1 hK.1.2.1 dX5_turns_241 (lv_at hl 2 rfl) ?_
              refine lv_aload_n hK.1.1 hK.1.2.1 dX5_turns_243 rfl (lv_at hl 5 rfl) ?_
              refine mr_22 hK hP hR dX5_turns_244 ?_
              refine lv_iload_n hK.1.1 hK.1.2.1 dX5_turns_247 rfl (lv_at hl 4 rfl) ?_
              refine mr_ild hK hP hR 4 (by decide) rfl (j := r) hr3 dX5_turns_248 ?_
              refine lv_icmp_gt (tgt := 272) hK.1.1 hK.1.2.1 dX5_turns_249 (by decide) (fun c249_4 => ?_) (fun c249_4 => ?_)
              · refine lv_iconst (v := 1) hK.1.1 hK.1.2.1 dX5_turns_272 (by decide) ?_
                refine lv_goto (tgt := 277) hK.1.1 hK.1.2.1 dX5_turns_273 (by decide) ?_
                refine lv_istore (lv' := [(7, .int 1), (6, .int (md - (mvc 16 pz))), (5, .int (nI pz)), (4, .int left), (3, .int (nI sm)), (2, .int (nI r)), (0, .ref (ly_a y 5)), (1, .int (nI f))]) hK.1.1 hK.1.2.1 dX5_turns_277 hl (by decide) rfl (fun ls hl => ?_)
                refine lv_aload_n hK.1.1 hK.1.2.1 dX5_turns_279 rfl (lv_at hl 6 rfl) ?_
                refine mr_53 hK hP hR dX5_turns_280 ?_
                refine lv_iload hK.1.1 hK.1.2.1 dX5_turns_283 (lv_at hl 2 rfl) ?_
                refine mr_ild hK hP hR 14 (by decide) rfl (j := pz) (show pz < 4096 by omega) dX5_turns_285 ?_
                refine lv_iload_n hK.1.1 hK.1.2.1 dX5_turns_286 rfl (lv_at hl 7 rfl) ?_
                refine lv_icmp_ne (tgt := 330) hK.1.1 hK.1.2.1 dX5_turns_287 (by decide) (fun c287_5 => ?_) (fun c287_5 => ?_)
                · have hcd : m_cond mvc f r md pz left = false := by simp [m_cond, c249_4, c287_5]
                  refine lv_iinc (v := nI (pz + 1)) (lv' := [(5, .int (nI (pz + 1))), (7, .int 1), (6, .int (md - (mvc 16 pz))), (4, .int left), (3, .int (nI sm)), (2, .int (nI r)), (0, .ref (ly_a y 5)), (1, .int (nI f))]) hK.1.1 hK.1.2.1 dX5_turns_330 hl (k := 2) rfl (nI_1 pz) (by decide) rfl (fun ls hl => ?_)
                  refine lv_goto (tgt := 218) hK.1.1 hK.1.2.1 dX5_turns_333 (by decide) ?_
                  exact ih (m9 + 1 - (pz + 1)) (by omega)  (pz + 1) mvc (m9 + 1) left sm ls _ _ _ rfl (by omega) hnc hb (by rw [← hfin, show m9 + 1 - pz = (m9 + 1 - (pz + 1)) + 1 by omega]; simp only [m_thr, hcd, Bool.false_eq_true, if_false]) hP hS hR (lv_sub hl [0, 3, 4, 5, 6, 7] rfl)
                · refine lv_aload_n hK.1.1 hK.1.2.1 dX5_turns_290 rfl (lv_at hl 6 rfl) ?_
                  refine lv_iload hK.1.1 hK.1.2.1 dX5_turns_291 (lv_at hl 2 rfl) ?_
                  refine gk_callV0 (n := 1) (As := [.int (nI pz)]) (rest := []) hK (c_X5_isHeld l hR (x9 := (nI pz))) (gk_gV q_17_19 q_17_20 q_17_21 q_1_5 q_17_22) ⟨rfl, by decide +kernel, by decide +kernel, by decide +kernel⟩ ⟨(Nat.le_of_ble_eq_true rfl), (Nat.le_of_ble_eq_true rfl)⟩ hP hS (gk_recv hK.2.2.1.1 hP hR.2.2.2.2.2.2.2.2.1 rfl) rfl hl.1 rfl (Nat.le_of_ble_eq_true rfl) dX5_turns_293 ⟨(Nat.le_of_ble_eq_true rfl), (Nat.le_of_ble_eq_true rfl)⟩ (fun v G1 H locs hw hP hS => ?_)
                  obtain ⟨rfl, hG9⟩ := hw
                  rw [hG9] at hP
                  refine W.eq (g2 := F0 m 296 ls [.int (rg_b (m_held mvc (nI pz)))]) rfl ?_
                  refine lv_if_ne (tgt := 330) hK.1.1 hK.1.2.1 dX5_turns_296 (by decide) (fun c296_6 => ?_) (fun c296_6 => ?_)
                  · have hhd : m_held mvc (nI pz) = true := rg_bt c296_6
                    have hcd : m_cond mvc f r md pz left = false := by simp [m_cond, c249_4, c287_5, hhd]
                    refine lv_iinc (v := nI (pz + 1)) (lv' := [(5, .int (nI (pz + 1))), (7, .int 1), (6, .int (md - (mvc 16 pz))), (4, .int left), (3, .int (nI sm)), (2, .int (nI r)), (0, .ref (ly_a y 5)), (1, .int (nI f))]) hK.1.1 hK.1.2.1 dX5_turns_330 hl (k := 2) rfl (nI_1 pz) (by decide) rfl (fun ls hl => ?_)
                    refine lv_goto (tgt := 218) hK.1.1 hK.1.2.1 dX5_turns_333 (by decide) ?_
                    exact ih (m9 + 1 - (pz + 1)) (by omega)  (pz + 1) mvc (m9 + 1) left sm ls _ _ _ rfl (by omega) hnc hb (by rw [← hfin, show m9 + 1 - pz = (m9 + 1 - (pz + 1)) + 1 by omega]; simp only [m_thr, hcd, Bool.false_eq_true, if_false]) hP hS hR (lv_sub hl [0, 3, 4, 5, 6, 7] rfl)
                  · refine lv_iload hK.1.1 hK.1.2.1 dX5_turns_299 (lv_at hl 1 rfl) ?_
                    refine lv_aload_n hK.1.1 hK.1.2.1 dX5_turns_301 rfl (lv_at hl 6 rfl) ?_
                    refine mr_19 hK hP hR dX5_turns_302 ?_
                    refine lv_iload_n hK.1.1 hK.1.2.1 dX5_turns_305 rfl (lv_at hl 5 rfl) ?_
                    refine mr_ild hK hP hR 3 (by decide) rfl (j := r) hr3 dX5_turns_306 ?_
                    refine lv_icmp_lt (tgt := 330) hK.1.1 hK.1.2.1 dX5_turns_307 (by decide) (fun c307_7 => ?_) (fun c307_7 => ?_)
                    · have hhd : m_held mvc (nI pz) = false := rg_b0.mp c296_6
                      have hcd : m_cond mvc f r md pz left = false := by simp [m_cond, c249_4, c287_5, c307_7, hhd]
                      refine lv_iinc (v := nI (pz + 1)) (lv' := [(5, .int (nI (pz + 1))), (7, .int 1), (6, .int (md - (mvc 16 pz))), (4, .int left), (3, .int (nI sm)), (2, .int (nI r)), (0, .ref (ly_a y 5)), (1, .int (nI f))]) hK.1.1 hK.1.2.1 dX5_turns_330 hl (k := 2) rfl (nI_1 pz) (by decide) rfl (fun ls hl => ?_)
                      refine lv_goto (tgt := 218) hK.1.1 hK.1.2.1 dX5_turns_333 (by decide) ?_
                      exact ih (m9 + 1 - (pz + 1)) (by omega)  (pz + 1) mvc (m9 + 1) left sm ls _ _ _ rfl (by omega) hnc hb (by rw [← hfin, show m9 + 1 - pz = (m9 + 1 - (pz + 1)) + 1 by omega]; simp only [m_thr, hcd, Bool.false_eq_true, if_false]) hP hS hR (lv_sub hl [0, 3, 4, 5, 6, 7] rfl)
                    · have hhd : m_held mvc (nI pz) = false := rg_b0.mp c296_6
                      have hcd : m_cond mvc f r md pz left = true := by simp [m_cond, c249_4, c287_5, c307_7, hhd]
                      refine lv_iload hK.1.1 hK.1.2.1 dX5_turns_310 (lv_at hl 0 rfl) ?_
                      refine lv_if_eq (tgt := 330) hK.1.1 hK.1.2.1 dX5_turns_312 (by decide) (fun c => absurd c (by decide)) (fun _ => ?_)
                      refine lv_aload_n hK.1.1 hK.1.2.1 dX5_turns_315 rfl (lv_at hl 6 rfl) ?_
                      refine lv_iload hK.1.1 hK.1.2.1 dX5_turns_316 (lv_at hl 2 rfl) ?_
                      refine gk_callV0 (n := 1) (As := [.int (nI pz)]) (rest := []) hK (c_X5_throwsAway l hR (k := pz) (g := f) (n9 := m9) rfl (by omega) (by omega) hf5 c287_5 hb) (gk_gV q_18_3 q_18_4 q_18_5 q_1_5 q_18_6) ⟨rfl, by decide +kernel, by decide +kernel, by decide +kernel⟩ ⟨(Nat.le_of_ble_eq_true rfl), (Nat.le_of_ble_eq_true rfl)⟩ hP hS (gk_recv hK.2.2.1.1 hP hR.2.2.2.2.2.2.2.2.1 rfl) rfl hl.1 rfl (Nat.le_of_ble_eq_true rfl) dX5_turns_318 ⟨(Nat.le_of_ble_eq_true rfl), (Nat.le_of_ble_eq_true rfl)⟩ (fun v G1 H locs hw hP hS => ?_)
                      obtain ⟨rfl, hR⟩ := hw
                      refine W.eq (g2 := F0 m 321 ls []) rfl ?_
                      refine lv_iinc (v := left + (-1)) (lv' := [(4, .int (left + (-1))), (7, .int 1), (6, .int (md - (mvc 16 pz))), (5, .int (nI pz)), (3, .int (nI sm)), (2, .int (nI r)), (0, .ref (ly_a y 5)), (1, .int (nI f))]) hK.1.1 hK.1.2.1 dX5_turns_321 hl (k := 3) rfl rfl (by decide) rfl (fun ls hl => ?_)
                      refine lv_iinc (v := nI (sm + 1)) (lv' := [(3, .int (nI (sm + 1))), (4, .int (left + (-1))), (7, .int 1), (6, .int (md - (mvc 16 pz))), (5, .int (nI pz)), (2, .int (nI r)), (0, .ref (ly_a y 5)), (1, .int (nI f))]) hK.1.1 hK.1.2.1 dX5_turns_324 hl (k := 4) rfl (nI_1 sm) (by decide) rfl (fun ls hl => ?_)
                      refine lv_goto (tgt := 333) hK.1.1 hK.1.2.1 dX5_turns_327 (by decide) ?_
                      refine lv_goto (tgt := 218) hK.1.1 hK.1.2.1 dX5_turns_333 (by decide) ?_
                      exact ih (m9 - pz) (by omega)  pz (m_away mvc pz f m9 4) m9 (left + (-1)) (sm + 1) ls _ _ _ rfl (by omega) (by omega) (m_away_bit hb (by omega)) (by rw [← hfin, show m9 + 1 - pz = (m9 - pz) + 1 by omega]; simp only [m_thr, hcd, if_true, Nat.add_sub_cancel]) hP hS hR (lv_sub hl [4, 1, 0, 5, 6, 7] rfl)
              · refine lv_aload_n hK.1.1 hK.1.2.1 dX5_turns_252 rfl (lv_at hl 5 rfl) ?_
                refine mr_25 hK hP hR dX5_turns_253 ?_
                refine lv_iload_n hK.1.1 hK.1.2.1 dX5_turns_256 rfl (lv_at hl 4 rfl) ?_
                refine mr_ild hK hP hR 5 (by decide) rfl (j := r) hr3 dX5_turns_257 ?_
                refine lv_if_le (tgt := 276) hK.1.1 hK.1.2.1 dX5_turns_258 (by decide) (fun c258_8 => ?_) (fun c258_8 => ?_)
                · refine lv_iconst (v := 0) hK.1.1 hK.1.2.1 dX5_turns_276 (by decide) ?_
                  refine lv_istore (lv' := [(7, .int 0), (6, .int (md - (mvc 16 pz))), (5, .int (nI pz)), (4, .int left), (3, .int (nI sm)), (2, .int (nI r)), (0, .ref (ly_a y 5)), (1, .int (nI f))]) hK.1.1 hK.1.2.1 dX5_turns_277 hl (by decide) rfl (fun ls hl => ?_)
                  refine lv_aload_n hK.1.1 hK.1.2.1 dX5_turns_279 rfl (lv_at hl 6 rfl) ?_
                  refine mr_53 hK hP hR dX5_turns_280 ?_
                  refine lv_iload hK.1.1 hK.1.2.1 dX5_turns_283 (lv_at hl 2 rfl) ?_
                  refine mr_ild hK hP hR 14 (by decide) rfl (j := pz) (show pz < 4096 by omega) dX5_turns_285 ?_
                  refine lv_iload_n hK.1.1 hK.1.2.1 dX5_turns_286 rfl (lv_at hl 7 rfl) ?_
                  refine lv_icmp_ne (tgt := 330) hK.1.1 hK.1.2.1 dX5_turns_287 (by decide) (fun c287_9 => ?_) (fun c287_9 => ?_)
                  · have hcd : m_cond mvc f r md pz left = false := by simp [m_cond, c249_4, c258_8, c287_9]
                    refine lv_iinc (v := nI (pz + 1)) (lv' := [(5, .int (nI (pz + 1))), (7, .int 0), (6, .int (md - (mvc 16 pz))), (4, .int left), (3, .int (nI sm)), (2, .int (nI r)), (0, .ref (ly_a y 5)), (1, .int (nI f))]) hK.1.1 hK.1.2.1 dX5_turns_330 hl (k := 2) rfl (nI_1 pz) (by decide) rfl (fun ls hl => ?_)
                    refine lv_goto (tgt := 218) hK.1.1 hK.1.2.1 dX5_turns_333 (by decide) ?_
                    exact ih (m9 + 1 - (pz + 1)) (by omega)  (pz + 1) mvc (m9 + 1) left sm ls _ _ _ rfl (by omega) hnc hb (by rw [← hfin, show m9 + 1 - pz = (m9 + 1 - (pz + 1)) + 1 by omega]; simp only [m_thr, hcd, Bool.false_eq_true, if_false]) hP hS hR (lv_sub hl [0, 3, 4, 5, 6, 7] rfl)
                  · refine lv_aload_n hK.1.1 hK.1.2.1 dX5_turns_290 rfl (lv_at hl 6 rfl) ?_
                    refine lv_iload hK.1.1 hK.1.2.1 dX5_turns_291 (lv_at hl 2 rfl) ?_
                    refine gk_callV0 (n := 1) (As := [.int (nI pz)]) (rest := []) hK (c_X5_isHeld l hR (x9 := (nI pz))) (gk_gV q_17_19 q_17_20 q_17_21 q_1_5 q_17_22) ⟨rfl, by decide +kernel, by decide +kernel, by decide +kernel⟩ ⟨(Nat.le_of_ble_eq_true rfl), (Nat.le_of_ble_eq_true rfl)⟩ hP hS (gk_recv hK.2.2.1.1 hP hR.2.2.2.2.2.2.2.2.1 rfl) rfl hl.1 rfl (Nat.le_of_ble_eq_true rfl) dX5_turns_293 ⟨(Nat.le_of_ble_eq_true rfl), (Nat.le_of_ble_eq_true rfl)⟩ (fun v G1 H locs hw hP hS => ?_)
                    obtain ⟨rfl, hG9⟩ := hw
                    rw [hG9] at hP
                    refine W.eq (g2 := F0 m 296 ls [.int (rg_b (m_held mvc (nI pz)))]) rfl ?_
                    refine lv_if_ne (tgt := 330) hK.1.1 hK.1.2.1 dX5_turns_296 (by decide) (fun c296_10 => ?_) (fun c296_10 => ?_)
                    · have hhd : m_held mvc (nI pz) = true := rg_bt c296_10
                      have hcd : m_cond mvc f r md pz left = false := by simp [m_cond, c249_4, c258_8, c287_9, hhd]
                      refine lv_iinc (v := nI (pz + 1)) (lv' := [(5, .int (nI (pz + 1))), (7, .int 0), (6, .int (md - (mvc 16 pz))), (4, .int left), (3, .int (nI sm)), (2, .int (nI r)), (0, .ref (ly_a y 5)), (1, .int (nI f))]) hK.1.1 hK.1.2.1 dX5_turns_330 hl (k := 2) rfl (nI_1 pz) (by decide) rfl (fun ls hl => ?_)
                      refine lv_goto (tgt := 218) hK.1.1 hK.1.2.1 dX5_turns_333 (by decide) ?_
                      exact ih (m9 + 1 - (pz + 1)) (by omega)  (pz + 1) mvc (m9 + 1) left sm ls _ _ _ rfl (by omega) hnc hb (by rw [← hfin, show m9 + 1 - pz = (m9 + 1 - (pz + 1)) + 1 by omega]; simp only [m_thr, hcd, Bool.false_eq_true, if_false]) hP hS hR (lv_sub hl [0, 3, 4, 5, 6, 7] rfl)
                    · refine lv_iload hK.1.1 hK.1.2.1 dX5_turns_299 (lv_at hl 1 rfl) ?_
                      refine lv_aload_n hK.1.1 hK.1.2.1 dX5_turns_301 rfl (lv_at hl 6 rfl) ?_
                      refine mr_19 hK hP hR dX5_turns_302 ?_
                      refine lv_iload_n hK.1.1 hK.1.2.1 dX5_turns_305 rfl (lv_at hl 5 rfl) ?_
                      refine mr_ild hK hP hR 3 (by decide) rfl (j := r) hr3 dX5_turns_306 ?_
                      refine lv_icmp_lt (tgt := 330) hK.1.1 hK.1.2.1 dX5_turns_307 (by decide) (fun c307_11 => ?_) (fun c307_11 => ?_)
                      · have hhd : m_held mvc (nI pz) = false := rg_b0.mp c296_10
                        have hcd : m_cond mvc f r md pz left = false := by simp [m_cond, c249_4, c258_8, c287_9, c307_11, hhd]
                        refine lv_iinc (v := nI (pz + 1)) (lv' := [(5, .int (nI (pz + 1))), (7, .int 0), (6, .int (md - (mvc 16 pz))), (4, .int left), (3, .int (nI sm)), (2, .int (nI r)), (0, .ref (ly_a y 5)), (1, .int (nI f))]) hK.1.1 hK.1.2.1 dX5_turns_330 hl (k := 2) rfl (nI_1 pz) (by decide) rfl (fun ls hl => ?_)
                        refine lv_goto (tgt := 218) hK.1.1 hK.1.2.1 dX5_turns_333 (by decide) ?_
                        exact ih (m9 + 1 - (pz + 1)) (by omega)  (pz + 1) mvc (m9 + 1) left sm ls _ _ _ rfl (by omega) hnc hb (by rw [← hfin, show m9 + 1 - pz = (m9 + 1 - (pz + 1)) + 1 by omega]; simp only [m_thr, hcd, Bool.false_eq_true, if_false]) hP hS hR (lv_sub hl [0, 3, 4, 5, 6, 7] rfl)
                      · have hhd : m_held mvc (nI pz) = false := rg_b0.mp c296_10
                        have hcd : m_cond mvc f r md pz left = false := by simp [m_cond, c249_4, c258_8, c287_9, c307_11, hhd]
                        refine lv_iload hK.1.1 hK.1.2.1 dX5_turns_310 (lv_at hl 0 rfl) ?_
                        refine lv_if_eq (tgt := 330) hK.1.1 hK.1.2.1 dX5_turns_312 (by decide) (fun _ => ?_) (fun c => absurd c (by decide))
                        refine lv_iinc (v := nI (pz + 1)) (lv' := [(5, .int (nI (pz + 1))), (7, .int 0), (6, .int (md - (mvc 16 pz))), (4, .int left), (3, .int (nI sm)), (2, .int (nI r)), (0, .ref (ly_a y 5)), (1, .int (nI f))]) hK.1.1 hK.1.2.1 dX5_turns_330 hl (k := 2) rfl (nI_1 pz) (by decide) rfl (fun ls hl => ?_)
                        refine lv_goto (tgt := 218) hK.1.1 hK.1.2.1 dX5_turns_333 (by decide) ?_
                        exact ih (m9 + 1 - (pz + 1)) (by omega)  (pz + 1) mvc (m9 + 1) left sm ls _ _ _ rfl (by omega) hnc hb (by rw [← hfin, show m9 + 1 - pz = (m9 + 1 - (pz + 1)) + 1 by omega]; simp only [m_thr, hcd, Bool.false_eq_true, if_false]) hP hS hR (lv_sub hl [0, 3, 4, 5, 6, 7] rfl)
                · refine lv_iload hK.1.1 hK.1.2.1 dX5_turns_261 (lv_at hl 0 rfl) ?_
                  refine lv_aload_n hK.1.1 hK.1.2.1 dX5_turns_263 rfl (lv_at hl 5 rfl) ?_
                  refine mr_25 hK hP hR dX5_turns_264 ?_
                  refine lv_iload_n hK.1.1 hK.1.2.1 dX5_turns_267 rfl (lv_at hl 4 rfl) ?_
                  refine mr_ild hK hP hR 5 (by decide) rfl (j := r) hr3 dX5_turns_268 ?_
                  refine lv_icmp_le (tgt := 276) hK.1.1 hK.1.2.1 dX5_turns_269 (by decide) (fun c269_12 => ?_) (fun c269_12 => ?_)
                  · refine lv_iconst (v := 0) hK.1.1 hK.1.2.1 dX5_turns_276 (by decide) ?_
                    refine lv_istore (lv' := [(7, .int 0), (6, .int (md - (mvc 16 pz))), (5, .int (nI pz)), (4, .int left), (3, .int (nI sm)), (2, .int (nI r)), (0, .ref (ly_a y 5)), (1, .int (nI f))]) hK.1.1 hK.1.2.1 dX5_turns_277 hl (by decide) rfl (fun ls hl => ?_)
                    refine lv_aload_n hK.1.1 hK.1.2.1 dX5_turns_279 rfl (lv_at hl 6 rfl) ?_
                    refine mr_53 hK hP hR dX5_turns_280 ?_
                    refine lv_iload hK.1.1 hK.1.2.1 dX5_turns_283 (lv_at hl 2 rfl) ?_
                    refine mr_ild hK hP hR 14 (by decide) rfl (j := pz) (show pz < 4096 by omega) dX5_turns_285 ?_
                    refine lv_iload_n hK.1.1 hK.1.2.1 dX5_turns_286 rfl (lv_at hl 7 rfl) ?_
                    refine lv_icmp_ne (tgt := 330) hK.1.1 hK.1.2.1 dX5_turns_287 (by decide) (fun c287_13 => ?_) (fun c287_13 => ?_)
                    · have hcd : m_cond mvc f r md pz left = false := by simp [m_cond, c249_4, c258_8, c269_12, c287_13]
                      refine lv_iinc (v := nI (pz + 1)) (lv' := [(5, .int (nI (pz + 1))), (7, .int 0), (6, .int (md - (mvc 16 pz))), (4, .int left), (3, .int (nI sm)), (2, .int (nI r)), (0, .ref (ly_a y 5)), (1, .int (nI f))]) hK.1.1 hK.1.2.1 dX5_turns_330 hl (k := 2) rfl (nI_1 pz) (by decide) rfl (fun ls hl => ?_)
                      refine lv_goto (tgt := 218) hK.1.1 hK.1.2.1 dX5_turns_333 (by decide) ?_
                      exact ih (m9 + 1 - (pz + 1)) (by omega)  (pz + 1) mvc (m9 + 1) left sm ls _ _ _ rfl (by omega) hnc hb (by rw [← hfin, show m9 + 1 - pz = (m9 + 1 - (pz + 1)) + 1 by omega]; simp only [m_thr, hcd, Bool.false_eq_true, if_false]) hP hS hR (lv_sub hl [0, 3, 4, 5, 6, 7] rfl)
                    · refine lv_aload_n hK.1.1 hK.1.2.1 dX5_turns_290 rfl (lv_at hl 6 rfl) ?_
                      refine lv_iload hK.1.1 hK.1.2.1 dX5_turns_291 (lv_at hl 2 rfl) ?_
                      refine gk_callV0 (n := 1) (As := [.int (nI pz)]) (rest := []) hK (c_X5_isHeld l hR (x9 := (nI pz))) (gk_gV q_17_19 q_17_20 q_17_21 q_1_5 q_17_22) ⟨rfl, by decide +kernel, by decide +kernel, by decide +kernel⟩ ⟨(Nat.le_of_ble_eq_true rfl), (Nat.le_of_ble_eq_true rfl)⟩ hP hS (gk_recv hK.2.2.1.1 hP hR.2.2.2.2.2.2.2.2.1 rfl) rfl hl.1 rfl (Nat.le_of_ble_eq_true rfl) dX5_turns_293 ⟨(Nat.le_of_ble_eq_true rfl), (Nat.le_of_ble_eq_true rfl)⟩ (fun v G1 H locs hw hP hS => ?_)
                      obtain ⟨rfl, hG9⟩ := hw
                      rw [hG9] at hP
                      refine W.eq (g2 := F0 m 296 ls [.int (rg_b (m_held mvc (nI pz)))]) rfl ?_
                      refine lv_if_ne (tgt := 330) hK.1.1 hK.1.2.1 dX5_turns_296 (by decide) (fun c296_14 => ?_) (fun c296_14 => ?_)
                      · have hhd : m_held mvc (nI pz) = true := rg_bt c296_14
                        have hcd : m_cond mvc f r md pz left = false := by simp [m_cond, c249_4, c258_8, c269_12, c287_13, hhd]
                        refine lv_iinc (v := nI (pz + 1)) (lv' := [(5, .int (nI (pz + 1))), (7, .int 0), (6, .int (md - (mvc 16 pz))), (4, .int left), (3, .int (nI sm)), (2, .int (nI r)), (0, .ref (ly_a y 5)), (1, .int (nI f))]) hK.1.1 hK.1.2.1 dX5_turns_330 hl (k := 2) rfl (nI_1 pz) (by decide) rfl (fun ls hl => ?_)
                        refine lv_goto (tgt := 218) hK.1.1 hK.1.2.1 dX5_turns_333 (by decide) ?_
                        exact ih (m9 + 1 - (pz + 1)) (by omega)  (pz + 1) mvc (m9 + 1) left sm ls _ _ _ rfl (by omega) hnc hb (by rw [← hfin, show m9 + 1 - pz = (m9 + 1 - (pz + 1)) + 1 by omega]; simp only [m_thr, hcd, Bool.false_eq_true, if_false]) hP hS hR (lv_sub hl [0, 3, 4, 5, 6, 7] rfl)
                      · refine lv_iload hK.1.1 hK.1.2.1 dX5_turns_299 (lv_at hl 1 rfl) ?_
                        refine lv_aload_n hK.1.1 hK.1.2.1 dX5_turns_301 rfl (lv_at hl 6 rfl) ?_
                        refine mr_19 hK hP hR dX5_turns_302 ?_
                        refine lv_iload_n hK.1.1 hK.1.2.1 dX5_turns_305 rfl (lv_at hl 5 rfl) ?_
                        refine mr_ild hK hP hR 3 (by decide) rfl (j := r) hr3 dX5_turns_306 ?_
                        refine lv_icmp_lt (tgt := 330) hK.1.1 hK.1.2.1 dX5_turns_307 (by decide) (fun c307_15 => ?_) (fun c307_15 => ?_)
                        · have hhd : m_held mvc (nI pz) = false := rg_b0.mp c296_14
                          have hcd : m_cond mvc f r md pz left = false := by simp [m_cond, c249_4, c258_8, c269_12, c287_13, c307_15, hhd]
                          refine lv_iinc (v := nI (pz + 1)) (lv' := [(5, .int (nI (pz + 1))), (7, .int 0), (6, .int (md - (mvc 16 pz))), (4, .int left), (3, .int (nI sm)), (2, .int (nI r)), (0, .ref (ly_a y 5)), (1, .int (nI f))]) hK.1.1 hK.1.2.1 dX5_turns_330 hl (k := 2) rfl (nI_1 pz) (by decide) rfl (fun ls hl => ?_)
                          refine lv_goto (tgt := 218) hK.1.1 hK.1.2.1 dX5_turns_333 (by decide) ?_
                          exact ih (m9 + 1 - (pz + 1)) (by omega)  (pz + 1) mvc (m9 + 1) left sm ls _ _ _ rfl (by omega) hnc hb (by rw [← hfin, show m9 + 1 - pz = (m9 + 1 - (pz + 1)) + 1 by omega]; simp only [m_thr, hcd, Bool.false_eq_true, if_false]) hP hS hR (lv_sub hl [0, 3, 4, 5, 6, 7] rfl)
                        · have hhd : m_held mvc (nI pz) = false := rg_b0.mp c296_14
                          have hcd : m_cond mvc f r md pz left = false := by simp [m_cond, c249_4, c258_8, c269_12, c287_13, c307_15, hhd]
                          refine lv_iload hK.1.1 hK.1.2.1 dX5_turns_310 (lv_at hl 0 rfl) ?_
                          refine lv_if_eq (tgt := 330) hK.1.1 hK.1.2.1 dX5_turns_312 (by decide) (fun _ => ?_) (fun c => absurd c (by decide))
                          refine lv_iinc (v := nI (pz + 1)) (lv' := [(5, .int (nI (pz + 1))), (7, .int 0), (6, .int (md - (mvc 16 pz))), (4, .int left), (3, .int (nI sm)), (2, .int (nI r)), (0, .ref (ly_a y 5)), (1, .int (nI f))]) hK.1.1 hK.1.2.1 dX5_turns_330 hl (k := 2) rfl (nI_1 pz) (by decide) rfl (fun ls hl => ?_)
                          refine lv_goto (tgt := 218) hK.1.1 hK.1.2.1 dX5_turns_333 (by decide) ?_
                          exact ih (m9 + 1 - (pz + 1)) (by omega)  (pz + 1) mvc (m9 + 1) left sm ls _ _ _ rfl (by omega) hnc hb (by rw [← hfin, show m9 + 1 - pz = (m9 + 1 - (pz + 1)) + 1 by omega]; simp only [m_thr, hcd, Bool.false_eq_true, if_false]) hP hS hR (lv_sub hl [0, 3, 4, 5, 6, 7] rfl)
                  · refine lv_iconst (v := 1) hK.1.1 hK.1.2.1 dX5_turns_272 (by decide) ?_
                    refine lv_goto (tgt := 277) hK.1.1 hK.1.2.1 dX5_turns_273 (by decide) ?_
                    refine lv_istore (lv' := [(7, .int 1), (6, .int (md - (mvc 16 pz))), (5, .int (nI pz)), (4, .int left), (3, .int (nI sm)), (2, .int (nI r)), (0, .ref (ly_a y 5)), (1, .int (nI f))]) hK.1.1 hK.1.2.1 dX5_turns_277 hl (by decide) rfl (fun ls hl => ?_)
                    refine lv_aload_n hK.1.1 hK.1.2.1 dX5_turns_279 rfl (lv_at hl 6 rfl) ?_
                    refine mr_53 hK hP hR dX5_turns_280 ?_
                    refine lv_iload hK.1.1 hK.1.2.1 dX5_turns_283 (lv_at hl 2 rfl) ?_
                    refine mr_ild hK hP hR 14 (by decide) rfl (j := pz) (show pz < 4096 by omega) dX5_turns_285 ?_
                    refine lv_iload_n hK.1.1 hK.1.2.1 dX5_turns_286 rfl (lv_at hl 7 rfl) ?_
                    refine lv_icmp_ne (tgt := 330) hK.1.1 hK.1.2.1 dX5_turns_287 (by decide) (fun c287_16 => ?_) (fun c287_16 => ?_)
                    · have hcd : m_cond mvc f r md pz left = false := by simp [m_cond, c249_4, c258_8, c269_12, c287_16]
                      refine lv_iinc (v := nI (pz + 1)) (lv' := [(5, .int (nI (pz + 1))), (7, .int 1), (6, .int (md - (mvc 16 pz))), (4, .int left), (3, .int (nI sm)), (2, .int (nI r)), (0, .ref (ly_a y 5)), (1, .int (nI f))]) hK.1.1 hK.1.2.1 dX5_turns_330 hl (k := 2) rfl (nI_1 pz) (by decide) rfl (fun ls hl => ?_)
                      refine lv_goto (tgt := 218) hK.1.1 hK.1.2.1 dX5_turns_333 (by decide) ?_
                      exact ih (m9 + 1 - (pz + 1)) (by omega)  (pz + 1) mvc (m9 + 1) left sm ls _ _ _ rfl (by omega) hnc hb (by rw [← hfin, show m9 + 1 - pz = (m9 + 1 - (pz + 1)) + 1 by omega]; simp only [m_thr, hcd, Bool.false_eq_true, if_false]) hP hS hR (lv_sub hl [0, 3, 4, 5, 6, 7] rfl)
                    · refine lv_aload_n hK.1.1 hK.1.2.1 dX5_turns_290 rfl (lv_at hl 6 rfl) ?_
                      refine lv_iload hK.1.1 hK.1.2.1 dX5_turns_291 (lv_at hl 2 rfl) ?_
                      refine gk_callV0 (n := 1) (As := [.int (nI pz)]) (rest := []) hK (c_X5_isHeld l hR (x9 := (nI pz))) (gk_gV q_17_19 q_17_20 q_17_21 q_1_5 q_17_22) ⟨rfl, by decide +kernel, by decide +kernel, by decide +kernel⟩ ⟨(Nat.le_of_ble_eq_true rfl), (Nat.le_of_ble_eq_true rfl)⟩ hP hS (gk_recv hK.2.2.1.1 hP hR.2.2.2.2.2.2.2.2.1 rfl) rfl hl.1 rfl (Nat.le_of_ble_eq_true rfl) dX5_turns_293 ⟨(Nat.le_of_ble_eq_true rfl), (Nat.le_of_ble_eq_true rfl)⟩ (fun v G1 H locs hw hP hS => ?_)
                      obtain ⟨rfl, hG9⟩ := hw
                      rw [hG9] at hP
                      refine W.eq (g2 := F0 m 296 ls [.int (rg_b (m_held mvc (nI pz)))]) rfl ?_
                      refine lv_if_ne (tgt := 330) hK.1.1 hK.1.2.1 dX5_turns_296 (by decide) (fun c296_17 => ?_) (fun c296_17 => ?_)
                      · have hhd : m_held mvc (nI pz) = true := rg_bt c296_17
                        have hcd : m_cond mvc f r md pz left = false := by simp [m_cond, c249_4, c258_8, c269_12, c287_16, hhd]
                        refine lv_iinc (v := nI (pz + 1)) (lv' := [(5, .int (nI (pz + 1))), (7, .int 1), (6, .int (md - (mvc 16 pz))), (4, .int left), (3, .int (nI sm)), (2, .int (nI r)), (0, .ref (ly_a y 5)), (1, .int (nI f))]) hK.1.1 hK.1.2.1 dX5_turns_330 hl (k := 2) rfl (nI_1 pz) (by decide) rfl (fun ls hl => ?_)
                        refine lv_goto (tgt := 218) hK.1.1 hK.1.2.1 dX5_turns_333 (by decide) ?_
                        exact ih (m9 + 1 - (pz + 1)) (by omega)  (pz + 1) mvc (m9 + 1) left sm ls _ _ _ rfl (by omega) hnc hb (by rw [← hfin, show m9 + 1 - pz = (m9 + 1 - (pz + 1)) + 1 by omega]; simp only [m_thr, hcd, Bool.false_eq_true, if_false]) hP hS hR (lv_sub hl [0, 3, 4, 5, 6, 7] rfl)
                      · refine lv_iload hK.1.1 hK.1.2.1 dX5_turns_299 (lv_at hl 1 rfl) ?_
                        refine lv_aload_n hK.1.1 hK.1.2.1 dX5_turns_301 rfl (lv_at hl 6 rfl) ?_
                        refine mr_19 hK hP hR dX5_turns_302 ?_
                        refine lv_iload_n hK.1.1 hK.1.2.1 dX5_turns_305 rfl (lv_at hl 5 rfl) ?_
                        refine mr_ild hK hP hR 3 (by decide) rfl (j := r) hr3 dX5_turns_306 ?_
                        refine lv_icmp_lt (tgt := 330) hK.1.1 hK.1.2.1 dX5_turns_307 (by decide) (fun c307_18 => ?_) (fun c307_18 => ?_)
                        · have hhd : m_held mvc (nI pz) = false := rg_b0.mp c296_17
                          have hcd : m_cond mvc f r md pz left = false := by simp [m_cond, c249_4, c258_8, c269_12, c287_16, c307_18, hhd]
                          refine lv_iinc (v := nI (pz + 1)) (lv' := [(5, .int (nI (pz + 1))), (7, .int 1), (6, .int (md - (mvc 16 pz))), (4, .int left), (3, .int (nI sm)), (2, .int (nI r)), (0, .ref (ly_a y 5)), (1, .int (nI f))]) hK.1.1 hK.1.2.1 dX5_turns_330 hl (k := 2) rfl (nI_1 pz) (by decide) rfl (fun ls hl => ?_)
                          refine lv_goto (tgt := 218) hK.1.1 hK.1.2.1 dX5_turns_333 (by decide) ?_
                          exact ih (m9 + 1 - (pz + 1)) (by omega)  (pz + 1) mvc (m9 + 1) left sm ls _ _ _ rfl (by omega) hnc hb (by rw [← hfin, show m9 + 1 - pz = (m9 + 1 - (pz + 1)) + 1 by omega]; simp only [m_thr, hcd, Bool.false_eq_true, if_false]) hP hS hR (lv_sub hl [0, 3, 4, 5, 6, 7] rfl)
                        · have hhd : m_held mvc (nI pz) = false := rg_b0.mp c296_17
                          have hcd : m_cond mvc f r md pz left = true := by simp [m_cond, c249_4, c258_8, c269_12, c287_16, c307_18, hhd]
                          refine lv_iload hK.1.1 hK.1.2.1 dX5_turns_310 (lv_at hl 0 rfl) ?_
                          refine lv_if_eq (tgt := 330) hK.1.1 hK.1.2.1 dX5_turns_312 (by decide) (fun c => absurd c (by decide)) (fun _ => ?_)
                          refine lv_aload_n hK.1.1 hK.1.2.1 dX5_turns_315 rfl (lv_at hl 6 rfl) ?_
                          refine lv_iload hK.1.1 hK.1.2.1 dX5_turns_316 (lv_at hl 2 rfl) ?_
                          refine gk_callV0 (n := 1) (As := [.int (nI pz)]) (rest := []) hK (c_X5_throwsAway l hR (k := pz) (g := f) (n9 := m9) rfl (by omega) (by omega) hf5 c287_16 hb) (gk_gV q_18_3 q_18_4 q_18_5 q_1_5 q_18_6) ⟨rfl, by decide +kernel, by decide +kernel, by decide +kernel⟩ ⟨(Nat.le_of_ble_eq_true rfl), (Nat.le_of_ble_eq_true rfl)⟩ hP hS (gk_recv hK.2.2.1.1 hP hR.2.2.2.2.2.2.2.2.1 rfl) rfl hl.1 rfl (Nat.le_of_ble_eq_true rfl) dX5_turns_318 ⟨(Nat.le_of_ble_eq_true rfl), (Nat.le_of_ble_eq_true rfl)⟩ (fun v G1 H locs hw hP hS => ?_)
                          obtain ⟨rfl, hR⟩ := hw
                          refine W.eq (g2 := F0 m 321 ls []) rfl ?_
                          refine lv_iinc (v := left + (-1)) (lv' := [(4, .int (left + (-1))), (7, .int 1), (6, .int (md - (mvc 16 pz))), (5, .int (nI pz)), (3, .int (nI sm)), (2, .int (nI r)), (0, .ref (ly_a y 5)), (1, .int (nI f))]) hK.1.1 hK.1.2.1 dX5_turns_321 hl (k := 3) rfl rfl (by decide) rfl (fun ls hl => ?_)
                          refine lv_iinc (v := nI (sm + 1)) (lv' := [(3, .int (nI (sm + 1))), (4, .int (left + (-1))), (7, .int 1), (6, .int (md - (mvc 16 pz))), (5, .int (nI pz)), (2, .int (nI r)), (0, .ref (ly_a y 5)), (1, .int (nI f))]) hK.1.1 hK.1.2.1 dX5_turns_324 hl (k := 4) rfl (nI_1 sm) (by decide) rfl (fun ls hl => ?_)
                          refine lv_goto (tgt := 333) hK.1.1 hK.1.2.1 dX5_turns_327 (by decide) ?_
                          refine lv_goto (tgt := 218) hK.1.1 hK.1.2.1 dX5_turns_333 (by decide) ?_
                          exact ih (m9 - pz) (by omega)  pz (m_away mvc pz f m9 4) m9 (left + (-1)) (sm + 1) ls _ _ _ rfl (by omega) (by omega) (m_away_bit hb (by omega)) (by rw [← hfin, show m9 + 1 - pz = (m9 - pz) + 1 by omega]; simp only [m_thr, hcd, if_true, Nat.add_sub_cancel]) hP hS hR (lv_sub hl [4, 1, 0, 5, 6, 7] rfl)
          exact loopc _ 0 _ (n9 + 1) _ 0 ls _ _ _ rfl (by omega) (by omega) hbt rfl hP hS hR (lv_sub hl [0, 1, 2, 3, 4, 5] rfl)
        · have hkn : k < n9 := Nat.lt_of_not_le (fun h => c150_2 (nI_le h (by omega)))
          refine lv_aload_n hK.1.1 hK.1.2.1 dX5_turns_153 rfl (lv_at hl 2 rfl) ?_
          refine mr_62 hK hP hR dX5_turns_154 ?_
          refine lv_iload_n hK.1.1 hK.1.2.1 dX5_turns_157 rfl (lv_at hl 0 rfl) ?_
          refine lv_aload_n hK.1.1 hK.1.2.1 dX5_turns_158 rfl (lv_at hl 2 rfl) ?_
          refine mr_62 hK hP hR dX5_turns_159 ?_
          refine lv_iload_n hK.1.1 hK.1.2.1 dX5_turns_162 rfl (lv_at hl 0 rfl) ?_
          refine mr_zld hK hP hR 17 (by decide) rfl (j := k) (show k < 4096 by omega) dX5_turns_163 ?_
          rw [show ((m_sqz (m_b2 (m_hd (m_b1 mv f n9 md) f n9 4) f md) f r k) 17 k) = (m_b2 (m_hd (m_b1 mv f n9 md) f n9 4) f md) 17 k by simp [m_sqz]]
          refine lv_if_ne (tgt := 194) hK.1.1 hK.1.2.1 dX5_turns_164 (by decide) (fun c164_19 => ?_) (fun c164_19 => ?_)
          · refine lv_iconst (v := 1) hK.1.1 hK.1.2.1 dX5_turns_194 (by decide) ?_
            refine lv_goto (tgt := 199) hK.1.1 hK.1.2.1 dX5_turns_195 (by decide) ?_
            refine mw_zst hK hP hS hR 17 (by decide) rfl (j := k) (show k < 4096 by omega) (by decide) dX5_turns_199 (fun H locs G hP hS hR => ?_)
            refine lv_iinc (v := nI (k + 1)) (lv' := [(3, .int (nI (k + 1))), (2, .int (nI r)), (0, .ref (ly_a y 5)), (1, .int (nI f))]) hK.1.1 hK.1.2.1 dX5_turns_200 hl (k := 0) rfl (nI_1 k) (by decide) rfl (fun ls hl => ?_)
            refine lv_goto (tgt := 143) hK.1.1 hK.1.2.1 dX5_turns_203 (by decide) ?_
            exact ih (n9 - (k + 1)) (by omega)  (k + 1) ls _ _ _ rfl (by omega) hP hS (by rw [← m_sqz_s _ _ _ k _ (by rw [if_pos (Or.inl c164_19)])]; exact hR) (lv_sub hl [0, 1, 2, 3] rfl)
          · refine lv_aload_n hK.1.1 hK.1.2.1 dX5_turns_167 rfl (lv_at hl 2 rfl) ?_
            refine mr_28 hK hP hR dX5_turns_168 ?_
            refine lv_iload_n hK.1.1 hK.1.2.1 dX5_turns_171 rfl (lv_at hl 1 rfl) ?_
            refine mr_zld hK hP hR 6 (by decide) rfl (j := r) hr3 dX5_turns_172 ?_
            rw [show ((m_sqz (m_b2 (m_hd (m_b1 mv f n9 md) f n9 4) f md) f r k) 6 r) = (m_b2 (m_hd (m_b1 mv f n9 md) f n9 4) f md) 6 r by simp [m_sqz]]
            refine lv_if_eq (tgt := 198) hK.1.1 hK.1.2.1 dX5_turns_173 (by decide) (fun c173_20 => ?_) (fun c173_20 => ?_)
            · refine lv_iconst (v := 0) hK.1.1 hK.1.2.1 dX5_turns_198 (by decide) ?_
              refine mw_zst hK hP hS hR 17 (by decide) rfl (j := k) (show k < 4096 by omega) (by decide) dX5_turns_199 (fun H locs G hP hS hR => ?_)
              refine lv_iinc (v := nI (k + 1)) (lv' := [(3, .int (nI (k + 1))), (2, .int (nI r)), (0, .ref (ly_a y 5)), (1, .int (nI f))]) hK.1.1 hK.1.2.1 dX5_turns_200 hl (k := 0) rfl (nI_1 k) (by decide) rfl (fun ls hl => ?_)
              refine lv_goto (tgt := 143) hK.1.1 hK.1.2.1 dX5_turns_203 (by decide) ?_
              exact ih (n9 - (k + 1)) (by omega)  (k + 1) ls _ _ _ rfl (by omega) hP hS (by rw [← m_sqz_s _ _ _ k _ (by rw [if_neg (fun h => h.elim (fun q => q c164_19) (fun q => q.1 c173_20))])]; exact hR) (lv_sub hl [0, 1, 2, 3] rfl)
            · refine lv_aload_n hK.1.1 hK.1.2.1 dX5_turns_176 rfl (lv_at hl 2 rfl) ?_
              refine mr_53 hK hP hR dX5_turns_177 ?_
              refine lv_iload_n hK.1.1 hK.1.2.1 dX5_turns_180 rfl (lv_at hl 0 rfl) ?_
              refine mr_ild hK hP hR 14 (by decide) rfl (j := k) (show k < 4096 by omega) dX5_turns_181 ?_
              rw [show ((m_sqz (m_b2 (m_hd (m_b1 mv f n9 md) f n9 4) f md) f r k) 14 k) = (m_b2 (m_hd (m_b1 mv f n9 md) f n9 4) f md) 14 k by simp [m_sqz]]
              refine lv_iload_n hK.1.1 hK.1.2.1 dX5_turns_182 rfl (lv_at hl 3 rfl) ?_
              refine lv_icmp_ne (tgt := 198) hK.1.1 hK.1.2.1 dX5_turns_183 (by decide) (fun c183_21 => ?_) (fun c183_21 => ?_)
              · refine lv_iconst (v := 0) hK.1.1 hK.1.2.1 dX5_turns_198 (by decide) ?_
                refine mw_zst hK hP hS hR 17 (by decide) rfl (j := k) (show k < 4096 by omega) (by decide) dX5_turns_199 (fun H locs G hP hS hR => ?_)
                refine lv_iinc (v := nI (k + 1)) (lv' := [(3, .int (nI (k + 1))), (2, .int (nI r)), (0, .ref (ly_a y 5)), (1, .int (nI f))]) hK.1.1 hK.1.2.1 dX5_turns_200 hl (k := 0) rfl (nI_1 k) (by decide) rfl (fun ls hl => ?_)
                refine lv_goto (tgt := 143) hK.1.1 hK.1.2.1 dX5_turns_203 (by decide) ?_
                exact ih (n9 - (k + 1)) (by omega)  (k + 1) ls _ _ _ rfl (by omega) hP hS (by rw [← m_sqz_s _ _ _ k _ (by rw [if_neg (fun h => h.elim (fun q => q c164_19) (fun q => c183_21 q.2.1))])]; exact hR) (lv_sub hl [0, 1, 2, 3] rfl)
              · refine lv_aload_n hK.1.1 hK.1.2.1 dX5_turns_186 rfl (lv_at hl 2 rfl) ?_
                refine lv_iload_n hK.1.1 hK.1.2.1 dX5_turns_187 rfl (lv_at hl 0 rfl) ?_
                refine gk_callV0 (n := 1) (As := [.int (nI k)]) (rest := [.int (nI k), .ref (ly_f y 4 17)]) hK (c_X5_isHeld l hR (x9 := (nI k))) (gk_gV q_17_19 q_17_20 q_17_21 q_1_5 q_17_22) ⟨rfl, by decide +kernel, by decide +kernel, by decide +kernel⟩ ⟨(Nat.le_of_ble_eq_true rfl), (Nat.le_of_ble_eq_true rfl)⟩ hP hS (gk_recv hK.2.2.1.1 hP hR.2.2.2.2.2.2.2.2.1 rfl) rfl hl.1 rfl (Nat.le_of_ble_eq_true rfl) dX5_turns_188 ⟨(Nat.le_of_ble_eq_true rfl), (Nat.le_of_ble_eq_true rfl)⟩ (fun v G1 H locs hw hP hS => ?_)
                obtain ⟨rfl, hG9⟩ := hw
                rw [hG9] at hP
                refine W.eq (g2 := F0 m 191 ls [.int (rg_b (m_held (m_sqz (m_b2 (m_hd (m_b1 mv f n9 md) f n9 4) f md) f r k) (nI k))), .int (nI k), .ref (ly_f y 4 17)]) rfl ?_
                rw [m_sqz_held]
                refine lv_if_ne (tgt := 198) hK.1.1 hK.1.2.1 dX5_turns_191 (by decide) (fun c191_22 => ?_) (fun c191_22 => ?_)
                · refine lv_iconst (v := 0) hK.1.1 hK.1.2.1 dX5_turns_198 (by decide) ?_
                  refine mw_zst hK hP hS hR 17 (by decide) rfl (j := k) (show k < 4096 by omega) (by decide) dX5_turns_199 (fun H locs G hP hS hR => ?_)
                  refine lv_iinc (v := nI (k + 1)) (lv' := [(3, .int (nI (k + 1))), (2, .int (nI r)), (0, .ref (ly_a y 5)), (1, .int (nI f))]) hK.1.1 hK.1.2.1 dX5_turns_200 hl (k := 0) rfl (nI_1 k) (by decide) rfl (fun ls hl => ?_)
                  refine lv_goto (tgt := 143) hK.1.1 hK.1.2.1 dX5_turns_203 (by decide) ?_
                  exact ih (n9 - (k + 1)) (by omega)  (k + 1) ls _ _ _ rfl (by omega) hP hS (by rw [← m_sqz_s _ _ _ k _ (by rw [if_neg (fun h => h.elim (fun q => q c164_19) (fun q => c191_22 (rg_b0.mpr q.2.2)))])]; exact hR) (lv_sub hl [0, 1, 2, 3] rfl)
                · refine lv_iconst (v := 1) hK.1.1 hK.1.2.1 dX5_turns_194 (by decide) ?_
                  refine lv_goto (tgt := 199) hK.1.1 hK.1.2.1 dX5_turns_195 (by decide) ?_
                  refine mw_zst hK hP hS hR 17 (by decide) rfl (j := k) (show k < 4096 by omega) (by decide) dX5_turns_199 (fun H locs G hP hS hR => ?_)
                  refine lv_iinc (v := nI (k + 1)) (lv' := [(3, .int (nI (k + 1))), (2, .int (nI r)), (0, .ref (ly_a y 5)), (1, .int (nI f))]) hK.1.1 hK.1.2.1 dX5_turns_200 hl (k := 0) rfl (nI_1 k) (by decide) rfl (fun ls hl => ?_)
                  refine lv_goto (tgt := 143) hK.1.1 hK.1.2.1 dX5_turns_203 (by decide) ?_
                  exact ih (n9 - (k + 1)) (by omega)  (k + 1) ls _ _ _ rfl (by omega) hP hS (by rw [← m_sqz_s _ _ _ k _ (by rw [if_pos (Or.inr ⟨c173_20, c183_21, rg_b0.mp c191_22⟩)])]; exact hR) (lv_sub hl [0, 1, 2, 3] rfl)
      exact loopb _ 0 ls _ _ _ rfl (by omega) hP hS (by rw [m_sqz_0]; exact hR) (lv_sub hl [0, 1, 2, 3] rfl)
    · have hw5 : w9 < 4 := Nat.lt_of_not_le (fun h => c59_1 (nI_le (a := 4) h (by omega)))
      refine lv_aload_n hK.1.1 hK.1.2.1 dX5_turns_62 rfl (lv_at hl 2 rfl) ?_
      refine mr_68 hK hP hR dX5_turns_63 ?_
      refine lv_iload_n hK.1.1 hK.1.2.1 dX5_turns_66 rfl (lv_at hl 0 rfl) ?_
      refine lv_aload_n hK.1.1 hK.1.2.1 dX5_turns_67 rfl (lv_at hl 2 rfl) ?_
      refine mr_65 hK hP hR dX5_turns_68 ?_
      refine lv_iload_n hK.1.1 hK.1.2.1 dX5_turns_71 rfl (lv_at hl 0 rfl) ?_
      refine mr_ild hK hP hR 18 (by decide) rfl (j := w9) hw5 dX5_turns_72 ?_
      rw [show ((m_hd (m_b1 mv f n9 md) f n9 w9) 18 w9) = (m_b1 mv f n9 md) 18 w9 by simp [m_hd]]
      refine lv_iload_n hK.1.1 hK.1.2.1 dX5_turns_73 rfl (lv_at hl 3 rfl) ?_
      refine lv_icmp_ne (tgt := 94) hK.1.1 hK.1.2.1 dX5_turns_74 (by decide) (fun c74_23 => ?_) (fun c74_23 => ?_)
      · refine lv_aload_n hK.1.1 hK.1.2.1 dX5_turns_94 rfl (lv_at hl 2 rfl) ?_
        refine mr_68 hK hP hR dX5_turns_95 ?_
        refine lv_iload_n hK.1.1 hK.1.2.1 dX5_turns_98 rfl (lv_at hl 0 rfl) ?_
        refine mr_ild hK hP hR 19 (by decide) rfl (j := w9) hw5 dX5_turns_99 ?_
        rw [show ((m_hd (m_b1 mv f n9 md) f n9 w9) 19 w9) = (m_b1 mv f n9 md) 19 w9 by simp [m_hd]]
        refine mw_ist hK hP hS hR 19 (by decide) rfl (j := w9) hw5 dX5_turns_100 (fun H locs G hP hS hR => ?_)
        refine lv_iinc (v := nI (w9 + 1)) (lv' := [(3, .int (nI (w9 + 1))), (2, .int (nI r)), (0, .ref (ly_a y 5)), (1, .int (nI f))]) hK.1.1 hK.1.2.1 dX5_turns_101 hl (k := 0) rfl (nI_1 w9) (by decide) rfl (fun ls hl => ?_)
        refine lv_goto (tgt := 57) hK.1.1 hK.1.2.1 dX5_turns_104 (by decide) ?_
        exact ih (4 - (w9 + 1)) (by omega)  (w9 + 1) ls _ _ _ rfl (by omega) hP hS (by rw [← m_hd_s _ _ _ w9 _ (by rw [if_neg (fun h => c74_23 h.1)])]; exact hR) (lv_sub hl [0, 1, 2, 3] rfl)
      · refine lv_aload_n hK.1.1 hK.1.2.1 dX5_turns_77 rfl (lv_at hl 2 rfl) ?_
        refine mr_68 hK hP hR dX5_turns_78 ?_
        refine lv_iload_n hK.1.1 hK.1.2.1 dX5_turns_81 rfl (lv_at hl 0 rfl) ?_
        refine mr_ild hK hP hR 19 (by decide) rfl (j := w9) hw5 dX5_turns_82 ?_
        rw [show ((m_hd (m_b1 mv f n9 md) f n9 w9) 19 w9) = (m_b1 mv f n9 md) 19 w9 by simp [m_hd]]
        refine lv_iconst (v := (-1)) hK.1.1 hK.1.2.1 dX5_turns_83 (by decide) ?_
        refine lv_icmp_ne (tgt := 94) hK.1.1 hK.1.2.1 dX5_turns_84 (by decide) (fun c84_24 => ?_) (fun c84_24 => ?_)
        · refine lv_aload_n hK.1.1 hK.1.2.1 dX5_turns_94 rfl (lv_at hl 2 rfl) ?_
          refine mr_68 hK hP hR dX5_turns_95 ?_
          refine lv_iload_n hK.1.1 hK.1.2.1 dX5_turns_98 rfl (lv_at hl 0 rfl) ?_
          refine mr_ild hK hP hR 19 (by decide) rfl (j := w9) hw5 dX5_turns_99 ?_
          rw [show ((m_hd (m_b1 mv f n9 md) f n9 w9) 19 w9) = (m_b1 mv f n9 md) 19 w9 by simp [m_hd]]
          refine mw_ist hK hP hS hR 19 (by decide) rfl (j := w9) hw5 dX5_turns_100 (fun H locs G hP hS hR => ?_)
          refine lv_iinc (v := nI (w9 + 1)) (lv' := [(3, .int (nI (w9 + 1))), (2, .int (nI r)), (0, .ref (ly_a y 5)), (1, .int (nI f))]) hK.1.1 hK.1.2.1 dX5_turns_101 hl (k := 0) rfl (nI_1 w9) (by decide) rfl (fun ls hl => ?_)
          refine lv_goto (tgt := 57) hK.1.1 hK.1.2.1 dX5_turns_104 (by decide) ?_
          exact ih (4 - (w9 + 1)) (by omega)  (w9 + 1) ls _ _ _ rfl (by omega) hP hS (by rw [← m_hd_s _ _ _ w9 _ (by rw [if_neg (fun h => c84_24 h.2)])]; exact hR) (lv_sub hl [0, 1, 2, 3] rfl)
        · refine lv_aload_n hK.1.1 hK.1.2.1 dX5_turns_87 rfl (lv_at hl 2 rfl) ?_
          refine mr_100 hK hP hR dX5_turns_88 ?_
          refine lv_goto (tgt := 100) hK.1.1 hK.1.2.1 dX5_turns_91 (by decide) ?_
          refine mw_ist hK hP hS hR 19 (by decide) rfl (j := w9) hw5 dX5_turns_100 (fun H locs G hP hS hR => ?_)
          refine lv_iinc (v := nI (w9 + 1)) (lv' := [(3, .int (nI (w9 + 1))), (2, .int (nI r)), (0, .ref (ly_a y 5)), (1, .int (nI f))]) hK.1.1 hK.1.2.1 dX5_turns_101 hl (k := 0) rfl (nI_1 w9) (by decide) rfl (fun ls hl => ?_)
          refine lv_goto (tgt := 57) hK.1.1 hK.1.2.1 dX5_turns_104 (by decide) ?_
          exact ih (4 - (w9 + 1)) (by omega)  (w9 + 1) ls _ _ _ rfl (by omega) hP hS (by rw [← m_hd_s _ _ _ w9 _ (by rw [if_pos ⟨c74_23, c84_24⟩])]; exact hR) (lv_sub hl [0, 1, 2, 3] rfl)
  exact loop _ 0 ls _ _ _ rfl (by omega) hP hS (by rw [m_hd_0]; exact hR) (lv_sub hl [0, 1, 2, 3] rfl)
