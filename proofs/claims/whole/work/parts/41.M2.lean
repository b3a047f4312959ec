/-! the reference: what it asks of its rows -/
def m_held (mv : Nat → Nat → Int32) (x : Int32) : Bool := decide (mv 19 0 = x ∨ mv 19 1 = x ∨ mv 19 2 = x ∨ mv 19 3 = x)
/-- how many of the first n are x's -/
def m_cnt (mv : Nat → Nat → Int32) (x : Int32) (n : Nat) : Nat := ((List.range n).filter (fun k => decide (mv 14 k = x))).length
theorem m_cnt_le (mv : Nat → Nat → Int32) (x : Int32) (n : Nat) : m_cnt mv x n ≤ n := by
  have := List.length_filter_le (fun k => decide (mv 14 k = x)) (List.range n)
  simpa [m_cnt] using this
theorem m_cnt_y {mv : Nat → Nat → Int32} {x : Int32} {n : Nat} (h : mv 14 n = x) : m_cnt mv x (n + 1) = m_cnt mv x n + 1 := by
  simp [m_cnt, List.range_succ, List.filter_append, h]
theorem m_cnt_n {mv : Nat → Nat → Int32} {x : Int32} {n : Nat} (h : ¬ mv 14 n = x) : m_cnt mv x (n + 1) = m_cnt mv x n := by
  simp [m_cnt, List.range_succ, List.filter_append, h]
/-- a day behind a, up to e, and at most s behind a, whose rest by s is w -/
def m_cA (a s : Nat) (w : Int32) (n : Nat) : Bool := (List.range n).any (fun j => decide (nI ((a + 1 + j) % s) = w))
theorem m_cA_s (a s : Nat) (w : Int32) (n : Nat) : m_cA a s w (n + 1) = (m_cA a s w n || decide (nI ((a + 1 + n) % s) = w)) := by
  simp [m_cA, List.range_succ, List.any_append]
def m_come (a e s : Nat) (w : Int32) : Bool := m_cA a s w (min e (a + s) - a)
theorem m_rem {k s : Nat} (hk : k < 2 ^ 31) (h0 : 0 < s) (hs : s < 2 ^ 31) : nI k - nI k / nI s * nI s = nI (k % s) := by
  rw [pk_div hk h0 hs, pk_mul, pk_sub (Nat.div_mul_le_self k s)]
  congr 1
  have := Nat.div_add_mod k s
  rw [Nat.mul_comm] at this
  omega
def m_due (mv : Nat → Nat → Int32) (f r a e : Nat) : Bool := (decide (¬ mv 10 f ≤ 0) && (decide (mv 12 f = 0) || decide (¬ nI e - nI a < mv 3 r))) && ((decide (¬ mv 0 r ≤ 0) && decide (¬ mv 10 f < mv 0 r)) || m_come a e 7 (mv 1 r) || m_come a e 30 (mv 2 r))
theorem m_sub0 {j : Int32} {c : Nat} : j - nI c = 0 ↔ j = nI c := ⟨fun h => by have h8 := Int32.sub_add_cancel j (nI c); rw [h, Int32.zero_add] at h8; exact h8.symm, fun h => by rw [h, Int32.sub_self]⟩
theorem m_subs {j : Int32} {c : Nat} : j - nI c + (-1) = j - nI (c + 1) := by
  rw [← nI_1, ← Int32.sub_sub]
  rw [Int32.sub_eq_add_neg (j - nI c) 1]
/-- the place of the j-th old part of i among the first n, or -1 -/
def m_plc (mv : Nat → Nat → Int32) (i j : Int32) (n : Nat) (x : Int32) : Prop := (∃ p, p < n ∧ mv 14 p = i ∧ j = nI (m_cnt mv i p) ∧ x = nI p) ∨ ((∀ p, p < n → mv 14 p = i → ¬ j = nI (m_cnt mv i p)) ∧ x = -1)
set_option maxHeartbeats 4000000 in
set_option maxRecDepth 100000 in
theorem c_X5_isHeld (l : Launch) {y : ly_T} {A : Nat → Prop} {G : gk_G} {td : Int32} {ru : Nat → Nat → Int32} {fr lv : Nat → Nat} {lt et tl : Nat → Int32} {hf hp : Nat → Option Nat} {ol : Nat → List Nat} {PS : Nat → Prop} {pf : Nat → Nat → Int32} {ov : Int64} {md mq mt : Int32} {mv : Nat → Nat → Int32} {x9 : Int32}  (hR : rp y G td ru fr lv lt et tl hf hp ol PS pf ov md mq mt mv) : gk_M0 l yX5_isHeld (Cond.code yX5_isHeld cX5_isHeld 4 (some .boolean)) 0 0 0 0 y A [.ref (ly_a y 5), .int x9] G (fun v G1 => v = some (.int (rg_b (m_held mv x9))) ∧ G1 = G) := by
  refine gk_of0 (cc := cX5_isHeld) (maxL := 4) (ret := (some .boolean)) (own := RX5) (by decide +kernel) rfl rfl (Nat.le_of_ble_eq_true rfl) ?_
  intro p e s m below meth c ls hK hret hlk _ hP hS hl
  have hl : lv_has ls 4 [(0, .ref (ly_a y 5)), (1, .int x9)] := hl
  refine lv_iconst (v := 0) hK.1.1 hK.1.2.1 dX5_isHeld_0 (by decide) ?_
  refine lv_istore_n (lv' := [(2, .int 0), (0, .ref (ly_a y 5)), (1, .int x9)]) hK.1.1 hK.1.2.1 dX5_isHeld_1 rfl hl (by decide) rfl (fun ls hl => ?_)
  refine lv_iconst (v := 0) hK.1.1 hK.1.2.1 dX5_isHeld_2 (by decide) ?_
  refine lv_istore_n (lv' := [(3, .int 0), (2, .int 0), (0, .ref (ly_a y 5)), (1, .int x9)]) hK.1.1 hK.1.2.1 dX5_isHeld_3 rfl hl (by decide) rfl (fun ls hl => ?_)
  refine lv_iload_n hK.1.1 hK.1.2.1 dX5_isHeld_4 rfl (lv_at hl 0 rfl) ?_
  refine lv_iconst (v := 4) hK.1.1 hK.1.2.1 dX5_isHeld_5 (by decide) ?_
  refine lv_icmp_ge (tgt := 35) hK.1.1 hK.1.2.1 dX5_isHeld_6 (by decide) (fun c => absurd c (by decide)) (fun _ => ?_)
  refine lv_iload_n hK.1.1 hK.1.2.1 dX5_isHeld_9 rfl (lv_at hl 1 rfl) ?_
  refine lv_if_ne (tgt := 23) hK.1.1 hK.1.2.1 dX5_isHeld_10 (by decide) (fun c => absurd c (by decide)) (fun _ => ?_)
  refine lv_aload_n hK.1.1 hK.1.2.1 dX5_isHeld_13 rfl (lv_at hl 2 rfl) ?_
  refine mr_68 hK hP hR dX5_isHeld_14 ?_
  refine lv_iload_n hK.1.1 hK.1.2.1 dX5_isHeld_17 rfl (lv_at hl 0 rfl) ?_
  refine mr_ild hK hP hR 19 (by decide) rfl (j := 0) (by decide) dX5_isHeld_18 ?_
  refine lv_iload_n hK.1.1 hK.1.2.1 dX5_isHeld_19 rfl (lv_at hl 3 rfl) ?_
  refine lv_icmp_ne (tgt := 27) hK.1.1 hK.1.2.1 dX5_isHeld_20 (by decide) (fun c20_1 => ?_) (fun c20_1 => ?_)
  · refine lv_iconst (v := 0) hK.1.1 hK.1.2.1 dX5_isHeld_27 (by decide) ?_
    refine lv_istore_n (lv' := [(2, .int 0), (3, .int 0), (0, .ref (ly_a y 5)), (1, .int x9)]) hK.1.1 hK.1.2.1 dX5_isHeld_28 rfl hl (by decide) rfl (fun ls hl => ?_)
    refine lv_iinc (v := 1) (lv' := [(3, .int 1), (2, .int 0), (0, .ref (ly_a y 5)), (1, .int x9)]) hK.1.1 hK.1.2.1 dX5_isHeld_29 hl (k := 1) rfl (by decide) (by decide) rfl (fun ls hl => ?_)
    refine lv_goto (tgt := 4) hK.1.1 hK.1.2.1 dX5_isHeld_32 (by decide) ?_
    refine lv_iload_n hK.1.1 hK.1.2.1 dX5_isHeld_4 rfl (lv_at hl 0 rfl) ?_
    refine lv_iconst (v := 4) hK.1.1 hK.1.2.1 dX5_isHeld_5 (by decide) ?_
    refine lv_icmp_ge (tgt := 35) hK.1.1 hK.1.2.1 dX5_isHeld_6 (by decide) (fun c => absurd c (by decide)) (fun _ => ?_)
    refine lv_iload_n hK.1.1 hK.1.2.1 dX5_isHeld_9 rfl (lv_at hl 1 rfl) ?_
    refine lv_if_ne (tgt := 23) hK.1.1 hK.1.2.1 dX5_isHeld_10 (by decide) (fun c => absurd c (by decide)) (fun _ => ?_)
    refine lv_aload_n hK.1.1 hK.1.2.1 dX5_isHeld_13 rfl (lv_at hl 2 rfl) ?_
    refine mr_68 hK hP hR dX5_isHeld_14 ?_
    refine lv_iload_n hK.1.1 hK.1.2.1 dX5_isHeld_17 rfl (lv_at hl 0 rfl) ?_
    refine mr_ild hK hP hR 19 (by decide) rfl (j := 1) (by decide) dX5_isHeld_18 ?_
    refine lv_iload_n hK.1.1 hK.1.2.1 dX5_isHeld_19 rfl (lv_at hl 3 rfl) ?_
    refine lv_icmp_ne (tgt := 27) hK.1.1 hK.1.2.1 dX5_isHeld_20 (by decide) (fun c20_2 => ?_) (fun c20_2 => ?_)
    · refine lv_iconst (v := 0) hK.1.1 hK.1.2.1 dX5_isHeld_27 (by decide) ?_
      refine lv_istore_n (lv' := [(2, .int 0), (3, .int 1), (0, .ref (ly_a y 5)), (1, .int x9)]) hK.1.1 hK.1.2.1 dX5_isHeld_28 rfl hl (by decide) rfl (fun ls hl => ?_)
      refine lv_iinc (v := 2) (lv' := [(3, .int 2), (2, .int 0), (0, .ref (ly_a y 5)), (1, .int x9)]) hK.1.1 hK.1.2.1 dX5_isHeld_29 hl (k := 1) rfl (by decide) (by decide) rfl (fun ls hl => ?_)
      refine lv_goto (tgt := 4) hK.1.1 hK.1.2.1 dX5_isHeld_32 (by decide) ?_
      refine lv_iload_n hK.1.1 hK.1.2.1 dX5_isHeld_4 rfl (lv_at hl 0 rfl) ?_
      refine lv_iconst (v := 4) hK.1.1 hK.1.2.1 dX5_isHeld_5 (by decide) ?_
      refine lv_icmp_ge (tgt := 35) hK.1.1 hK.1.2.1 dX5_isHeld_6 (by decide) (fun c => absurd c (by decide)) (fun _ => ?_)
      refine lv_iload_n hK.1.1 hK.1.2.1 dX5_isHeld_9 rfl (lv_at hl 1 rfl) ?_
      refine lv_if_ne (tgt := 23) hK.1.1 hK.1.2.1 dX5_isHeld_10 (by decide) (fun c => absurd c (by decide)) (fun _ => ?_)
      refine lv_aload_n hK.1.1 hK.1.2.1 dX5_isHeld_13 rfl (lv_at hl 2 rfl) ?_
      refine mr_68 hK hP hR dX5_isHeld_14 ?_
      refine lv_iload_n hK.1.1 hK.1.2.1 dX5_isHeld_17 rfl (lv_at hl 0 rfl) ?_
      refine mr_ild hK hP hR 19 (by decide) rfl (j := 2) (by decide) dX5_isHeld_18 ?_
      refine lv_iload_n hK.1.1 hK.1.2.1 dX5_isHeld_19 rfl (lv_at hl 3 rfl) ?_
      refine lv_icmp_ne (tgt := 27) hK.1.1 hK.1.2.1 dX5_isHeld_20 (by decide) (fun c20_3 => ?_) (fun c20_3 => ?_)
      · refine lv_iconst (v := 0) hK.1.1 hK.1.2.1 dX5_isHeld_27 (by decide) ?_
        refine lv_istore_n (lv' := [(2, .int 0), (3, .int 2), (0, .ref (ly_a y 5)), (1, .int x9)]) hK.1.1 hK.1.2.1 dX5_isHeld_28 rfl hl (by decide) rfl (fun ls hl => ?_)
        refine lv_iinc (v := 3) (lv' := [(3, .int 3), (2, .int 0), (0, .ref (ly_a y 5)), (1, .int x9)]) hK.1.1 hK.1.2.1 dX5_isHeld_29 hl (k := 1) rfl (by decide) (by decide) rfl (fun ls hl => ?_)
        refine lv_goto (tgt := 4) hK.1.1 hK.1.2.1 dX5_isHeld_32 (by decide) ?_
        refine lv_iload_n hK.1.1 hK.1.2.1 dX5_isHeld_4 rfl (lv_at hl 0 rfl) ?_
        refine lv_iconst (v := 4) hK.1.1 hK.1.2.1 dX5_isHeld_5 (by decide) ?_
        refine lv_icmp_ge (tgt := 35) hK.1.1 hK.1.2.1 dX5_isHeld_6 (by decide) (fun c => absurd c (by decide)) (fun _ => ?_)
        refine lv_iload_n hK.1.1 hK.1.2.1 dX5_isHeld_9 rfl (lv_at hl 1 rfl) ?_
        refine lv_if_ne (tgt := 23) hK.1.1 hK.1.2.1 dX5_isHeld_10 (by decide) (fun c => absurd c (by decide)) (fun _ => ?_)
        refine lv_aload_n hK.1.1 hK.1.2.1 dX5_isHeld_13 rfl (lv_at hl 2 rfl) ?_
        refine mr_68 hK hP hR dX5_isHeld_14 ?_
        refine lv_iload_n hK.1.1 hK.1.2.1 dX5_isHeld_17 rfl (lv_at hl 0 rfl) ?_
        refine mr_ild hK hP hR 19 (by decide) rfl (j := 3) (by decide) dX5_isHeld_18 ?_
        refine lv_iload_n hK.1.1 hK.1.2.1 dX5_isHeld_19 rfl (lv_at hl 3 rfl) ?_
        refine lv_icmp_ne (tgt := 27) hK.1.1 hK.1.2.1 dX5_isHeld_20 (by decide) (fun c20_4 => ?_) (fun c20_4 => ?_)
        · refine lv_iconst (v := 0) hK.1.1 hK.1.2.1 dX5_isHeld_27 (by decide) ?_
          refine lv_istore_n (lv' := [(2, .int 0), (3, .int 3), (0, .ref (ly_a y 5)), (1, .int x9)]) hK.1.1 hK.1.2.1 dX5_isHeld_28 rfl hl (by decide) rfl (fun ls hl => ?_)
          refine lv_iinc (v := 4) (lv' := [(3, .int 4), (2, .int 0), (0, .ref (ly_a y 5)), (1, .int x9)]) hK.1.1 hK.1.2.1 dX5_isHeld_29 hl (k := 1) rfl (by decide) (by decide) rfl (fun ls hl => ?_)
          refine lv_goto (tgt := 4) hK.1.1 hK.1.2.1 dX5_isHeld_32 (by decide) ?_
          refine lv_iload_n hK.1.1 hK.1.2.1 dX5_isHeld_4 rfl (lv_at hl 0 rfl) ?_
          refine lv_iconst (v := 4) hK.1.1 hK.1.2.1 dX5_isHeld_5 (by decide) ?_
          refine lv_icmp_ge (tgt := 35) hK.1.1 hK.1.2.1 dX5_isHeld_6 (by decide) (fun _ => ?_) (fun c => absurd (by decide) c)
          refine lv_iload_n hK.1.1 hK.1.2.1 dX5_isHeld_35 rfl (lv_at hl 1 rfl) ?_
          exact gk_zret0 hK.1 hret (by first | decide | exact (rp_nz (by first | assumption | (simp; done))).1) hlk hP hS (Nat.le_of_ble_eq_true rfl) (Nat.le_of_ble_eq_true rfl) dX5_isHeld_36 (⟨by simp [m_held, rg_b, c20_1, c20_2, c20_3, c20_4], rfl⟩)
        · refine lv_iconst (v := 1) hK.1.1 hK.1.2.1 dX5_isHeld_23 (by decide) ?_
          refine lv_goto (tgt := 28) hK.1.1 hK.1.2.1 dX5_isHeld_24 (by decide) ?_
          refine lv_istore_n (lv' := [(2, .int 1), (3, .int 3), (0, .ref (ly_a y 5)), (1, .int x9)]) hK.1.1 hK.1.2.1 dX5_isHeld_28 rfl hl (by decide) rfl (fun ls hl => ?_)
          refine lv_iinc (v := 4) (lv' := [(3, .int 4), (2, .int 1), (0, .ref (ly_a y 5)), (1, .int x9)]) hK.1.1 hK.1.2.1 dX5_isHeld_29 hl (k := 1) rfl (by decide) (by decide) rfl (fun ls hl => ?_)
          refine lv_goto (tgt := 4) hK.1.1 hK.1.2.1 dX5_isHeld_32 (by decide) ?_
          refine lv_iload_n hK.1.1 hK.1.2.1 dX5_isHeld_4 rfl (lv_at hl 0 rfl) ?_
          refine lv_iconst (v := 4) hK.1.1 hK.1.2.1 dX5_isHeld_5 (by decide) ?_
          refine lv_icmp_ge (tgt := 35) hK.1.1 hK.1.2.1 dX5_isHeld_6 (by decide) (fun _ => ?_) (fun c => absurd (by decide) c)
          refine lv_iload_n hK.1.1 hK.1.2.1 dX5_isHeld_35 rfl (lv_at hl 1 rfl) ?_
          exact gk_zret0 hK.1 hret (by first | decide | exact (rp_nz (by first | assumption | (simp; done))).1) hlk hP hS (Nat.le_of_ble_eq_true rfl) (Nat.le_of_ble_eq_true rfl) dX5_isHeld_36 (⟨by simp [m_held, rg_b, c20_1, c20_2, c20_3, c20_4], rfl⟩)
      · refine lv_iconst (v := 1) hK.1.1 hK.1.2.1 dX5_isHeld_23 (by decide) ?_
        refine lv_goto (tgt := 28) hK.1.1 hK.1.2.1 dX5_isHeld_24 (by decide) ?_
        refine lv_istore_n (lv' := [(2, .int 1), (3, .int 2), (0, .ref (ly_a y 5)), (1, .int x9)]) hK.1.1 hK.1.2.1 dX5_isHeld_28 rfl hl (by decide) rfl (fun ls hl => ?_)
        refine lv_iinc (v := 3) (lv' := [(3, .int 3), (2, .int 1), (0, .ref (ly_a y 5)), (1, .int x9)]) hK.1.1 hK.1.2.1 dX5_isHeld_29 hl (k := 1) rfl (by decide) (by decide) rfl (fun ls hl => ?_)
        refine lv_goto (tgt := 4) hK.1.1 hK.1.2.1 dX5_isHeld_32 (by decide) ?_
        refine lv_iload_n hK.1.1 hK.1.2.1 dX5_isHeld_4 rfl (lv_at hl 0 rfl) ?_
        refine lv_iconst (v := 4) hK.1.1 hK.1.2.1 dX5_isHeld_5 (by decide) ?_
        refine lv_icmp_ge (tgt := 35) hK.1.1 hK.1.2.1 dX5_isHeld_6 (by decide) (fun c => absurd c (by decide)) (fun _ => ?_)
        refine lv_iload_n hK.1.1 hK.1.2.1 dX5_isHeld_9 rfl (lv_at hl 1 rfl) ?_
        refine lv_if_ne (tgt := 23) hK.1.1 hK.1.2.1 dX5_isHeld_10 (by decide) (fun _ => ?_) (fun c => absurd c (by decide))
        refine lv_iconst (v := 1) hK.1.1 hK.1.2.1 dX5_isHeld_23 (by decide) ?_
        refine lv_goto (tgt := 28) hK.1.1 hK.1.2.1 dX5_isHeld_24 (by decide) ?_
        refine lv_istore_n (lv' := [(2, .int 1), (3, .int 3), (0, .ref (ly_a y 5)), (1, .int x9)]) hK.1.1 hK.1.2.1 dX5_isHeld_28 rfl hl (by decide) rfl (fun ls hl => ?_)
        refine lv_iinc (v := 4) (lv' := [(3, .int 4), (2, .int 1), (0, .ref (ly_a y 5)), (1, .int x9)]) hK.1.1 hK.1.2.1 dX5_isHeld_29 hl (k := 1) rfl (by decide) (by decide) rfl (fun ls hl => ?_)
        refine lv_goto (tgt := 4) hK.1.1 hK.1.2.1 dX5_isHeld_32 (by decide) ?_
        refine lv_iload_n hK.1.1 hK.1.2.1 dX5_isHeld_4 rfl (lv_at hl 0 rfl) ?_
        refine lv_iconst (v := 4) hK.1.1 hK.1.2.1 dX5_isHeld_5 (by decide) ?_
        refine lv_icmp_ge (tgt := 35) hK.1.1 hK.1.2.1 dX5_isHeld_6 (by decide) (fun _ => ?_) (fun c => absurd (by decide) c)
        refine lv_iload_n hK.1.1 hK.1.2.1 dX5_isHeld_35 rfl (lv_at hl 1 rfl) ?_
        exact gk_zret0 hK.1 hret (by first | decide | exact (rp_nz (by first | assumption | (simp; done))).1) hlk hP hS (Nat.le_of_ble_eq_true rfl) (Nat.le_of_ble_eq_true rfl) dX5_isHeld_36 (⟨by simp [m_held, rg_b, c20_1, c20_2, c20_3], rfl⟩)
    · refine lv_iconst (v := 1) hK.1.1 hK.1.2.1 dX5_isHeld_23 (by decide) ?_
      refine lv_goto (tgt := 28) hK.1.1 hK.1.2.1 dX5_isHeld_24 (by decide) ?_
      refine lv_istore_n (lv' := [(2, .int 1), (3, .int 1), (0, .ref (ly_a y 5)), (1, .int x9)]) hK.1.1 hK.1.2.1 dX5_isHeld_28 rfl hl (by decide) rfl (fun ls hl => ?_)
      refine lv_iinc (v := 2) (lv' := [(3, .int 2), (2, .int 1), (0, .ref (ly_a y 5)), (1, .int x9)]) hK.1.1 hK.1.2.1 dX5_isHeld_29 hl (k := 1) rfl (by decide) (by decide) rfl (fun ls hl => ?_)
      refine lv_goto (tgt := 4) hK.1.1 hK.1.2.1 dX5_isHeld_32 (by decide) ?_
      refine lv_iload_n hK.1.1 hK.1.2.1 dX5_isHeld_4 rfl (lv_at hl 0 rfl) ?_
      refine lv_iconst (v := 4) hK.1.1 hK.1.2.1 dX5_isHeld_5 (by decide) ?_
      refine lv_icmp_ge (tgt := 35) hK.1.1 hK.1.2.1 dX5_isHeld_6 (by decide) (fun c => absurd c (by decide)) (fun _ => ?_)
      refine lv_iload_n hK.1.1 hK.1.2.1 dX5_isHeld_9 rfl (lv_at hl 1 rfl) ?_
      refine lv_if_ne (tgt := 23) hK.1.1 hK.1.2.1 dX5_isHeld_10 (by decide) (fun _ => ?_) (fun c => absurd c (by decide))
      refine lv_iconst (v := 1) hK.1.1 hK.1.2.1 dX5_isHeld_23 (by decide) ?_
      refine lv_goto (tgt := 28) hK.1.1 hK.1.2.1 dX5_isHeld_24 (by decide) ?_
      refine lv_istore_n (lv' := [(2, .int 1), (3, .int 2), (0, .ref (ly_a y 5)), (1, .int x9)]) hK.1.1 hK.1.2.1 dX5_isHeld_28 rfl hl (by decide) rfl (fun ls hl => ?_)
      refine lv_iinc (v := 3) (lv' := [(3, .int 3), (2, .int 1), (0, .ref (ly_a y 5)), (1, .int x9)]) hK.1.1 hK.1.2.1 dX5_isHeld_29 hl (k := 1) rfl (by decide) (by decide) rfl (fun ls hl => ?_)
      refine lv_goto (tgt := 4) hK.1.1 hK.1.2.1 dX5_isHeld_32 (by decide) ?_
      refine lv_iload_n hK.1.1 hK.1.2.1 dX5_isHeld_4 rfl (lv_at hl 0 rfl) ?_
      refine lv_iconst (v := 4) hK.1.1 hK.1.2.1 dX5_isHeld_5 (by decide) ?_
      refine lv_icmp_ge (tgt := 35) hK.1.1 hK.1.2.1 dX5_isHeld_6 (by decide) (fun c => absurd c (by decide)) (fun _ => ?_)
      refine lv_iload_n hK.1.1 hK.1.2.1 dX5_isHeld_9 rfl (lv_at hl 1 rfl) ?_
      refine lv_if_ne (tgt := 23) hK.1.1 hK.1.2.1 dX5_isHeld_10 (by decide) (fun _ => ?_) (fun c => absurd c (by decide))
      refine lv_iconst (v := 1) hK.1.1 hK.1.2.1 dX5_isHeld_23 (by decide) ?_
      refine lv_goto (tgt := 28) hK.1.1 hK.1.2.1 dX5_isHeld_24 (by decide) ?_
      refine lv_istore_n (lv' := [(2, .int 1), (3, .int 3), (0, .ref (ly_a y 5)), (1, .int x9)]) hK.1.1 hK.1.2.1 dX5_isHeld_28 rfl hl (by decide) rfl (fun ls hl => ?_)
      refine lv_iinc (v := 4) (lv' := [(3, .int 4), (2, .int 1), (0, .ref (ly_a y 5)), (1, .int x9)]) hK.1.1 hK.1.2.1 dX5_isHeld_29 hl (k := 1) rfl (by decide) (by decide) rfl (fun ls hl => ?_)
      refine lv_goto (tgt := 4) hK.1.1 hK.1.2.1 dX5_isHeld_32 (by decide) ?_
      refine lv_iload_n hK.1.1 hK.1.2.1 dX5_isHeld_4 rfl (lv_at hl 0 rfl) ?_
      refine lv_iconst (v := 4) hK.1.1 hK.1.2.1 dX5_isHeld_5 (by decide) ?_
      refine lv_icmp_ge (tgt := 35) hK.1.1 hK.1.2.1 dX5_isHeld_6 (by decide) (fun _ => ?_) (fun c => absurd (by decide) c)
      refine lv_iload_n hK.1.1 hK.1.2.1 dX5_isHeld_35 rfl (lv_at hl 1 rfl) ?_
      exact gk_zret0 hK.1 hret (by first | decide | exact (rp_nz (by first | assumption | (simp; done))).1) hlk hP hS (Nat.le_of_ble_eq_true rfl) (Nat.le_of_ble_eq_true rfl) dX5_isHeld_36 (⟨by simp [m_held, rg_b, c20_1, c20_2], rfl⟩)
  · refine lv_iconst (v := 1) hK.1.1 hK.1.2.1 dX5_isHeld_23 (by decide) ?_
    refine lv_goto (tgt := 28) hK.1.1 hK.1.2.1 dX5_isHeld_24 (by decide) ?_
    refine lv_istore_n (lv' := [(2, .int 1), (3, .int 0), (0, .ref (ly_a y 5)), (1, .int x9)]) hK.1.1 hK.1.2.1 dX5_isHeld_28 rfl hl (by decide) rfl (fun ls hl => ?_)
    refine lv_iinc (v := 1) (lv' := [(3, .int 1), (2, .int 1), (0, .ref (ly_a y 5)), (1, .int x9)]) hK.1.1 hK.1.2.1 dX5_isHeld_29 hl (k := 1) rfl (by decide) (by decide) rfl (fun ls hl => ?_)
    refine lv_goto (tgt := 4) hK.1.1 hK.1.2.1 dX5_isHeld_32 (by decide) ?_
    refine lv_iload_n hK.1.1 hK.1.2.1 dX5_isHeld_4 rfl (lv_at hl 0 rfl) ?_
    refine lv_iconst (v := 4) hK.1.1 hK.1.2.1 dX5_isHeld_5 (by decide) ?_
    refine lv_icmp_ge (tgt := 35) hK.1.1 hK.1.2.1 dX5_isHeld_6 (by decide) (fun c => absurd c (by decide)) (fun _ => ?_)
    refine lv_iload_n hK.1.1 hK.1.2.1 dX5_isHeld_9 rfl (lv_at hl 1 rfl) ?_
    refine lv_if_ne (tgt := 23) hK.1.1 hK.1.2.1 dX5_isHeld_10 (by decide) (fun _ => ?_) (fun c => absurd c (by decide))
    refine lv_iconst (v := 1) hK.1.1 hK.1.2.1 dX5_isHeld_23 (by decide) ?_
    refine lv_goto (tgt := 28) hK.1.1 hK.1.2.1 dX5_isHeld_24 (by decide) ?_
    refine lv_istore_n (lv' := [(2, .int 1), (3, .int 1), (0, .ref (ly_a y 5)), (1, .int x9)]) hK.1.1 hK.1.2.1 dX5_isHeld_28 rfl hl (by decide) rfl (fun ls hl => ?_)
    refine lv_iinc (v := 2) (lv' := [(3, .int 2), (2, .int 1), (0, .ref (ly_a y 5)), (1, .int x9)]) hK.1.1 hK.1.2.1 dX5_isHeld_29 hl (k := 1) rfl (by decide) (by decide) rfl (fun ls hl => ?_)
    refine lv_goto (tgt := 4) hK.1.1 hK.1.2.1 dX5_isHeld_32 (by decide) ?_
    refine lv_iload_n hK.1.1 hK.1.2.1 dX5_isHeld_4 rfl (lv_at hl 0 rfl) ?_
    refine lv_iconst (v := 4) hK.1.1 hK.1.2.1 dX5_isHeld_5 (by decide) ?_
    refine lv_icmp_ge (tgt := 35) hK.1.1 hK.1.2.1 dX5_isHeld_6 (by decide) (fun c => absurd c (by decide)) (fun _ => ?_)
    refine lv_iload_n hK.1.1 hK.1.2.1 dX5_isHeld_9 rfl (lv_at hl 1 rfl) ?_
    refine lv_if_ne (tgt := 23) hK.1.1 hK.1.2.1 dX5_isHeld_10 (by decide) (fun _ => ?_) (fun c => absurd c (by decide))
    refine lv_iconst (v := 1) hK.1.1 hK.1.2.1 dX5_isHeld_23 (by decide) ?_
    refine lv_goto (tgt := 28) hK.1.1 hK.1.2.1 dX5_isHeld_24 (by decide) ?_
    refine lv_istore_n (lv' := [(2, .int 1), (3, .int 2), (0, .ref (ly_a y 5)), (1, .int x9)]) hK.1.1 hK.1.2.1 dX5_isHeld_28 rfl hl (by decide) rfl (fun ls hl => ?_)
    refine lv_iinc (v := 3) (lv' := [(3, .int 3), (2, .int 1), (0, .ref (ly_a y 5)), (1, .int x9)]) hK.1.1 hK.1.2.1 dX5_isHeld_29 hl (k := 1) rfl (by decide) (by decide) rfl (fun ls hl => ?_)
    refine lv_goto (tgt := 4) hK.1.1 hK.1.2.1 dX5_isHeld_32 (by decide) ?_
    refine lv_iload_n hK.1.1 hK.1.2.1 dX5_isHeld_4 rfl (lv_at hl 0 rfl) ?_
    refine lv_iconst (v := 4) hK.1.1 hK.1.2.1 dX5_isHeld_5 (by decide) ?_
    refine lv_icmp_ge (tgt := 35) hK.1.1 hK.1.2.1 dX5_isHeld_6 (by decide) (fun c => absurd c (by decide)) (fun _ => ?_)
    refine lv_iload_n hK.1.1 hK.1.2.1 dX5_isHeld_9 rfl (lv_at hl 1 rfl) ?_
    refine lv_if_ne (tgt := 23) hK.1.1 hK.1.2.1 dX5_isHeld_10 (by decide) (fun _ => ?_) (fun c => absurd c (by decide))
    refine lv_iconst (v := 1) hK.1.1 hK.1.2.1 dX5_isHeld_23 (by decide) ?_
    refine lv_goto (tgt := 28) hK.1.1 hK.1.2.1 dX5_isHeld_24 (by decide) ?_
    refine lv_istore_n (lv' := [(2, .int 1), (3, .int 3), (0, .ref (ly_a y 5)), (1, .int x9)]) hK.1.1 hK.1.2.1 dX5_isHeld_28 rfl hl (by decide) rfl (fun ls hl => ?_)
    refine lv_iinc (v := 4) (lv' := [(3, .int 4), (2, .int 1), (0, .ref (ly_a y 5)), (1, .int x9)]) hK.1.1 hK.1.2.1 dX5_isHeld_29 hl (k := 1) rfl (by decide) (by decide) rfl (fun ls hl => ?_)
    refine lv_goto (tgt := 4) hK.1.1 hK.1.2.1 dX5_isHeld_32 (by decide) ?_
    refine lv_iload_n hK.1.1 hK.1.2.1 dX5_isHeld_4 rfl (lv_at hl 0 rfl) ?_
    refine lv_iconst (v := 4) hK.1.1 hK.1.2.1 dX5_isHeld_5 (by decide) ?_
    refine lv_icmp_ge (tgt := 35) hK.1.1 hK.1.2.1 dX5_isHeld_6 (by decide) (fun _ => ?_) (fun c => absurd (by decide) c)
    refine lv_iload_n hK.1.1 hK.1.2.1 dX5_isHeld_35 rfl (lv_at hl 1 rfl) ?_
    exact gk_zret0 hK.1 hret (by first | decide | exact (rp_nz (by first | assumption | (simp; done))).1) hlk hP hS (Nat.le_of_ble_eq_true rfl) (Nat.le_of_ble_eq_true rfl) dX5_isHeld_36 (⟨by simp [m_held, rg_b, c20_1], rfl⟩)
set_option maxHeartbeats 4000000 in
set_option maxRecDepth 100000 in
theorem c_X5_oldsOf (l : Launch) {y : ly_T} {A : Nat → Prop} {G : gk_G} {td : Int32} {ru : Nat → Nat → Int32} {fr lv : Nat → Nat} {lt et tl : Nat → Int32} {hf hp : Nat → Option Nat} {ol : Nat → List Nat} {PS : Nat → Prop} {pf : Nat → Nat → Int32} {ov : Int64} {md mq mt : Int32} {mv : Nat → Nat → Int32} {x9 : Int32} {n : Nat}  (hR : rp y G td ru fr lv lt et tl hf hp ol PS pf ov md mq mt mv) (hq : mq = nI n) (hn : n ≤ 4096) : gk_M0 l yX5_oldsOf (Cond.code yX5_oldsOf cX5_oldsOf 4 (some .int)) 0 0 0 0 y A [.ref (ly_a y 5), .int x9] G (fun v G1 => v = some (.int (nI (m_cnt mv x9 n))) ∧ G1 = G) := by
  refine gk_of0 (cc := cX5_oldsOf) (maxL := 4) (ret := (some .int)) (own := RX5) (by decide +kernel) rfl rfl (Nat.le_of_ble_eq_true rfl) ?_
  intro p e s m below meth c ls hK hret hlk _ hP hS hl
  have hl : lv_has ls 4 [(0, .ref (ly_a y 5)), (1, .int x9)] := hl
  refine lv_iconst (v := 0) hK.1.1 hK.1.2.1 dX5_oldsOf_0 (by decide) ?_
  refine lv_istore_n (lv' := [(2, .int 0), (0, .ref (ly_a y 5)), (1, .int x9)]) hK.1.1 hK.1.2.1 dX5_oldsOf_1 rfl hl (by decide) rfl (fun ls hl => ?_)
  refine lv_iconst (v := 0) hK.1.1 hK.1.2.1 dX5_oldsOf_2 (by decide) ?_
  refine lv_istore_n (lv' := [(3, .int 0), (2, .int 0), (0, .ref (ly_a y 5)), (1, .int x9)]) hK.1.1 hK.1.2.1 dX5_oldsOf_3 rfl hl (by decide) rfl (fun ls hl => ?_)
  have loop : ∀ (dd : Nat) (k : Nat) (ls : Array Slot) (H : Heap) (locs : List Loc), n - k = dd → (k ≤ n) → gk_P (ly_D y) A G H → va_S A s.heap H locs → lv_has ls 4 [(3, .int (nI k)), (2, .int (nI (m_cnt mv x9 k))), (0, .ref (ly_a y 5)), (1, .int x9)] → W p l e { frames := 0, cells := 0, slots := 0, locals := 0 } s m [.ref (ly_a y 5), .int x9].toArray below meth c H locs 0 0 (MQ below (gk_Q y A (fun v G1 => v = some (.int (nI (m_cnt mv x9 n))) ∧ G1 = G)) [.ref (ly_a y 5), .int x9].toArray s 0 0 A) (F0 m 4 ls []) := by
    intro dd
    induction dd using Nat.strongRecOn with
    | _ dd ih =>
    intro k ls H locs hdd hk hP hS hl
    refine lv_iload_n hK.1.1 hK.1.2.1 dX5_oldsOf_4 rfl (lv_at hl 0 rfl) ?_
    refine lv_aload_n hK.1.1 hK.1.2.1 dX5_oldsOf_5 rfl (lv_at hl 2 rfl) ?_
    refine mr_100 hK hP hR dX5_oldsOf_6 ?_
    rw [hq]
    refine lv_icmp_ge (tgt := 36) hK.1.1 hK.1.2.1 dX5_oldsOf_9 (by decide) (fun c9_1 => ?_) (fun c9_1 => ?_)
    · have hkn : k = n := Nat.le_antisymm hk ((nI_leI (by omega) (by omega)).mp c9_1)
      subst hkn
      refine lv_iload_n hK.1.1 hK.1.2.1 dX5_oldsOf_36 rfl (lv_at hl 1 rfl) ?_
      exact gk_iret0 hK.1 hret hlk hP hS (Nat.le_of_ble_eq_true rfl) (Nat.le_of_ble_eq_true rfl) dX5_oldsOf_37 (⟨rfl, rfl⟩)
    · have hkn : k < n := Nat.lt_of_not_le (fun h => c9_1 (nI_le h (by omega)))
      refine lv_iload_n hK.1.1 hK.1.2.1 dX5_oldsOf_12 rfl (lv_at hl 1 rfl) ?_
      refine lv_aload_n hK.1.1 hK.1.2.1 dX5_oldsOf_13 rfl (lv_at hl 2 rfl) ?_
      refine mr_53 hK hP hR dX5_oldsOf_14 ?_
      refine lv_iload_n hK.1.1 hK.1.2.1 dX5_oldsOf_17 rfl (lv_at hl 0 rfl) ?_
      refine mr_ild hK hP hR 14 (by decide) rfl (j := k) (show k < 4096 by omega) dX5_oldsOf_18 ?_
      refine lv_iload_n hK.1.1 hK.1.2.1 dX5_oldsOf_19 rfl (lv_at hl 3 rfl) ?_
      refine lv_icmp_ne (tgt := 27) hK.1.1 hK.1.2.1 dX5_oldsOf_20 (by decide) (fun c20_2 => ?_) (fun c20_2 => ?_)
      · refine lv_iconst (v := 0) hK.1.1 hK.1.2.1 dX5_oldsOf_27 (by decide) ?_
        refine lv_iadd hK.1.1 hK.1.2.1 dX5_oldsOf_28 ?_
        rw [Int32.add_zero, ← m_cnt_n c20_2]
        refine lv_istore_n (lv' := [(2, .int (nI (m_cnt mv x9 (k + 1)))), (3, .int (nI k)), (0, .ref (ly_a y 5)), (1, .int x9)]) hK.1.1 hK.1.2.1 dX5_oldsOf_29 rfl hl (by decide) rfl (fun ls hl => ?_)
        refine lv_iinc (v := nI (k + 1)) (lv' := [(3, .int (nI (k + 1))), (2, .int (nI (m_cnt mv x9 (k + 1)))), (0, .ref (ly_a y 5)), (1, .int x9)]) hK.1.1 hK.1.2.1 dX5_oldsOf_30 hl (k := 1) rfl (nI_1 k) (by decide) rfl (fun ls hl => ?_)
        refine lv_goto (tgt := 4) hK.1.1 hK.1.2.1 dX5_oldsOf_33 (by decide) ?_
        exact ih (n - (k + 1)) (by omega)  (k + 1) ls _ _ rfl (by omega) hP hS (lv_sub hl [0, 1, 2, 3] rfl)
      · refine lv_iconst (v := 1) hK.1.1 hK.1.2.1 dX5_oldsOf_23 (by decide) ?_
        refine lv_goto (tgt := 28) hK.1.1 hK.1.2.1 dX5_oldsOf_24 (by decide) ?_
        refine lv_iadd hK.1.1 hK.1.2.1 dX5_oldsOf_28 ?_
        rw [nI_1, ← m_cnt_y c20_2]
        refine lv_istore_n (lv' := [(2, .int (nI (m_cnt mv x9 (k + 1)))), (3, .int (nI k)), (0, .ref (ly_a y 5)), (1, .int x9)]) hK.1.1 hK.1.2.1 dX5_oldsOf_29 rfl hl (by decide) rfl (fun ls hl => ?_)
        refine lv_iinc (v := nI (k + 1)) (lv' := [(3, .int (nI (k + 1))), (2, .int (nI (m_cnt mv x9 (k + 1)))), (0, .ref (ly_a y 5)), (1, .int x9)]) hK.1.1 hK.1.2.1 dX5_oldsOf_30 hl (k := 1) rfl (nI_1 k) (by decide) rfl (fun ls hl => ?_)
        refine lv_goto (tgt := 4) hK.1.1 hK.1.2.1 dX5_oldsOf_33 (by decide) ?_
        exact ih (n - (k + 1)) (by omega)  (k + 1) ls _ _ rfl (by omega) hP hS (lv_sub hl [0, 1, 2, 3] rfl)
  exact loop _ 0 ls _ _ rfl (by omega) hP hS (lv_sub hl [0, 1, 2, 3] rfl)
theorem rg_bt {b : Bool} (h : ¬ rg_b b = 0) : b = true := by
  cases b with
  | true => rfl
  | false => exact absurd rfl h
set_option maxHeartbeats 4000000 in
set_option maxRecDepth 100000 in
theorem c_X5_comes (l : Launch) {y : ly_T} {A : Nat → Prop} {G : gk_G} {td : Int32} {ru : Nat → Nat → Int32} {fr lv : Nat → Nat} {lt et tl : Nat → Int32} {hf hp : Nat → Option Nat} {ol : Nat → List Nat} {PS : Nat → Prop} {pf : Nat → Nat → Int32} {ov : Int64} {md mq mt : Int32} {mv : Nat → Nat → Int32} {a e9 s9 : Nat} {w9 : Int32}  (hR : rp y G td ru fr lv lt et tl hf hp ol PS pf ov md mq mt mv) (ha : a ≤ 10000) (he : e9 ≤ 10000) (hs0 : 0 < s9) (hs : s9 ≤ 100) : gk_M0 l yX5_comes (Cond.code yX5_comes cX5_comes 6 (some .boolean)) 0 0 0 0 y A [.int (nI a), .int (nI e9), .int w9, .int (nI s9)] G (fun v G1 => v = some (.int (rg_b (m_come a e9 s9 w9))) ∧ G1 = G) := by
  refine gk_of0 (cc := cX5_comes) (maxL := 6) (ret := (some .boolean)) (own := RX5) (by decide +kernel) rfl rfl (Nat.le_of_ble_eq_true rfl) ?_
  intro p e s m below meth c ls hK hret hlk _ hP hS hl
  have hl : lv_has ls 6 [(0, .int (nI a)), (1, .int (nI e9)), (2, .int w9), (3, .int (nI s9))] := hl
  have hs9 : ¬ nI s9 = 0 := nI_ne0 hs0 (by omega)
  refine lv_iconst (v := 0) hK.1.1 hK.1.2.1 dX5_comes_0 (by decide) ?_
  refine lv_istore (lv' := [(4, .int 0), (0, .int (nI a)), (1, .int (nI e9)), (2, .int w9), (3, .int (nI s9))]) hK.1.1 hK.1.2.1 dX5_comes_1 hl (by decide) rfl (fun ls hl => ?_)
  refine lv_iload_n hK.1.1 hK.1.2.1 dX5_comes_3 rfl (lv_at hl 1 rfl) ?_
  refine lv_iconst (v := 1) hK.1.1 hK.1.2.1 dX5_comes_4 (by decide) ?_
  refine lv_iadd hK.1.1 hK.1.2.1 dX5_comes_5 ?_
  rw [nI_1]
  refine lv_istore (lv' := [(5, .int (nI (a + 1))), (4, .int 0), (0, .int (nI a)), (1, .int (nI e9)), (2, .int w9), (3, .int (nI s9))]) hK.1.1 hK.1.2.1 dX5_comes_6 hl (by decide) rfl (fun ls hl => ?_)
  have loop : ∀ (dd : Nat) (k : Nat) (B : Bool) (ls : Array Slot) (H : Heap) (locs : List Loc), (a + s9) + 1 - k = dd → (a < k) → (k ≤ a + s9 + 1) → (B = m_cA a s9 w9 (k - (a + 1))) → (k ≤ max e9 a + 1) → gk_P (ly_D y) A G H → va_S A s.heap H locs → lv_has ls 6 [(5, .int (nI k)), (4, .int (rg_b B)), (0, .int (nI a)), (1, .int (nI e9)), (2, .int w9), (3, .int (nI s9))] → W p l e { frames := 0, cells := 0, slots := 0, locals := 0 } s m [.int (nI a), .int (nI e9), .int w9, .int (nI s9)].toArray below meth c H locs 0 0 (MQ below (gk_Q y A (fun v G1 => v = some (.int (rg_b (m_come a e9 s9 w9))) ∧ G1 = G)) [.int (nI a), .int (nI e9), .int w9, .int (nI s9)].toArray s 0 0 A) (F0 m 8 ls []) := by
    intro dd
    induction dd using Nat.strongRecOn with
    | _ dd ih =>
    intro k B ls H locs hdd hk hk2 hB hke hP hS hl
    refine lv_iload hK.1.1 hK.1.2.1 dX5_comes_8 (lv_at hl 0 rfl) ?_
    refine lv_iload_n hK.1.1 hK.1.2.1 dX5_comes_10 rfl (lv_at hl 3 rfl) ?_
    refine lv_icmp_gt (tgt := 48) hK.1.1 hK.1.2.1 dX5_comes_11 (by decide) (fun c11_1 => ?_) (fun c11_1 => ?_)
    · have hx1 : e9 < k := (nI_ltI (by omega) (by omega)).mp c11_1
      have hfin : k - (a + 1) = min e9 (a + s9) - a := by omega
      refine lv_iload hK.1.1 hK.1.2.1 dX5_comes_48 (lv_at hl 1 rfl) ?_
      exact gk_zret0 hK.1 hret (rp_nz (rg_b01 _)).1 hlk hP hS (Nat.le_of_ble_eq_true rfl) (Nat.le_of_ble_eq_true rfl) dX5_comes_50 (⟨by rw [show m_come a e9 s9 w9 = B by rw [hB, hfin]; rfl], rfl⟩)
    · have hx1 : k ≤ e9 := Nat.le_of_not_lt (fun h => c11_1 (nI_lt h (by omega)))
      refine lv_iload hK.1.1 hK.1.2.1 dX5_comes_14 (lv_at hl 0 rfl) ?_
      refine lv_iload_n hK.1.1 hK.1.2.1 dX5_comes_16 rfl (lv_at hl 2 rfl) ?_
      refine lv_iload_n hK.1.1 hK.1.2.1 dX5_comes_17 rfl (lv_at hl 5 rfl) ?_
      refine lv_iadd hK.1.1 hK.1.2.1 dX5_comes_18 ?_
      rw [nI_add]
      refine lv_icmp_gt (tgt := 48) hK.1.1 hK.1.2.1 dX5_comes_19 (by decide) (fun c19_2 => ?_) (fun c19_2 => ?_)
      · have hx2 : a + s9 < k := (nI_ltI (by omega) (by omega)).mp c19_2
        have hfin : k - (a + 1) = min e9 (a + s9) - a := by omega
        refine lv_iload hK.1.1 hK.1.2.1 dX5_comes_48 (lv_at hl 1 rfl) ?_
        exact gk_zret0 hK.1 hret (rp_nz (rg_b01 _)).1 hlk hP hS (Nat.le_of_ble_eq_true rfl) (Nat.le_of_ble_eq_true rfl) dX5_comes_50 (⟨by rw [show m_come a e9 s9 w9 = B by rw [hB, hfin]; rfl], rfl⟩)
      · have hx2 : k ≤ a + s9 := Nat.le_of_not_lt (fun h => c19_2 (nI_lt h (by omega)))
        have hB2 : m_cA a s9 w9 (k + 1 - (a + 1)) = (B || decide (nI (k % s9) = w9)) := by rw [hB, show k + 1 - (a + 1) = k - (a + 1) + 1 by omega, m_cA_s, show a + 1 + (k - (a + 1)) = k by omega]
        refine lv_iload hK.1.1 hK.1.2.1 dX5_comes_22 (lv_at hl 1 rfl) ?_
        refine lv_if_ne (tgt := 35) hK.1.1 hK.1.2.1 dX5_comes_24 (by decide) (fun c24_3 => ?_) (fun c24_3 => ?_)
        · refine lv_iconst (v := 1) hK.1.1 hK.1.2.1 dX5_comes_35 (by decide) ?_
          refine lv_goto (tgt := 40) hK.1.1 hK.1.2.1 dX5_comes_36 (by decide) ?_
          refine lv_istore (lv' := [(4, .int 1), (5, .int (nI k)), (0, .int (nI a)), (1, .int (nI e9)), (2, .int w9), (3, .int (nI s9))]) hK.1.1 hK.1.2.1 dX5_comes_40 hl (by decide) rfl (fun ls hl => ?_)
          refine lv_iinc (v := nI (k + 1)) (lv' := [(5, .int (nI (k + 1))), (4, .int 1), (0, .int (nI a)), (1, .int (nI e9)), (2, .int w9), (3, .int (nI s9))]) hK.1.1 hK.1.2.1 dX5_comes_42 hl (k := 1) rfl (nI_1 k) (by decide) rfl (fun ls hl => ?_)
          refine lv_goto (tgt := 8) hK.1.1 hK.1.2.1 dX5_comes_45 (by decide) ?_
          exact ih ((a + s9) + 1 - (k + 1)) (by omega)  (k + 1) true ls _ _ rfl (by omega) (by omega) (by rw [hB2, rg_bt c24_3]; rfl) (by omega) hP hS (lv_sub hl [0, 1, 2, 3, 4, 5] rfl)
        · refine lv_iload hK.1.1 hK.1.2.1 dX5_comes_27 (lv_at hl 0 rfl) ?_
          refine lv_iload_n hK.1.1 hK.1.2.1 dX5_comes_29 rfl (lv_at hl 5 rfl) ?_
          refine lv_irem hK.1.1 hK.1.2.1 dX5_comes_30 hs9 ?_
          rw [m_rem (by omega) hs0 (by omega)]
          refine lv_iload_n hK.1.1 hK.1.2.1 dX5_comes_31 rfl (lv_at hl 4 rfl) ?_
          refine lv_icmp_ne (tgt := 39) hK.1.1 hK.1.2.1 dX5_comes_32 (by decide) (fun c32_4 => ?_) (fun c32_4 => ?_)
          · refine lv_iconst (v := 0) hK.1.1 hK.1.2.1 dX5_comes_39 (by decide) ?_
            refine lv_istore (lv' := [(4, .int 0), (5, .int (nI k)), (0, .int (nI a)), (1, .int (nI e9)), (2, .int w9), (3, .int (nI s9))]) hK.1.1 hK.1.2.1 dX5_comes_40 hl (by decide) rfl (fun ls hl => ?_)
            refine lv_iinc (v := nI (k + 1)) (lv' := [(5, .int (nI (k + 1))), (4, .int 0), (0, .int (nI a)), (1, .int (nI e9)), (2, .int w9), (3, .int (nI s9))]) hK.1.1 hK.1.2.1 dX5_comes_42 hl (k := 1) rfl (nI_1 k) (by decide) rfl (fun ls hl => ?_)
            refine lv_goto (tgt := 8) hK.1.1 hK.1.2.1 dX5_comes_45 (by decide) ?_
            exact ih ((a + s9) + 1 - (k + 1)) (by omega)  (k + 1) false ls _ _ rfl (by omega) (by omega) (by rw [hB2, rg_b0.mp c24_3, decide_eq_false c32_4]; rfl) (by omega) hP hS (lv_sub hl [0, 1, 2, 3, 4, 5] rfl)
          · refine lv_iconst (v := 1) hK.1.1 hK.1.2.1 dX5_comes_35 (by decide) ?_
            refine lv_goto (tgt := 40) hK.1.1 hK.1.2.1 dX5_comes_36 (by decide) ?_
            refine lv_istore (lv' := [(4, .int 1), (5, .int (nI k)), (0, .int (nI a)), (1, .int (nI e9)), (2, .int w9), (3, .int (nI s9))]) hK.1.1 hK.1.2.1 dX5_comes_40 hl (by decide) rfl (fun ls hl => ?_)
            refine lv_iinc (v := nI (k + 1)) (lv' := [(5, .int (nI (k + 1))), (4, .int 1), (0, .int (nI a)), (1, .int (nI e9)), (2, .int w9), (3, .int (nI s9))]) hK.1.1 hK.1.2.1 dX5_comes_42 hl (k := 1) rfl (nI_1 k) (by decide) rfl (fun ls hl => ?_)
            refine lv_goto (tgt := 8) hK.1.1 hK.1.2.1 dX5_comes_45 (by decide) ?_
            exact ih ((a + s9) + 1 - (k + 1)) (by omega)  (k + 1) true ls _ _ rfl (by omega) (by omega) (by rw [hB2, rg_b0.mp c24_3, decide_eq_true c32_4]; rfl) (by omega) hP hS (lv_sub hl [0, 1, 2, 3, 4, 5] rfl)
  exact loop _ (a + 1) false ls _ _ rfl (by omega) (by omega) (by rw [Nat.sub_self]; rfl) (by omega) hP hS (lv_sub hl [0, 1, 2, 3, 4, 5] rfl)
set_option maxHeartbeats 4000000 in
set_option maxRecDepth 100000 in
theorem c_X5_isDueOn (l : Launch) {y : ly_T} {A : Nat → Prop} {G : gk_G} {td : Int32} {ru : Nat → Nat → Int32} {fr lv : Nat → Nat} {lt et tl : Nat → Int32} {hf hp : Nat → Option Nat} {ol : Nat → List Nat} {PS : Nat → Prop} {pf : Nat → Nat → Int32} {ov : Int64} {md mq mt : Int32} {mv : Nat → Nat → Int32} {f r a e9 : Nat}  (hR : rp y G td ru fr lv lt et tl hf hp ol PS pf ov md mq mt mv) (hf5 : f < 5) (hr3 : r < 3) (hr9 : mv 9 f = nI r) (ha9 : mv 11 f = nI a) (ha : a ≤ 10000) (he : e9 ≤ 10000) : gk_M0 l yX5_isDueOn (Cond.code yX5_isDueOn cX5_isDueOn 6 (some .boolean)) 1 40 0 0 y A [.ref (ly_a y 5), .int (nI f), .int (nI e9)] G (fun v G1 => v = some (.int (rg_b (m_due mv f r a e9))) ∧ G1 = G) := by
  refine gk_of0 (cc := cX5_isDueOn) (maxL := 6) (ret := (some .boolean)) (own := RX5) (by decide +kernel) rfl rfl (Nat.le_of_ble_eq_true rfl) ?_
  intro p e s m below meth c ls hK hret hlk _ hP hS hl
  have hl : lv_has ls 6 [(0, .ref (ly_a y 5)), (1, .int (nI f)), (2, .int (nI e9))] := hl
  refine lv_aload_n hK.1.1 hK.1.2.1 dX5_isDueOn_0 rfl (lv_at hl 0 rfl) ?_
  refine mr_38 hK hP hR dX5_isDueOn_1 ?_
  refine lv_iload_n hK.1.1 hK.1.2.1 dX5_isDueOn_4 rfl (lv_at hl 1 rfl) ?_
  refine mr_ild hK hP hR 9 (by decide) rfl (j := f) hf5 dX5_isDueOn_5 ?_
  rw [hr9]
  refine lv_istore_n (lv' := [(3, .int (nI r)), (0, .ref (ly_a y 5)), (1, .int (nI f)), (2, .int (nI e9))]) hK.1.1 hK.1.2.1 dX5_isDueOn_6 rfl hl (by decide) rfl (fun ls hl => ?_)
  refine lv_aload_n hK.1.1 hK.1.2.1 dX5_isDueOn_7 rfl (lv_at hl 1 rfl) ?_
  refine mr_41 hK hP hR dX5_isDueOn_8 ?_
  refine lv_iload_n hK.1.1 hK.1.2.1 dX5_isDueOn_11 rfl (lv_at hl 2 rfl) ?_
  refine mr_ild hK hP hR 10 (by decide) rfl (j := f) hf5 dX5_isDueOn_12 ?_
  refine lv_if_le (tgt := 46) hK.1.1 hK.1.2.1 dX5_isDueOn_13 (by decide) (fun c13_1 => ?_) (fun c13_1 => ?_)
  · refine lv_iconst (v := 0) hK.1.1 hK.1.2.1 dX5_isDueOn_46 (by decide) ?_
    refine lv_istore (lv' := [(4, .int 0), (3, .int (nI r)), (0, .ref (ly_a y 5)), (1, .int (nI f)), (2, .int (nI e9))]) hK.1.1 hK.1.2.1 dX5_isDueOn_47 hl (by decide) rfl (fun ls hl => ?_)
    refine lv_aload_n hK.1.1 hK.1.2.1 dX5_isDueOn_49 rfl (lv_at hl 2 rfl) ?_
    refine mr_7 hK hP hR dX5_isDueOn_50 ?_
    refine lv_iload_n hK.1.1 hK.1.2.1 dX5_isDueOn_53 rfl (lv_at hl 1 rfl) ?_
    refine mr_ild hK hP hR 0 (by decide) rfl (j := r) hr3 dX5_isDueOn_54 ?_
    refine lv_if_le (tgt := 77) hK.1.1 hK.1.2.1 dX5_isDueOn_55 (by decide) (fun c55_2 => ?_) (fun c55_2 => ?_)
    · refine lv_iconst (v := 0) hK.1.1 hK.1.2.1 dX5_isDueOn_77 (by decide) ?_
      refine lv_istore (lv' := [(5, .int 0), (4, .int 0), (3, .int (nI r)), (0, .ref (ly_a y 5)), (1, .int (nI f)), (2, .int (nI e9))]) hK.1.1 hK.1.2.1 dX5_isDueOn_78 hl (by decide) rfl (fun ls hl => ?_)
      refine lv_iload hK.1.1 hK.1.2.1 dX5_isDueOn_80 (lv_at hl 1 rfl) ?_
      refine lv_if_eq (tgt := 136) hK.1.1 hK.1.2.1 dX5_isDueOn_82 (by decide) (fun _ => ?_) (fun c => absurd c (by decide))
      refine lv_iconst (v := 0) hK.1.1 hK.1.2.1 dX5_isDueOn_136 (by decide) ?_
      exact gk_zret0 hK.1 hret (by first | decide | exact (rp_nz (by first | assumption | (simp; done))).1) hlk hP hS (Nat.le_of_ble_eq_true rfl) (Nat.le_of_ble_eq_true rfl) dX5_isDueOn_137 (⟨by (try simp only [rg_b0, rg_b1, Bool.not_eq_false, Bool.not_eq_true] at c13_1 c55_2); simp [m_due, rg_b, c13_1, c55_2], rfl⟩)
    · refine lv_aload_n hK.1.1 hK.1.2.1 dX5_isDueOn_58 rfl (lv_at hl 2 rfl) ?_
      refine mr_41 hK hP hR dX5_isDueOn_59 ?_
      refine lv_iload_n hK.1.1 hK.1.2.1 dX5_isDueOn_62 rfl (lv_at hl 3 rfl) ?_
      refine mr_ild hK hP hR 10 (by decide) rfl (j := f) hf5 dX5_isDueOn_63 ?_
      refine lv_aload_n hK.1.1 hK.1.2.1 dX5_isDueOn_64 rfl (lv_at hl 2 rfl) ?_
      refine mr_7 hK hP hR dX5_isDueOn_65 ?_
      refine lv_iload_n hK.1.1 hK.1.2.1 dX5_isDueOn_68 rfl (lv_at hl 1 rfl) ?_
      refine mr_ild hK hP hR 0 (by decide) rfl (j := r) hr3 dX5_isDueOn_69 ?_
      refine lv_icmp_lt (tgt := 77) hK.1.1 hK.1.2.1 dX5_isDueOn_70 (by decide) (fun c70_3 => ?_) (fun c70_3 => ?_)
      · refine lv_iconst (v := 0) hK.1.1 hK.1.2.1 dX5_isDueOn_77 (by decide) ?_
        refine lv_istore (lv' := [(5, .int 0), (4, .int 0), (3, .int (nI r)), (0, .ref (ly_a y 5)), (1, .int (nI f)), (2, .int (nI e9))]) hK.1.1 hK.1.2.1 dX5_isDueOn_78 hl (by decide) rfl (fun ls hl => ?_)
        refine lv_iload hK.1.1 hK.1.2.1 dX5_isDueOn_80 (lv_at hl 1 rfl) ?_
        refine lv_if_eq (tgt := 136) hK.1.1 hK.1.2.1 dX5_isDueOn_82 (by decide) (fun _ => ?_) (fun c => absurd c (by decide))
        refine lv_iconst (v := 0) hK.1.1 hK.1.2.1 dX5_isDueOn_136 (by decide) ?_
        exact gk_zret0 hK.1 hret (by first | decide | exact (rp_nz (by first | assumption | (simp; done))).1) hlk hP hS (Nat.le_of_ble_eq_true rfl) (Nat.le_of_ble_eq_true rfl) dX5_isDueOn_137 (⟨by (try simp only [rg_b0, rg_b1, Bool.not_eq_false, Bool.not_eq_true] at c13_1 c55_2 c70_3); simp [m_due, rg_b, c13_1, c55_2, c70_3], rfl⟩)
      · refine lv_iconst (v := 1) hK.1.1 hK.1.2.1 dX5_isDueOn_73 (by decide) ?_
        refine lv_goto (tgt := 78) hK.1.1 hK.1.2.1 dX5_isDueOn_74 (by decide) ?_
        refine lv_istore (lv' := [(5, .int 1), (4, .int 0), (3, .int (nI r)), (0, .ref (ly_a y 5)), (1, .int (nI f)), (2, .int (nI e9))]) hK.1.1 hK.1.2.1 dX5_isDueOn_78 hl (by decide) rfl (fun ls hl => ?_)
        refine lv_iload hK.1.1 hK.1.2.1 dX5_isDueOn_80 (lv_at hl 1 rfl) ?_
        refine lv_if_eq (tgt := 136) hK.1.1 hK.1.2.1 dX5_isDueOn_82 (by decide) (fun _ => ?_) (fun c => absurd c (by decide))
        refine lv_iconst (v := 0) hK.1.1 hK.1.2.1 dX5_isDueOn_136 (by decide) ?_
        exact gk_zret0 hK.1 hret (by first | decide | exact (rp_nz (by first | assumption | (simp; done))).1) hlk hP hS (Nat.le_of_ble_eq_true rfl) (Nat.le_of_ble_eq_true rfl) dX5_isDueOn_137 (⟨by (try simp only [rg_b0, rg_b1, Bool.not_eq_false, Bool.not_eq_true] at c13_1 c55_2 c70_3); simp [m_due, rg_b, c13_1, c55_2, c70_3], rfl⟩)
  · refine lv_aload_n hK.1.1 hK.1.2.1 dX5_isDueOn_16 rfl (lv_at hl 1 rfl) ?_
    refine mr_47 hK hP hR dX5_isDueOn_17 ?_
    refine lv_iload_n hK.1.1 hK.1.2.1 dX5_isDueOn_20 rfl (lv_at hl 2 rfl) ?_
    refine mr_zld hK hP hR 12 (by decide) rfl (j := f) hf5 dX5_isDueOn_21 ?_
    refine lv_if_eq (tgt := 42) hK.1.1 hK.1.2.1 dX5_isDueOn_22 (by decide) (fun c22_4 => ?_) (fun c22_4 => ?_)
    · refine lv_iconst (v := 1) hK.1.1 hK.1.2.1 dX5_isDueOn_42 (by decide) ?_
      refine lv_goto (tgt := 47) hK.1.1 hK.1.2.1 dX5_isDueOn_43 (by decide) ?_
      refine lv_istore (lv' := [(4, .int 1), (3, .int (nI r)), (0, .ref (ly_a y 5)), (1, .int (nI f)), (2, .int (nI e9))]) hK.1.1 hK.1.2.1 dX5_isDueOn_47 hl (by decide) rfl (fun ls hl => ?_)
      refine lv_aload_n hK.1.1 hK.1.2.1 dX5_isDueOn_49 rfl (lv_at hl 2 rfl) ?_
      refine mr_7 hK hP hR dX5_isDueOn_50 ?_
      refine lv_iload_n hK.1.1 hK.1.2.1 dX5_isDueOn_53 rfl (lv_at hl 1 rfl) ?_
      refine mr_ild hK hP hR 0 (by decide) rfl (j := r) hr3 dX5_isDueOn_54 ?_
      refine lv_if_le (tgt := 77) hK.1.1 hK.1.2.1 dX5_isDueOn_55 (by decide) (fun c55_5 => ?_) (fun c55_5 => ?_)
      · refine lv_iconst (v := 0) hK.1.1 hK.1.2.1 dX5_isDueOn_77 (by decide) ?_
        refine lv_istore (lv' := [(5, .int 0), (4, .int 1), (3, .int (nI r)), (0, .ref (ly_a y 5)), (1, .int (nI f)), (2, .int (nI e9))]) hK.1.1 hK.1.2.1 dX5_isDueOn_78 hl (by decide) rfl (fun ls hl => ?_)
        refine lv_iload hK.1.1 hK.1.2.1 dX5_isDueOn_80 (lv_at hl 1 rfl) ?_
        refine lv_if_eq (tgt := 136) hK.1.1 hK.1.2.1 dX5_isDueOn_82 (by decide) (fun c => absurd c (by decide)) (fun _ => ?_)
        refine lv_iload hK.1.1 hK.1.2.1 dX5_isDueOn_85 (lv_at hl 0 rfl) ?_
        refine lv_if_ne (tgt := 132) hK.1.1 hK.1.2.1 dX5_isDueOn_87 (by decide) (fun c => absurd c (by decide)) (fun _ => ?_)
        refine lv_aload_n hK.1.1 hK.1.2.1 dX5_isDueOn_90 rfl (lv_at hl 3 rfl) ?_
        refine mr_44 hK hP hR dX5_isDueOn_91 ?_
        refine lv_iload_n hK.1.1 hK.1.2.1 dX5_isDueOn_94 rfl (lv_at hl 4 rfl) ?_
        refine mr_ild hK hP hR 11 (by decide) rfl (j := f) hf5 dX5_isDueOn_95 ?_
        rw [ha9]
        refine lv_iload_n hK.1.1 hK.1.2.1 dX5_isDueOn_96 rfl (lv_at hl 5 rfl) ?_
        refine lv_aload_n hK.1.1 hK.1.2.1 dX5_isDueOn_97 rfl (lv_at hl 3 rfl) ?_
        refine mr_13 hK hP hR dX5_isDueOn_98 ?_
        refine lv_iload_n hK.1.1 hK.1.2.1 dX5_isDueOn_101 rfl (lv_at hl 2 rfl) ?_
        refine mr_ild hK hP hR 1 (by decide) rfl (j := r) hr3 dX5_isDueOn_102 ?_
        refine lv_bipush (v := 7) hK.1.1 hK.1.2.1 dX5_isDueOn_103 (by decide) ?_
        refine gk_callS0 (n := 4) (As := [.int (nI a), .int (nI e9), .int (mv 1 r), .int 7]) (rest := []) hK (c_X5_comes l hR (a := a) (e9 := e9) (s9 := 7) (w9 := (mv 1 r)) ha he (by decide) (by decide)) (gk_gS q_17_11 q_17_12 q_1_5 q_17_13) ⟨by decide +kernel, by decide +kernel, by decide +kernel⟩ ⟨(Nat.le_of_ble_eq_true rfl), (Nat.le_of_ble_eq_true rfl)⟩ hP hS rfl hl.1 rfl (Nat.le_of_ble_eq_true rfl) dX5_isDueOn_105 ⟨(Nat.le_of_ble_eq_true rfl), (Nat.le_of_ble_eq_true rfl)⟩ (fun v G1 H locs hw hP hS => ?_)
        obtain ⟨rfl, hG9⟩ := hw
        rw [hG9] at hP
        refine W.eq (g2 := F0 m 108 ls [.int (rg_b (m_come a e9 7 (mv 1 r)))]) rfl ?_
        refine lv_if_ne (tgt := 132) hK.1.1 hK.1.2.1 dX5_isDueOn_108 (by decide) (fun c108_6 => ?_) (fun c108_6 => ?_)
        · refine lv_iconst (v := 1) hK.1.1 hK.1.2.1 dX5_isDueOn_132 (by decide) ?_
          refine lv_goto (tgt := 137) hK.1.1 hK.1.2.1 dX5_isDueOn_133 (by decide) ?_
          exact gk_zret0 hK.1 hret (by first | decide | exact (rp_nz (by first | assumption | (simp; done))).1) hlk hP hS (Nat.le_of_ble_eq_true rfl) (Nat.le_of_ble_eq_true rfl) dX5_isDueOn_137 (⟨by (try simp only [rg_b0, rg_b1, Bool.not_eq_false, Bool.not_eq_true] at c13_1 c22_4 c55_5 c108_6); simp [m_due, rg_b, c13_1, c22_4, c55_5, c108_6], rfl⟩)
        · refine lv_aload_n hK.1.1 hK.1.2.1 dX5_isDueOn_111 rfl (lv_at hl 3 rfl) ?_
          refine mr_44 hK hP hR dX5_isDueOn_112 ?_
          refine lv_iload_n hK.1.1 hK.1.2.1 dX5_isDueOn_115 rfl (lv_at hl 4 rfl) ?_
          refine mr_ild hK hP hR 11 (by decide) rfl (j := f) hf5 dX5_isDueOn_116 ?_
          rw [ha9]
          refine lv_iload_n hK.1.1 hK.1.2.1 dX5_isDueOn_117 rfl (lv_at hl 5 rfl) ?_
          refine lv_aload_n hK.1.1 hK.1.2.1 dX5_isDueOn_118 rfl (lv_at hl 3 rfl) ?_
          refine mr_16 hK hP hR dX5_isDueOn_119 ?_
          refine lv_iload_n hK.1.1 hK.1.2.1 dX5_isDueOn_122 rfl (lv_at hl 2 rfl) ?_
          refine mr_ild hK hP hR 2 (by decide) rfl (j := r) hr3 dX5_isDueOn_123 ?_
          refine lv_bipush (v := 30) hK.1.1 hK.1.2.1 dX5_isDueOn_124 (by decide) ?_
          refine gk_callS0 (n := 4) (As := [.int (nI a), .int (nI e9), .int (mv 2 r), .int 30]) (rest := []) hK (c_X5_comes l hR (a := a) (e9 := e9) (s9 := 30) (w9 := (mv 2 r)) ha he (by decide) (by decide)) (gk_gS q_17_11 q_17_12 q_1_5 q_17_13) ⟨by decide +kernel, by decide +kernel, by decide +kernel⟩ ⟨(Nat.le_of_ble_eq_true rfl), (Nat.le_of_ble_eq_true rfl)⟩ hP hS rfl hl.1 rfl (Nat.le_of_ble_eq_true rfl) dX5_isDueOn_126 ⟨(Nat.le_of_ble_eq_true rfl), (Nat.le_of_ble_eq_true rfl)⟩ (fun v G1 H locs hw hP hS => ?_)
          obtain ⟨rfl, hG9⟩ := hw
          rw [hG9] at hP
          refine W.eq (g2 := F0 m 129 ls [.int (rg_b (m_come a e9 30 (mv 2 r)))]) rfl ?_
          refine lv_if_eq (tgt := 136) hK.1.1 hK.1.2.1 dX5_isDueOn_129 (by decide) (fun c129_7 => ?_) (fun c129_7 => ?_)
          · refine lv_iconst (v := 0) hK.1.1 hK.1.2.1 dX5_isDueOn_136 (by decide) ?_
            exact gk_zret0 hK.1 hret (by first | decide | exact (rp_nz (by first | assumption | (simp; done))).1) hlk hP hS (Nat.le_of_ble_eq_true rfl) (Nat.le_of_ble_eq_true rfl) dX5_isDueOn_137 (⟨by (try simp only [rg_b0, rg_b1, Bool.not_eq_false, Bool.not_eq_true] at c13_1 c22_4 c55_5 c108_6 c129_7); simp [m_due, rg_b, c13_1, c22_4, c55_5, c108_6, c129_7], rfl⟩)
          · refine lv_iconst (v := 1) hK.1.1 hK.1.2.1 dX5_isDueOn_132 (by decide) ?_
            refine lv_goto (tgt := 137) hK.1.1 hK.1.2.1 dX5_isDueOn_133 (by decide) ?_
            exact gk_zret0 hK.1 hret (by first | decide | exact (rp_nz (by first | assumption | (simp; done))).1) hlk hP hS (Nat.le_of_ble_eq_true rfl) (Nat.le_of_ble_eq_true rfl) dX5_isDueOn_137 (⟨by (try simp only [rg_b0, rg_b1, Bool.not_eq_false, Bool.not_eq_true] at c13_1 c22_4 c55_5 c108_6 c129_7); simp [m_due, rg_b, c13_1, c22_4, c55_5, c108_6, c129_7], rfl⟩)
      · refine lv_aload_n hK.1.1 hK.1.2.1 dX5_isDueOn_58 rfl (lv_at hl 2 rfl) ?_
        refine mr_41 hK hP hR dX5_isDueOn_59 ?_
        refine lv_iload_n hK.1.1 hK.1.2.1 dX5_isDueOn_62 rfl (lv_at hl 3 rfl) ?_
        refine mr_ild hK hP hR 10 (by decide) rfl (j := f) hf5 dX5_isDueOn_63 ?_
        refine lv_aload_n hK.1.1 hK.1.2.1 dX5_isDueOn_64 rfl (lv_at hl 2 rfl) ?_
        refine mr_7 hK hP hR dX5_isDueOn_65 ?_
        refine lv_iload_n hK.1.1 hK.1.2.1 dX5_isDueOn_68 rfl (lv_at hl 1 rfl) ?_
        refine mr_ild hK hP hR 0 (by decide) rfl (j := r) hr3 dX5_isDueOn_69 ?_
        refine lv_icmp_lt (tgt := 77) hK.1.1 hK.1.2.1 dX5_isDueOn_70 (by decide) (fun c70_8 => ?_) (fun c70_8 => ?_)
        · refine lv_iconst (v := 0) hK.1.1 hK.1.2.1 dX5_isDueOn_77 (by decide) ?_
          refine lv_istore (lv' := [(5, .int 0), (4, .int 1), (3, .int (nI r)), (0, .ref (ly_a y 5)), (1, .int (nI f)), (2, .int (nI e9))]) hK.1.1 hK.1.2.1 dX5_isDueOn_78 hl (by decide) rfl (fun ls hl => ?_)
          refine lv_iload hK.1.1 hK.1.2.1 dX5_isDueOn_80 (lv_at hl 1 rfl) ?_
          refine lv_if_eq (tgt := 136) hK.1.1 hK.1.2.1 dX5_isDueOn_82 (by decide) (fun c => absurd c (by decide)) (fun _ => ?_)
          refine lv_iload hK.1.1 hK.1.2.1 dX5_isDueOn_85 (lv_at hl 0 rfl) ?_
          refine lv_if_ne (tgt := 132) hK.1.1 hK.1.2.1 dX5_isDueOn_87 (by decide) (fun c => absurd c (by decide)) (fun _ => ?_)
          refine lv_aload_n hK.1.1 hK.1.2.1 dX5_isDueOn_90 rfl (lv_at hl 3 rfl) ?_
          refine mr_44 hK hP hR dX5_isDueOn_91 ?_
          refine lv_iload_n hK.1.1 hK.1.2.1 dX5_isDueOn_94 rfl (lv_at hl 4 rfl) ?_
          refine mr_ild hK hP hR 11 (by decide) rfl (j := f) hf5 dX5_isDueOn_95 ?_
          rw [ha9]
          refine lv_iload_n hK.1.1 hK.1.2.1 dX5_isDueOn_96 rfl (lv_at hl 5 rfl) ?_
          refine lv_aload_n hK.1.1 hK.1.2.1 dX5_isDueOn_97 rfl (lv_at hl 3 rfl) ?_
          refine mr_13 hK hP hR dX5_isDueOn_98 ?_
          refine lv_iload_n hK.1.1 hK.1.2.1 dX5_isDueOn_101 rfl (lv_at hl 2 rfl) ?_
          refine mr_ild hK hP hR 1 (by decide) rfl (j := r) hr3 dX5_isDueOn_102 ?_
          refine lv_bipush (v := 7) hK.1.1 hK.1.2.1 dX5_isDueOn_103 (by decide) ?_
          refine gk_callS0 (n := 4) (As := [.int (nI a), .int (nI e9), .int (mv 1 r), .int 7]) (rest := []) hK (c_X5_comes l hR (a := a) (e9 := e9) (s9 := 7) (w9 := (mv 1 r)) ha he (by decide) (by decide)) (gk_gS q_17_11 q_17_12 q_1_5 q_17_13) ⟨by decide +kernel, by decide +kernel, by decide +kernel⟩ ⟨(Nat.le_of_ble_eq_true rfl), (Nat.le_of_ble_eq_true rfl)⟩ hP hS rfl hl.1 rfl (Nat.le_of_ble_eq_true rfl) dX5_isDueOn_105 ⟨(Nat.le_of_ble_eq_true rfl), (Nat.le_of_ble_eq_true rfl)⟩ (fun v G1 H locs hw hP hS => ?_)
          obtain ⟨rfl, hG9⟩ := hw
          rw [hG9] at hP
          refine W.eq (g2 := F0 m 108 ls [.int (rg_b (m_come a e9 7 (mv 1 r)))]) rfl ?_
          refine lv_if_ne (tgt := 132) hK.1.1 hK.1.2.1 dX5_isDueOn_108 (by decide) (fun c108_9 => ?_) (fun c108_9 => ?_)
          · refine lv_iconst (v := 1) hK.1.1 hK.1.2.1 dX5_isDueOn_132 (by decide) ?_
            refine lv_goto (tgt := 137) hK.1.1 hK.1.2.1 dX5_isDueOn_133 (by decide) ?_
            exact gk_zret0 hK.1 hret (by first | decide | exact (rp_nz (by first | assumption | (simp; done))).1) hlk hP hS (Nat.le_of_ble_eq_true rfl) (Nat.le_of_ble_eq_true rfl) dX5_isDueOn_137 (⟨by (try simp only [rg_b0, rg_b1, Bool.not_eq_false, Bool.not_eq_true] at c13_1 c22_4 c55_5 c70_8 c108_9); simp [m_due, rg_b, c13_1, c22_4, c55_5, c70_8, c108_9], rfl⟩)
          · refine lv_aload_n hK.1.1 hK.1.2.1 dX5_isDueOn_111 rfl (lv_at hl 3 rfl) ?_
            refine mr_44 hK hP hR dX5_isDueOn_112 ?_
            refine lv_iload_n hK.1.1 hK.1.2.1 dX5_isDueOn_115 rfl (lv_at hl 4 rfl) ?_
            refine mr_ild hK hP hR 11 (by decide) rfl (j := f) hf5 dX5_isDueOn_116 ?_
            rw [ha9]
            refine lv_iload_n hK.1.1 hK.1.2.1 dX5_isDueOn_117 rfl (lv_at hl 5 rfl) ?_
            refine lv_aload_n hK.1.1 hK.1.2.1 dX5_isDueOn_118 rfl (lv_at hl 3 rfl) ?_
            refine mr_16 hK hP hR dX5_isDueOn_119 ?_
            refine lv_iload_n hK.1.1 hK.1.2.1 dX5_isDueOn_122 rfl (lv_at hl 2 rfl) ?_
            refine mr_ild hK hP hR 2 (by decide) rfl (j := r) hr3 dX5_isDueOn_123 ?_
            refine lv_bipush (v := 30) hK.1.1 hK.1.2.1 dX5_isDueOn_124 (by decide) ?_
            refine gk_callS0 (n := 4) (As := [.int (nI a), .int (nI e9), .int (mv 2 r), .int 30]) (rest := []) hK (c_X5_comes l hR (a := a) (e9 := e9) (s9 := 30) (w9 := (mv 2 r)) ha he (by decide) (by decide)) (gk_gS q_17_11 q_17_12 q_1_5 q_17_13) ⟨by decide +kernel, by decide +kernel, by decide +kernel⟩ ⟨(Nat.le_of_ble_eq_true rfl), (Nat.le_of_ble_eq_true rfl)⟩ hP hS rfl hl.1 rfl (Nat.le_of_ble_eq_true rfl) dX5_isDueOn_126 ⟨(Nat.le_of_ble_eq_true rfl), (Nat.le_of_ble_eq_true rfl)⟩ (fun v G1 H locs hw hP hS => ?_)
            obtain ⟨rfl, hG9⟩ := hw
            rw [hG9] at hP
            refine W.eq (g2 := F0 m 129 ls [.int (rg_b (m_come a e9 30 (mv 2 r)))]) rfl ?_
            refine lv_if_eq (tgt := 136) hK.1.1 hK.1.2.1 dX5_isDueOn_129 (by decide) (fun c129_10 => ?_) (fun c129_10 => ?_)
            · refine lv_iconst (v := 0) hK.1.1 hK.1.2.1 dX5_isDueOn_136 (by decide) ?_
              exact gk_zret0 hK.1 hret (by first | decide | exact (rp_nz (by first | assumption | (simp; done))).1) hlk hP hS (Nat.le_of_ble_eq_true rfl) (Nat.le_of_ble_eq_true rfl) dX5_isDueOn_137 (⟨by (try simp only [rg_b0, rg_b1, Bool.not_eq_false, Bool.not_eq_true] at c13_1 c22_4 c55_5 c70_8 c108_9 c129_10); simp [m_due, rg_b, c13_1, c22_4, c55_5, c70_8, c108_9, c129_10], rfl⟩)
            · refine lv_iconst (v := 1) hK.1.1 hK.1.2.1 dX5_isDueOn_132 (by decide) ?_
              refine lv_goto (tgt := 137) hK.1.1 hK.1.2.1 dX5_isDueOn_133 (by decide) ?_
              exact gk_zret0 hK.1 hret (by first | decide | exact (rp_nz (by first | assumption | (simp; done))).1) hlk hP hS (Nat.le_of_ble_eq_true rfl) (Nat.le_of_ble_eq_true rfl) dX5_isDueOn_137 (⟨by (try simp only [rg_b0, rg_b1, Bool.not_eq_false, Bool.not_eq_true] at c13_1 c22_4 c55_5 c70_8 c108_9 c129_10); simp [m_due, rg_b, c13_1, c22_4, c55_5, c70_8, c108_9, c129_10], rfl⟩)
        · refine lv_iconst (v := 1) hK.1.1 hK.1.2.1 dX5_isDueOn_73 (by decide) ?_
          refine lv_goto (tgt := 78) hK.1.1 hK.1.2.1 dX5_isDueOn_74 (by decide) ?_
          refine lv_istore (lv' := [(5, .int 1), (4, .int 1), (3, .int (nI r)), (0, .ref (ly_a y 5)), (1, .int (nI f)), (2, .int (nI e9))]) hK.1.1 hK.1.2.1 dX5_isDueOn_78 hl (by decide) rfl (fun ls hl => ?_)
          refine lv_iload hK.1.1 hK.1.2.1 dX5_isDueOn_80 (lv_at hl 1 rfl) ?_
          refine lv_if_eq (tgt := 136) hK.1.1 hK.1.2.1 dX5_isDueOn_82 (by decide) (fun c => absurd c (by decide)) (fun _ => ?_)
          refine lv_iload hK.1.1 hK.1.2.1 dX5_isDueOn_85 (lv_at hl 0 rfl) ?_
          refine lv_if_ne (tgt := 132) hK.1.1 hK.1.2.1 dX5_isDueOn_87 (by decide) (fun _ => ?_) (fun c => absurd c (by decide))
          refine lv_iconst (v := 1) hK.1.1 hK.1.2.1 dX5_isDueOn_132 (by decide) ?_
          refine lv_goto (tgt := 137) hK.1.1 hK.1.2.1 dX5_isDueOn_133 (by decide) ?_
          exact gk_zret0 hK.1 hret (by first | decide | exact (rp_nz (by first | assumption | (simp; done))).1) hlk hP hS (Nat.le_of_ble_eq_true rfl) (Nat.le_of_ble_eq_true rfl) dX5_isDueOn_137 (⟨by (try simp only [rg_b0, rg_b1, Bool.not_eq_false, Bool.not_eq_true] at c13_1 c22_4 c55_5 c70_8); simp [m_due, rg_b, c13_1, c22_4, c55_5, c70_8], rfl⟩)
    · refine lv_iload_n hK.1.1 hK.1.2.1 dX5_isDueOn_25 rfl (lv_at hl 3 rfl) ?_
      refine lv_aload_n hK.1.1 hK.1.2.1 dX5_isDueOn_26 rfl (lv_at hl 1 rfl) ?_
      refine mr_44 hK hP hR dX5_isDueOn_27 ?_
      refine lv_iload_n hK.1.1 hK.1.2.1 dX5_isDueOn_30 rfl (lv_at hl 2 rfl) ?_
      refine mr_ild hK hP hR 11 (by decide) rfl (j := f) hf5 dX5_isDueOn_31 ?_
      rw [ha9]
      refine lv_isub hK.1.1 hK.1.2.1 dX5_isDueOn_32 ?_
      refine lv_aload_n hK.1.1 hK.1.2.1 dX5_isDueOn_33 rfl (lv_at hl 1 rfl) ?_
      refine mr_19 hK hP hR dX5_isDueOn_34 ?_
      refine lv_iload_n hK.1.1 hK.1.2.1 dX5_isDueOn_37 rfl (lv_at hl 0 rfl) ?_
      refine mr_ild hK hP hR 3 (by decide) rfl (j := r) hr3 dX5_isDueOn_38 ?_
      refine lv_icmp_lt (tgt := 46) hK.1.1 hK.1.2.1 dX5_isDueOn_39 (by decide) (fun c39_11 => ?_) (fun c39_11 => ?_)
      · refine lv_iconst (v := 0) hK.1.1 hK.1.2.1 dX5_isDueOn_46 (by decide) ?_
        refine lv_istore (lv' := [(4, .int 0), (3, .int (nI r)), (0, .ref (ly_a y 5)), (1, .int (nI f)), (2, .int (nI e9))]) hK.1.1 hK.1.2.1 dX5_isDueOn_47 hl (by decide) rfl (fun ls hl => ?_)
        refine lv_aload_n hK.1.1 hK.1.2.1 dX5_isDueOn_49 rfl (lv_at hl 2 rfl) ?_
        refine mr_7 hK hP hR dX5_isDueOn_50 ?_
        refine lv_iload_n hK.1.1 hK.1.2.1 dX5_isDueOn_53 rfl (lv_at hl 1 rfl) ?_
        refine mr_ild hK hP hR 0 (by decide) rfl (j := r) hr3 dX5_isDueOn_54 ?_
        refine lv_if_le (tgt := 77) hK.1.1 hK.1.2.1 dX5_isDueOn_55 (by decide) (fun c55_12 => ?_) (fun c55_12 => ?_)
        · refine lv_iconst (v := 0) hK.1.1 hK.1.2.1 dX5_isDueOn_77 (by decide) ?_
          refine lv_istore (lv' := [(5, .int 0), (4, .int 0), (3, .int (nI r)), (0, .ref (ly_a y 5)), (1, .int (nI f)), (2, .int (nI e9))]) hK.1.1 hK.1.2.1 dX5_isDueOn_78 hl (by decide) rfl (fun ls hl => ?_)
          refine lv_iload hK.1.1 hK.1.2.1 dX5_isDueOn_80 (lv_at hl 1 rfl) ?_
          refine lv_if_eq (tgt := 136) hK.1.1 hK.1.2.1 dX5_isDueOn_82 (by decide) (fun _ => ?_) (fun c => absurd c (by decide))
          refine lv_iconst (v := 0) hK.1.1 hK.1.2.1 dX5_isDueOn_136 (by decide) ?_
          exact gk_zret0 hK.1 hret (by first | decide | exact (rp_nz (by first | assumption | (simp; done))).1) hlk hP hS (Nat.le_of_ble_eq_true rfl) (Nat.le_of_ble_eq_true rfl) dX5_isDueOn_137 (⟨by (try simp only [rg_b0, rg_b1, Bool.not_eq_false, Bool.not_eq_true] at c13_1 c22_4 c39_11 c55_12); simp [m_due, rg_b, c13_1, c22_4, c39_11, c55_12], rfl⟩)
        · refine lv_aload_n hK.1.1 hK.1.2.1 dX5_isDueOn_58 rfl (lv_at hl 2 rfl) ?_
          refine mr_41 hK hP hR dX5_isDueOn_59 ?_
          refine lv_iload_n hK.1.1 hK.1.2.1 dX5_isDueOn_62 rfl (lv_at hl 3 rfl) ?_
          refine mr_ild hK hP hR 10 (by decide) rfl (j := f) hf5 dX5_isDueOn_63 ?_
          refine lv_aload_n hK.1.1 hK.1.2.1 dX5_isDueOn_64 rfl (lv_at hl 2 rfl) ?_
          refine mr_7 hK hP hR dX5_isDueOn_65 ?_
          refine lv_iload_n hK.1.1 hK.1.2.1 dX5_isDueOn_68 rfl (lv_at hl 1 rfl) ?_
          refine mr_ild hK hP hR 0 (by decide) rfl (j := r) hr3 dX5_isDueOn_69 ?_
          refine lv_icmp_lt (tgt := 77) hK.1.1 hK.1.2.1 dX5_isDueOn_70 (by decide) (fun c70_13 => ?_) (fun c70_13 => ?_)
          · refine lv_iconst (v := 0) hK.1.1 hK.1.2.1 dX5_isDueOn_77 (by decide) ?_
            refine lv_istore (lv' := [(5, .int 0), (4, .int 0), (3, .int (nI r)), (0, .ref (ly_a y 5)), (1, .int (nI f)), (2, .int (nI e9))]) hK.1.1 hK.1.2.1 dX5_isDueOn_78 hl (by decide) rfl (fun ls hl => ?_)
            refine lv_iload hK.1.1 hK.1.2.1 dX5_isDueOn_80 (lv_at hl 1 rfl) ?_
            refine lv_if_eq (tgt := 136) hK.1.1 hK.1.2.1 dX5_isDueOn_82 (by decide) (fun _ => ?_) (fun c => absurd c (by decide))
            refine lv_iconst (v := 0) hK.1.1 hK.1.2.1 dX5_isDueOn_136 (by decide) ?_
            exact gk_zret0 hK.1 hret (by first | decide | exact (rp_nz (by first | assumption | (simp; done))).1) hlk hP hS (Nat.le_of_ble_eq_true rfl) (Nat.le_of_ble_eq_true rfl) dX5_isDueOn_137 (⟨by (try simp only [rg_b0, rg_b1, Bool.not_eq_false, Bool.not_eq_true] at c13_1 c22_4 c39_11 c55_12 c70_13); simp [m_due, rg_b, c13_1, c22_4, c39_11, c55_12, c70_13], rfl⟩)
          · refine lv_iconst (v := 1) hK.1.1 hK.1.2.1 dX5_isDueOn_73 (by decide) ?_
            refine lv_goto (tgt := 78) hK.1.1 hK.1.2.1 dX5_isDueOn_74 (by decide) ?_
            refine lv_istore (lv' := [(5, .int 1), (4, .int 0), (3, .int (nI r)), (0, .ref (ly_a y 5)), (1, .int (nI f)), (2, .int (nI e9))]) hK.1.1 hK.1.2.1 dX5_isDueOn_78 hl (by decide) rfl (fun ls hl => ?_)
            refine lv_iload hK.1.1 hK.1.2.1 dX5_isDueOn_80 (lv_at hl 1 rfl) ?_
            refine lv_if_eq (tgt := 136) hK.1.1 hK.1.2.1 dX5_isDueOn_82 (by decide) (fun _ => ?_) (fun c => absurd c (by decide))
            refine lv_iconst (v := 0) hK.1.1 hK.1.2.1 dX5_isDueOn_136 (by decide) ?_
            exact gk_zret0 hK.1 hret (by first | decide | exact (rp_nz (by first | assumption | (simp; done))).1) hlk hP hS (Nat.le_of_ble_eq_true rfl) (Nat.le_of_ble_eq_true rfl) dX5_isDueOn_137 (⟨by (try simp only [rg_b0, rg_b1, Bool.not_eq_false, Bool.not_eq_true] at c13_1 c22_4 c39_11 c55_12 c70_13); simp [m_due, rg_b, c13_1, c22_4, c39_11, c55_12, c70_13], rfl⟩)
      · refine lv_iconst (v := 1) hK.1.1 hK.1.2.1 dX5_isDueOn_42 (by decide) ?_
        refine lv_goto (tgt := 47) hK.1.1 hK.1.2.1 dX5_isDueOn_43 (by decide) ?_
        refine lv_istore (lv' := [(4, .int 1), (3, .int (nI r)), (0, .ref (ly_a y 5)), (1, .int (nI f)), (2, .int (nI e9))]) hK.1.1 hK.1.2.1 dX5_isDueOn_47 hl (by decide) rfl (fun ls hl => ?_)
        refine lv_aload_n hK.1.1 hK.1.2.1 dX5_isDueOn_49 rfl (lv_at hl 2 rfl) ?_
        refine mr_7 hK hP hR dX5_isDueOn_50 ?_
        refine lv_iload_n hK.1.1 hK.1.2.1 dX5_isDueOn_53 rfl (lv_at hl 1 rfl) ?_
        refine mr_ild hK hP hR 0 (by decide) rfl (j := r) hr3 dX5_isDueOn_54 ?_
        refine lv_if_le (tgt := 77) hK.1.1 hK.1.2.1 dX5_isDueOn_55 (by decide) (fun c55_14 => ?_) (fun c55_14 => ?_)
        · refine lv_iconst (v := 0) hK.1.1 hK.1.2.1 dX5_isDueOn_77 (by decide) ?_
          refine lv_istore (lv' := [(5, .int 0), (4, .int 1), (3, .int (nI r)), (0, .ref (ly_a y 5)), (1, .int (nI f)), (2, .int (nI e9))]) hK.1.1 hK.1.2.1 dX5_isDueOn_78 hl (by decide) rfl (fun ls hl => ?_)
          refine lv_iload hK.1.1 hK.1.2.1 dX5_isDueOn_80 (lv_at hl 1 rfl) ?_
          refine lv_if_eq (tgt := 136) hK.1.1 hK.1.2.1 dX5_isDueOn_82 (by decide) (fun c => absurd c (by decide)) (fun _ => ?_)
          refine lv_iload hK.1.1 hK.1.2.1 dX5_isDueOn_85 (lv_at hl 0 rfl) ?_
          refine lv_if_ne (tgt := 132) hK.1.1 hK.1.2.1 dX5_isDueOn_87 (by decide) (fun c => absurd c (by decide)) (fun _ => ?_)
          refine lv_aload_n hK.1.1 hK.1.2.1 dX5_isDueOn_90 rfl (lv_at hl 3 rfl) ?_
          refine mr_44 hK hP hR dX5_isDueOn_91 ?_
          refine lv_iload_n hK.1.1 hK.1.2.1 dX5_isDueOn_94 rfl (lv_at hl 4 rfl) ?_
          refine mr_ild hK hP hR 11 (by decide) rfl (j := f) hf5 dX5_isDueOn_95 ?_
          rw [ha9]
          refine lv_iload_n hK.1.1 hK.1.2.1 dX5_isDueOn_96 rfl (lv_at hl 5 rfl) ?_
          refine lv_aload_n hK.1.1 hK.1.2.1 dX5_isDueOn_97 rfl (lv_at hl 3 rfl) ?_
          refine mr_13 hK hP hR dX5_isDueOn_98 ?_
          refine lv_iload_n hK.1.1 hK.1.2.1 dX5_isDueOn_101 rfl (lv_at hl 2 rfl) ?_
          refine mr_ild hK hP hR 1 (by decide) rfl (j := r) hr3 dX5_isDueOn_102 ?_
          refine lv_bipush (v := 7) hK.1.1 hK.1.2.1 dX5_isDueOn_103 (by decide) ?_
          refine gk_callS0 (n := 4) (As := [.int (nI a), .int (nI e9), .int (mv 1 r), .int 7]) (rest := []) hK (c_X5_comes l hR (a := a) (e9 := e9) (s9 := 7) (w9 := (mv 1 r)) ha he (by decide) (by decide)) (gk_gS q_17_11 q_17_12 q_1_5 q_17_13) ⟨by decide +kernel, by decide +kernel, by decide +kernel⟩ ⟨(Nat.le_of_ble_eq_true rfl), (Nat.le_of_ble_eq_true rfl)⟩ hP hS rfl hl.1 rfl (Nat.le_of_ble_eq_true rfl) dX5_isDueOn_105 ⟨(Nat.le_of_ble_eq_true rfl), (Nat.le_of_ble_eq_true rfl)⟩ (fun v G1 H locs hw hP hS => ?_)
          obtain ⟨rfl, hG9⟩ := hw
          rw [hG9] at hP
          refine W.eq (g2 := F0 m 108 ls [.int (rg_b (m_come a e9 7 (mv 1 r)))]) rfl ?_
          refine lv_if_ne (tgt := 132) hK.1.1 hK.1.2.1 dX5_isDueOn_108 (by decide) (fun c108_15 => ?_) (fun c108_15 => ?_)
          · refine lv_iconst (v := 1) hK.1.1 hK.1.2.1 dX5_isDueOn_132 (by decide) ?_
            refine lv_goto (tgt := 137) hK.1.1 hK.1.2.1 dX5_isDueOn_133 (by decide) ?_
            exact gk_zret0 hK.1 hret (by first | decide | exact (rp_nz (by first | assumption | (simp; done))).1) hlk hP hS (Nat.le_of_ble_eq_true rfl) (Nat.le_of_ble_eq_true rfl) dX5_isDueOn_137 (⟨by (try simp only [rg_b0, rg_b1, Bool.not_eq_false, Bool.not_eq_true] at c13_1 c22_4 c39_11 c55_14 c108_15); simp [m_due, rg_b, c13_1, c22_4, c39_11, c55_14, c108_15], rfl⟩)
          · refine lv_aload_n hK.1.1 hK.1.2.1 dX5_isDueOn_111 rfl (lv_at hl 3 rfl) ?_
            refine mr_44 hK hP hR dX5_isDueOn_112 ?_
            refine lv_iload_n hK.1.1 hK.1.2.1 dX5_isDueOn_115 rfl (lv_at hl 4 rfl) ?_
            refine mr_ild hK hP hR 11 (by decide) rfl (j := f) hf5 dX5_isDueOn_116 ?_
            rw [ha9]
            refine lv_iload_n hK.1.1 hK.1.2.1 dX5_isDueOn_117 rfl (lv_at hl 5 rfl) ?_
            refine lv_aload_n hK.1.1 hK.1.2.1 dX5_isDueOn_118 rfl (lv_at hl 3 rfl) ?_
            refine mr_16 hK hP hR dX5_isDueOn_119 ?_
            refine lv_iload_n hK.1.1 hK.1.2.1 dX5_isDueOn_122 rfl (lv_at hl 2 rfl) ?_
            refine mr_ild hK hP hR 2 (by decide) rfl (j := r) hr3 dX5_isDueOn_123 ?_
            refine lv_bipush (v := 30) hK.1.1 hK.1.2.1 dX5_isDueOn_124 (by decide) ?_
            refine gk_callS0 (n := 4) (As := [.int (nI a), .int (nI e9), .int (mv 2 r), .int 30]) (rest := []) hK (c_X5_comes l hR (a := a) (e9 := e9) (s9 := 30) (w9 := (mv 2 r)) ha he (by decide) (by decide)) (gk_gS q_17_11 q_17_12 q_1_5 q_17_13) ⟨by decide +kernel, by decide +kernel, by decide +kernel⟩ ⟨(Nat.le_of_ble_eq_true rfl), (Nat.le_of_ble_eq_true rfl)⟩ hP hS rfl hl.1 rfl (Nat.le_of_ble_eq_true rfl) dX5_isDueOn_126 ⟨(Nat.le_of_ble_eq_true rfl), (Nat.le_of_ble_eq_true rfl)⟩ (fun v G1 H locs hw hP hS => ?_)
            obtain ⟨rfl, hG9⟩ := hw
            rw [hG9] at hP
            refine W.eq (g2 := F0 m 129 ls [.int (rg_b (m_come a e9 30 (mv 2 r)))]) rfl ?_
            refine lv_if_eq (tgt := 136) hK.1.1 hK.1.2.1 dX5_isDueOn_129 (by decide) (fun c129_16 => ?_) (fun c129_16 => ?_)
            · refine lv_iconst (v := 0) hK.1.1 hK.1.2.1 dX5_isDueOn_136 (by decide) ?_
              exact gk_zret0 hK.1 hret (by first | decide | exact (rp_nz (by first | assumption | (simp; done))).1) hlk hP hS (Nat.le_of_ble_eq_true rfl) (Nat.le_of_ble_eq_true rfl) dX5_isDueOn_137 (⟨by (try simp only [rg_b0, rg_b1, Bool.not_eq_false, Bool.not_eq_true] at c13_1 c22_4 c39_11 c55_14 c108_15 c129_16); simp [m_due, rg_b, c13_1, c22_4, c39_11, c55_14, c108_15, c129_16], rfl⟩)
            · refine lv_iconst (v := 1) hK.1.1 hK.1.2.1 dX5_isDueOn_132 (by decide) ?_
              refine lv_goto (tgt := 137) hK.1.1 hK.1.2.1 dX5_isDueOn_133 (by decide) ?_
              exact gk_zret0 hK.1 hret (by first | decide | exact (rp_nz (by first | assumption | (simp; done))).1) hlk hP hS (Nat.le_of_ble_eq_true rfl) (Nat.le_of_ble_eq_true rfl) dX5_isDueOn_137 (⟨by (try simp only [rg_b0, rg_b1, Bool.not_eq_false, Bool.not_eq_true] at c13_1 c22_4 c39_11 c55_14 c108_15 c129_16); simp [m_due, rg_b, c13_1, c22_4, c39_11, c55_14, c108_15, c129_16], rfl⟩)
        · refine lv_aload_n hK.1.1 hK.1.2.1 dX5_isDueOn_58 rfl (lv_at hl 2 rfl) ?_
          refine mr_41 hK hP hR dX5_isDueOn_59 ?_
          refine lv_iload_n hK.1.1 hK.1.2.1 dX5_isDueOn_62 rfl (lv_at hl 3 rfl) ?_
          refine mr_ild hK hP hR 10 (by decide) rfl (j := f) hf5 dX5_isDueOn_63 ?_
          refine lv_aload_n hK.1.1 hK.1.2.1 dX5_isDueOn_64 rfl (lv_at hl 2 rfl) ?_
          refine mr_7 hK hP hR dX5_isDueOn_65 ?_
          refine lv_iload_n hK.1.1 hK.1.2.1 dX5_isDueOn_68 rfl (lv_at hl 1 rfl) ?_
          refine mr_ild hK hP hR 0 (by decide) rfl (j := r) hr3 dX5_isDueOn_69 ?_
          refine lv_icmp_lt (tgt := 77) hK.1.1 hK.1.2.1 dX5_isDueOn_70 (by decide) (fun c70_17 => ?_) (fun c70_17 => ?_)
          · refine lv_iconst (v := 0) hK.1.1 hK.1.2.1 dX5_isDueOn_77 (by decide) ?_
            refine lv_istore (lv' := [(5, .int 0), (4, .int 1), (3, .int (nI r)), (0, .ref (ly_a y 5)), (1, .int (nI f)), (2, .int (nI e9))]) hK.1.1 hK.1.2.1 dX5_isDueOn_78 hl (by decide) rfl (fun ls hl => ?_)
            refine lv_iload hK.1.1 hK.1.2.1 dX5_isDueOn_80 (lv_at hl 1 rfl) ?_
            refine lv_if_eq (tgt := 136) hK.1.1 hK.1.2.1 dX5_isDueOn_82 (by decide) (fun c => absurd c (by decide)) (fun _ => ?_)
            refine lv_iload hK.1.1 hK.1.2.1 dX5_isDueOn_85 (lv_at hl 0 rfl) ?_
            refine lv_if_ne (tgt := 132) hK.1.1 hK.1.2.1 dX5_isDueOn_87 (by decide) (fun c => absurd c (by decide)) (fun _ => ?_)
            refine lv_aload_n hK.1.1 hK.1.2.1 dX5_isDueOn_90 rfl (lv_at hl 3 rfl) ?_
            refine mr_44 hK hP hR dX5_isDueOn_91 ?_
            refine lv_iload_n hK.1.1 hK.1.2.1 dX5_isDueOn_94 rfl (lv_at hl 4 rfl) ?_
            refine mr_ild hK hP hR 11 (by decide) rfl (j := f) hf5 dX5_isDueOn_95 ?_
            rw [ha9]
            refine lv_iload_n hK.1.1 hK.1.2.1 dX5_isDueOn_96 rfl (lv_at hl 5 rfl) ?_
            refine lv_aload_n hK.1.1 hK.1.2.1 dX5_isDueOn_97 rfl (lv_at hl 3 rfl) ?_
            refine mr_13 hK hP hR dX5_isDueOn_98 ?_
            refine lv_iload_n hK.1.1 hK.1.2.1 dX5_isDueOn_101 rfl (lv_at hl 2 rfl) ?_
            refine mr_ild hK hP hR 1 (by decide) rfl (j := r) hr3 dX5_isDueOn_102 ?_
            refine lv_bipush (v := 7) hK.1.1 hK.1.2.1 dX5_isDueOn_103 (by decide) ?_
            refine gk_callS0 (n := 4) (As := [.int (nI a), .int (nI e9), .int (mv 1 r), .int 7]) (rest := []) hK (c_X5_comes l hR (a := a) (e9 := e9) (s9 := 7) (w9 := (mv 1 r)) ha he (by decide) (by decide)) (gk_gS q_17_11 q_17_12 q_1_5 q_17_13) ⟨by decide +kernel, by decide +kernel, by decide +kernel⟩ ⟨(Nat.le_of_ble_eq_true rfl), (Nat.le_of_ble_eq_true rfl)⟩ hP hS rfl hl.1 rfl (Nat.le_of_ble_eq_true rfl) dX5_isDueOn_105 ⟨(Nat.le_of_ble_eq_true rfl), (Nat.le_of_ble_eq_true rfl)⟩ (fun v G1 H locs hw hP hS => ?_)
            obtain ⟨rfl, hG9⟩ := hw
            rw [hG9] at hP
            refine W.eq (g2 := F0 m 108 ls [.int (rg_b (m_come a e9 7 (mv 1 r)))]) rfl ?_
            refine lv_if_ne (tgt := 132) hK.1.1 hK.1.2.1 dX5_isDueOn_108 (by decide) (fun c108_18 => ?_) (fun c108_18 => ?_)
            · refine lv_iconst (v := 1) hK.1.1 hK.1.2.1 dX5_isDueOn_132 (by decide) ?_
              refine lv_goto (tgt := 137) hK.1.1 hK.1.2.1 dX5_isDueOn_133 (by decide) ?_
              exact gk_zret0 hK.1 hret (by first | decide | exact (rp_nz (by first | assumption | (simp; done))).1) hlk hP hS (Nat.le_of_ble_eq_true rfl) (Nat.le_of_ble_eq_true rfl) dX5_isDueOn_137 (⟨by (try simp only [rg_b0, rg_b1, Bool.not_eq_false, Bool.not_eq_true] at c13_1 c22_4 c39_11 c55_14 c70_17 c108_18); simp [m_due, rg_b, c13_1, c22_4, c39_11, c55_14, c70_17, c108_18], rfl⟩)
            · refine lv_aload_n hK.1.1 hK.1.2.1 dX5_isDueOn_111 rfl (lv_at hl 3 rfl) ?_
              refine mr_44 hK hP hR dX5_isDueOn_112 ?_
              refine lv_iload_n hK.1.1 hK.1.2.1 dX5_isDueOn_115 rfl (lv_at hl 4 rfl) ?_
              refine mr_ild hK hP hR 11 (by decide) rfl (j := f) hf5 dX5_isDueOn_116 ?_
              rw [ha9]
              refine lv_iload_n hK.1.1 hK.1.2.1 dX5_isDueOn_117 rfl (lv_at hl 5 rfl) ?_
              refine lv_aload_n hK.1.1 hK.1.2.1 dX5_isDueOn_118 rfl (lv_at hl 3 rfl) ?_
              refine mr_16 hK hP hR dX5_isDueOn_119 ?_
              refine lv_iload_n hK.1.1 hK.1.2.1 dX5_isDueOn_122 rfl (lv_at hl 2 rfl) ?_
              refine mr_ild hK hP hR 2 (by decide) rfl (j := r) hr3 dX5_isDueOn_123 ?_
              refine lv_bipush (v := 30) hK.1.1 hK.1.2.1 dX5_isDueOn_124 (by decide) ?_
              refine gk_callS0 (n := 4) (As := [.int (nI a), .int (nI e9), .int (mv 2 r), .int 30]) (rest := []) hK (c_X5_comes l hR (a := a) (e9 := e9) (s9 := 30) (w9 := (mv 2 r)) ha he (by decide) (by decide)) (gk_gS q_17_11 q_17_12 q_1_5 q_17_13) ⟨by decide +kernel, by decide +kernel, by decide +kernel⟩ ⟨(Nat.le_of_ble_eq_true rfl), (Nat.le_of_ble_eq_true rfl)⟩ hP hS rfl hl.1 rfl (Nat.le_of_ble_eq_true rfl) dX5_isDueOn_126 ⟨(Nat.le_of_ble_eq_true rfl), (Nat.le_of_ble_eq_true rfl)⟩ (fun v G1 H locs hw hP hS => ?_)
              obtain ⟨rfl, hG9⟩ := hw
              rw [hG9] at hP
              refine W.eq (g2 := F0 m 129 ls [.int (rg_b (m_come a e9 30 (mv 2 r)))]) rfl ?_
              refine lv_if_eq (tgt := 136) hK.1.1 hK.1.2.1 dX5_isDueOn_129 (by decide) (fun c129_19 => ?_) (fun c129_19 => ?_)
              · refine lv_iconst (v := 0) hK.1.1 hK.1.2.1 dX5_isDueOn_136 (by decide) ?_
                exact gk_zret0 hK.1 hret (by first | decide | exact (rp_nz (by first | assumption | (simp; done))).1) hlk hP hS (Nat.le_of_ble_eq_true rfl) (Nat.le_of_ble_eq_true rfl) dX5_isDueOn_137 (⟨by (try simp only [rg_b0, rg_b1, Bool.not_eq_false, Bool.not_eq_true] at c13_1 c22_4 c39_11 c55_14 c70_17 c108_18 c129_19); simp [m_due, rg_b, c13_1, c22_4, c39_11, c55_14, c70_17, c108_18, c129_19], rfl⟩)
              · refine lv_iconst (v := 1) hK.1.1 hK.1.2.1 dX5_isDueOn_132 (by decide) ?_
                refine lv_goto (tgt := 137) hK.1.1 hK.1.2.1 dX5_isDueOn_133 (by decide) ?_
                exact gk_zret0 hK.1 hret (by first | decide | exact (rp_nz (by first | assumption | (simp; done))).1) hlk hP hS (Nat.le_of_ble_eq_true rfl) (Nat.le_of_ble_eq_true rfl) dX5_isDueOn_137 (⟨by (try simp only [rg_b0, rg_b1, Bool.not_eq_false, Bool.not_eq_true] at c13_1 c22_4 c39_11 c55_14 c70_17 c108_18 c129_19); simp [m_due, rg_b, c13_1, c22_4, c39_11, c55_14, c70_17, c108_18, c129_19], rfl⟩)
          · refine lv_iconst (v := 1) hK.1.1 hK.1.2.1 dX5_isDueOn_73 (by decide) ?_
            refine lv_goto (tgt := 78) hK.1.1 hK.1.2.1 dX5_isDueOn_74 (by decide) ?_
            refine lv_istore (lv' := [(5, .int 1), (4, .int 1), (3, .int (nI r)), (0, .ref (ly_a y 5)), (1, .int (nI f)), (2, .int (nI e9))]) hK.1.1 hK.1.2.1 dX5_isDueOn_78 hl (by decide) rfl (fun ls hl => ?_)
            refine lv_iload hK.1.1 hK.1.2.1 dX5_isDueOn_80 (lv_at hl 1 rfl) ?_
            refine lv_if_eq (tgt := 136) hK.1.1 hK.1.2.1 dX5_isDueOn_82 (by decide) (fun c => absurd c (by decide)) (fun _ => ?_)
            refine lv_iload hK.1.1 hK.1.2.1 dX5_isDueOn_85 (lv_at hl 0 rfl) ?_
            refine lv_if_ne (tgt := 132) hK.1.1 hK.1.2.1 dX5_isDueOn_87 (by decide) (fun _ => ?_) (fun c => absurd c (by decide))
            refine lv_iconst (v := 1) hK.1.1 hK.1.2.1 dX5_isDueOn_132 (by decide) ?_
            refine lv_goto (tgt := 137) hK.1.1 hK.1.2.1 dX5_isDueOn_133 (by decide) ?_
            exact gk_zret0 hK.1 hret (by first | decide | exact (rp_nz (by first | assumption | (simp; done))).1) hlk hP hS (Nat.le_of_ble_eq_true rfl) (Nat.le_of_ble_eq_true rfl) dX5_isDueOn_137 (⟨by (try simp only [rg_b0, rg_b1, Bool.not_eq_false, Bool.not_eq_true] at c13_1 c22_4 c39_11 c55_14 c70_17); simp [m_due, rg_b, c13_1, c22_4, c39_11, c55_14, c70_17], rfl⟩)
set_option maxHeartbeats 4000000 in
set_option maxRecDepth 100000 in
theorem c_X5_isDue (l : Launch) {y : ly_T} {A : Nat → Prop} {G : gk_G} {td : Int32} {ru : Nat → Nat → Int32} {fr lv : Nat → Nat} {lt et tl : Nat → Int32} {hf hp : Nat → Option Nat} {ol : Nat → List Nat} {PS : Nat → Prop} {pf : Nat → Nat → Int32} {ov : Int64} {md mq mt : Int32} {mv : Nat → Nat → Int32} {i : Int32} {mr ml : Nat → Nat} {e9 : Nat}  (hR : rp y G td ru fr lv lt et tl hf hp ol PS pf ov md mq mt mv) (hr9 : ∀ f, f < 5 → mr f < 3 ∧ mv 9 f = nI (mr f)) (ha9 : ∀ f, f < 5 → ml f ≤ 10000 ∧ mv 11 f = nI (ml f)) (hd9 : md = nI e9) (he9 : e9 ≤ 5000) : gk_M0 l yX5_isDue (Cond.code yX5_isDue cX5_isDue 2 (some .boolean)) 3 90 0 0 y A [.ref (ly_a y 5), .int i] G (fun v G1 => (∃ f, f < 5 ∧ i = nI f ∧ v = some (.int (rg_b (m_due mv f (mr f) (ml f) e9))) ∧ rp y G1 td ru fr lv lt et tl hf hp ol PS pf ov md mq 0 mv) ∨ (rg_out i 5 ∧ (∃ x, v = some (.int x)) ∧ rp y G1 td ru fr lv lt et tl hf hp ol PS pf ov md mq 1 mv)) := by
  refine gk_of0 (cc := cX5_isDue) (maxL := 2) (ret := (some .boolean)) (own := RX5) (by decide +kernel) rfl rfl (Nat.le_of_ble_eq_true rfl) ?_
  intro p e s m below meth c ls hK hret hlk _ hP hS hl
  have hl : lv_has ls 2 [(0, .ref (ly_a y 5)), (1, .int i)] := hl
  subst hd9
  refine lv_aload_n hK.1.1 hK.1.2.1 dX5_isDue_0 rfl (lv_at hl 0 rfl) ?_
  refine lv_iload_n hK.1.1 hK.1.2.1 dX5_isDue_1 rfl (lv_at hl 1 rfl) ?_
  refine gk_callS0 (n := 1) (As := [.int i]) (rest := [.ref (ly_a y 5)]) hK (c_X5_isFile l hR (i := i)) (gk_gS q_8_3 q_8_4 q_1_5 q_8_5) ⟨by decide +kernel, by decide +kernel, by decide +kernel⟩ ⟨(Nat.le_of_ble_eq_true rfl), (Nat.le_of_ble_eq_true rfl)⟩ hP hS rfl hl.1 rfl (Nat.le_of_ble_eq_true rfl) dX5_isDue_2 ⟨(Nat.le_of_ble_eq_true rfl), (Nat.le_of_ble_eq_true rfl)⟩ (fun v G1 H locs hw hP hS => ?_)
  obtain ⟨hw, hG9⟩ := hw
  rw [hG9] at hP
  rcases hw with ⟨f_1, hf_1, rfl, rfl⟩ | ⟨ho_2, rfl⟩
  · refine W.eq (g2 := F0 m 5 ls [.int 1, .ref (ly_a y 5)]) rfl ?_
    refine lv_iconst (v := 1) hK.1.1 hK.1.2.1 dX5_isDue_5 (by decide) ?_
    refine lv_iconst (v := 1) hK.1.1 hK.1.2.1 dX5_isDue_6 (by decide) ?_
    refine gk_callV0 (n := 3) (As := [.int 1, .int 1, .int 1]) (rest := []) hK (c_X5_goes l hR (a9 := 1) (b9 := 1) (c9 := 1) (m9 := 0) (x9 := 1) (by decide) (by decide)) (gk_gV q_6_9 q_6_10 q_6_11 q_1_5 q_6_12) ⟨rfl, by decide +kernel, by decide +kernel, by decide +kernel⟩ ⟨(Nat.le_of_ble_eq_true rfl), (Nat.le_of_ble_eq_true rfl)⟩ hP hS (gk_recv hK.2.2.1.1 hP hR.2.2.2.2.2.2.2.2.1 rfl) rfl hl.1 rfl (Nat.le_of_ble_eq_true rfl) dX5_isDue_7 ⟨(Nat.le_of_ble_eq_true rfl), (Nat.le_of_ble_eq_true rfl)⟩ (fun v G1 H locs hw hP hS => ?_)
    obtain ⟨rfl, hR⟩ := hw
    refine W.eq (g2 := F0 m 10 ls [.int 1]) rfl ?_
    refine lv_if_eq (tgt := 29) hK.1.1 hK.1.2.1 dX5_isDue_10 (by decide) (fun c => absurd c (by decide)) (fun _ => ?_)
    refine lv_aload_n hK.1.1 hK.1.2.1 dX5_isDue_13 rfl (lv_at hl 0 rfl) ?_
    refine lv_iload_n hK.1.1 hK.1.2.1 dX5_isDue_14 rfl (lv_at hl 1 rfl) ?_
    refine lv_aload_n hK.1.1 hK.1.2.1 dX5_isDue_15 rfl (lv_at hl 0 rfl) ?_
    refine mr_93 hK hP hR dX5_isDue_16 ?_
    refine gk_callV0 (n := 2) (As := [.int (nI f_1), .int (nI e9)]) (rest := []) hK (c_X5_isDueOn l hR (f := f_1) (r := (mr f_1)) (a := (ml f_1)) (e9 := e9) hf_1 (hr9 f_1 hf_1).1 (hr9 f_1 hf_1).2 (ha9 f_1 hf_1).2 (ha9 f_1 hf_1).1 (by omega)) (gk_gV q_17_7 q_17_8 q_17_9 q_1_5 q_17_10) ⟨rfl, by decide +kernel, by decide +kernel, by decide +kernel⟩ ⟨(Nat.le_of_ble_eq_true rfl), (Nat.le_of_ble_eq_true rfl)⟩ hP hS (gk_recv hK.2.2.1.1 hP hR.2.2.2.2.2.2.2.2.1 rfl) rfl hl.1 rfl (Nat.le_of_ble_eq_true rfl) dX5_isDue_19 ⟨(Nat.le_of_ble_eq_true rfl), (Nat.le_of_ble_eq_true rfl)⟩ (fun v G1 H locs hw hP hS => ?_)
    obtain ⟨rfl, hG9⟩ := hw
    rw [hG9] at hP
    refine W.eq (g2 := F0 m 22 ls [.int (rg_b (m_due mv f_1 (mr f_1) (ml f_1) e9))]) rfl ?_
    refine lv_if_eq (tgt := 29) hK.1.1 hK.1.2.1 dX5_isDue_22 (by decide) (fun c22_3 => ?_) (fun c22_3 => ?_)
    · refine lv_iconst (v := 0) hK.1.1 hK.1.2.1 dX5_isDue_29 (by decide) ?_
      exact gk_zret0 hK.1 hret (by first | decide | exact (rp_nz (by first | assumption | (simp; done))).1) hlk hP hS (Nat.le_of_ble_eq_true rfl) (Nat.le_of_ble_eq_true rfl) dX5_isDue_30 (Or.inl ⟨f_1, hf_1, rfl, by simp [rg_b, rg_b0.mp c22_3], hR⟩)
    · refine lv_iconst (v := 1) hK.1.1 hK.1.2.1 dX5_isDue_25 (by decide) ?_
      refine lv_goto (tgt := 30) hK.1.1 hK.1.2.1 dX5_isDue_26 (by decide) ?_
      exact gk_zret0 hK.1 hret (by first | decide | exact (rp_nz (by first | assumption | (simp; done))).1) hlk hP hS (Nat.le_of_ble_eq_true rfl) (Nat.le_of_ble_eq_true rfl) dX5_isDue_30 (Or.inl ⟨f_1, hf_1, rfl, by simp [rg_b, rg_bt c22_3], hR⟩)
  · refine W.eq (g2 := F0 m 5 ls [.int 0, .ref (ly_a y 5)]) rfl ?_
    refine lv_iconst (v := 1) hK.1.1 hK.1.2.1 dX5_isDue_5 (by decide) ?_
    refine lv_iconst (v := 1) hK.1.1 hK.1.2.1 dX5_isDue_6 (by decide) ?_
    refine gk_callV0 (n := 3) (As := [.int 0, .int 1, .int 1]) (rest := []) hK (c_X5_goes l hR (a9 := 0) (b9 := 1) (c9 := 1) (m9 := 1) (x9 := 0) (by decide) (by decide)) (gk_gV q_6_9 q_6_10 q_6_11 q_1_5 q_6_12) ⟨rfl, by decide +kernel, by decide +kernel, by decide +kernel⟩ ⟨(Nat.le_of_ble_eq_true rfl), (Nat.le_of_ble_eq_true rfl)⟩ hP hS (gk_recv hK.2.2.1.1 hP hR.2.2.2.2.2.2.2.2.1 rfl) rfl hl.1 rfl (Nat.le_of_ble_eq_true rfl) dX5_isDue_7 ⟨(Nat.le_of_ble_eq_true rfl), (Nat.le_of_ble_eq_true rfl)⟩ (fun v G1 H locs hw hP hS => ?_)
    obtain ⟨rfl, hR⟩ := hw
    refine W.eq (g2 := F0 m 10 ls [.int 0]) rfl ?_
    refine lv_if_eq (tgt := 29) hK.1.1 hK.1.2.1 dX5_isDue_10 (by decide) (fun _ => ?_) (fun c => absurd c (by decide))
    refine lv_iconst (v := 0) hK.1.1 hK.1.2.1 dX5_isDue_29 (by decide) ?_
    exact gk_zret0 hK.1 hret (by first | decide | exact (rp_nz (by first | assumption | (simp; done))).1) hlk hP hS (Nat.le_of_ble_eq_true rfl) (Nat.le_of_ble_eq_true rfl) dX5_isDue_30 (Or.inr ⟨ho_2, ⟨_, rfl⟩, hR⟩)
set_option maxHeartbeats 4000000 in
set_option maxRecDepth 100000 in
theorem c_X5_nextDue (l : Launch) {y : ly_T} {A : Nat → Prop} {G : gk_G} {td : Int32} {ru : Nat → Nat → Int32} {fr lv : Nat → Nat} {lt et tl : Nat → Int32} {hf hp : Nat → Option Nat} {ol : Nat → List Nat} {PS : Nat → Prop} {pf : Nat → Nat → Int32} {ov : Int64} {md mq mt : Int32} {mv : Nat → Nat → Int32} {i : Int32} {mr ml : Nat → Nat} {e9 : Nat}  (hR : rp y G td ru fr lv lt et tl hf hp ol PS pf ov md mq mt mv) (hr9 : ∀ f, f < 5 → mr f < 3 ∧ mv 9 f = nI (mr f)) (ha9 : ∀ f, f < 5 → ml f ≤ 10000 ∧ mv 11 f = nI (ml f)) (hd9 : md = nI e9) (he9 : e9 ≤ 5000) : gk_M0 l yX5_nextDue (Cond.code yX5_nextDue cX5_nextDue 3 (some .int)) 3 90 0 0 y A [.ref (ly_a y 5), .int i] G (fun v G1 => (∃ f, f < 5 ∧ i = nI f ∧ ((∃ a, a < 201 ∧ (∀ b, b < a → m_due mv f (mr f) (ml f) (e9 + b) = false) ∧ m_due mv f (mr f) (ml f) (e9 + a) = true ∧ v = some (.int (nI (e9 + a)))) ∨ ((∀ b, b < 201 → m_due mv f (mr f) (ml f) (e9 + b) = false) ∧ v = some (.int (-1)))) ∧ rp y G1 td ru fr lv lt et tl hf hp ol PS pf ov md mq 0 mv) ∨ (rg_out i 5 ∧ (∃ x, v = some (.int x)) ∧ rp y G1 td ru fr lv lt et tl hf hp ol PS pf ov md mq 1 mv)) := by
  refine gk_of0 (cc := cX5_nextDue) (maxL := 3) (ret := (some .int)) (own := RX5) (by decide +kernel) rfl rfl (Nat.le_of_ble_eq_true rfl) ?_
  intro p e s m below meth c ls hK hret hlk _ hP hS hl
  have hl : lv_has ls 3 [(0, .ref (ly_a y 5)), (1, .int i)] := hl
  subst hd9
  refine lv_aload_n hK.1.1 hK.1.2.1 dX5_nextDue_0 rfl (lv_at hl 0 rfl) ?_
  refine lv_iload_n hK.1.1 hK.1.2.1 dX5_nextDue_1 rfl (lv_at hl 1 rfl) ?_
  refine gk_callS0 (n := 1) (As := [.int i]) (rest := [.ref (ly_a y 5)]) hK (c_X5_isFile l hR (i := i)) (gk_gS q_8_3 q_8_4 q_1_5 q_8_5) ⟨by decide +kernel, by decide +kernel, by decide +kernel⟩ ⟨(Nat.le_of_ble_eq_true rfl), (Nat.le_of_ble_eq_true rfl)⟩ hP hS rfl hl.1 rfl (Nat.le_of_ble_eq_true rfl) dX5_nextDue_2 ⟨(Nat.le_of_ble_eq_true rfl), (Nat.le_of_ble_eq_true rfl)⟩ (fun v G1 H locs hw hP hS => ?_)
  obtain ⟨hw, hG9⟩ := hw
  rw [hG9] at hP
  rcases hw with ⟨f_1, hf_1, rfl, rfl⟩ | ⟨ho_2, rfl⟩
  · refine W.eq (g2 := F0 m 5 ls [.int 1, .ref (ly_a y 5)]) rfl ?_
    refine lv_iconst (v := 1) hK.1.1 hK.1.2.1 dX5_nextDue_5 (by decide) ?_
    refine lv_iconst (v := 1) hK.1.1 hK.1.2.1 dX5_nextDue_6 (by decide) ?_
    refine gk_callV0 (n := 3) (As := [.int 1, .int 1, .int 1]) (rest := []) hK (c_X5_goes l hR (a9 := 1) (b9 := 1) (c9 := 1) (m9 := 0) (x9 := 1) (by decide) (by decide)) (gk_gV q_6_9 q_6_10 q_6_11 q_1_5 q_6_12) ⟨rfl, by decide +kernel, by decide +kernel, by decide +kernel⟩ ⟨(Nat.le_of_ble_eq_true rfl), (Nat.le_of_ble_eq_true rfl)⟩ hP hS (gk_recv hK.2.2.1.1 hP hR.2.2.2.2.2.2.2.2.1 rfl) rfl hl.1 rfl (Nat.le_of_ble_eq_true rfl) dX5_nextDue_7 ⟨(Nat.le_of_ble_eq_true rfl), (Nat.le_of_ble_eq_true rfl)⟩ (fun v G1 H locs hw hP hS => ?_)
    obtain ⟨rfl, hR⟩ := hw
    refine W.eq (g2 := F0 m 10 ls [.int 1]) rfl ?_
    refine lv_if_ne (tgt := 15) hK.1.1 hK.1.2.1 dX5_nextDue_10 (by decide) (fun _ => ?_) (fun c => absurd c (by decide))
    refine lv_aload_n hK.1.1 hK.1.2.1 dX5_nextDue_15 rfl (lv_at hl 0 rfl) ?_
    refine mr_93 hK hP hR dX5_nextDue_16 ?_
    refine lv_istore_n (lv' := [(2, .int (nI e9)), (0, .ref (ly_a y 5)), (1, .int (nI f_1))]) hK.1.1 hK.1.2.1 dX5_nextDue_19 rfl hl (by decide) rfl (fun ls hl => ?_)
    have loop : ∀ (dd : Nat) (a : Nat) (ls : Array Slot) (H : Heap) (locs : List Loc), 201 - a = dd → (a ≤ 201) → (∀ b, b < a → m_due mv f_1 (mr f_1) (ml f_1) (e9 + b) = false) → gk_P (ly_D y) A G1 H → va_S A s.heap H locs → lv_has ls 3 [(2, .int (nI (e9 + a))), (0, .ref (ly_a y 5)), (1, .int (nI f_1))] → W p l e { frames := 3, cells := 0, slots := 0, locals := 90 } s m [.ref (ly_a y 5), .int (nI f_1)].toArray below meth c H locs ((0 + 0) + 0) ((0 + 0) + 0) (MQ below (gk_Q y A (fun v G1 => (∃ f, f < 5 ∧ (nI f_1) = nI f ∧ ((∃ a, a < 201 ∧ (∀ b, b < a → m_due mv f (mr f) (ml f) (e9 + b) = false) ∧ m_due mv f (mr f) (ml f) (e9 + a) = true ∧ v = some (.int (nI (e9 + a)))) ∨ ((∀ b, b < 201 → m_due mv f (mr f) (ml f) (e9 + b) = false) ∧ v = some (.int (-1)))) ∧ rp y G1 td ru fr lv lt et tl hf hp ol PS pf ov (nI e9) mq 0 mv) ∨ (rg_out (nI f_1) 5 ∧ (∃ x, v = some (.int x)) ∧ rp y G1 td ru fr lv lt et tl hf hp ol PS pf ov (nI e9) mq 1 mv))) [.ref (ly_a y 5), .int (nI f_1)].toArray s 0 0 A) (F0 m 20 ls []) := by
      intro dd
      induction dd using Nat.strongRecOn with
      | _ dd ih =>
      intro a ls H locs hdd ha hno hP hS hl
      refine lv_iload_n hK.1.1 hK.1.2.1 dX5_nextDue_20 rfl (lv_at hl 0 rfl) ?_
      refine lv_aload_n hK.1.1 hK.1.2.1 dX5_nextDue_21 rfl (lv_at hl 1 rfl) ?_
      refine mr_93 hK hP hR dX5_nextDue_22 ?_
      refine lv_sipush (v := 200) hK.1.1 hK.1.2.1 dX5_nextDue_25 (by decide) ?_
      refine lv_iadd hK.1.1 hK.1.2.1 dX5_nextDue_28 ?_
      rw [show nI e9 + 200 = nI (e9 + 200) from nI_add e9 200]
      refine lv_icmp_gt (tgt := 49) hK.1.1 hK.1.2.1 dX5_nextDue_29 (by decide) (fun c29_3 => ?_) (fun c29_3 => ?_)
      · have ha7 : a = 201 := by have := (nI_ltI (by omega) (by omega)).mp c29_3; omega
        refine lv_iconst (v := (-1)) hK.1.1 hK.1.2.1 dX5_nextDue_49 (by decide) ?_
        exact gk_iret0 hK.1 hret hlk hP hS (Nat.le_of_ble_eq_true rfl) (Nat.le_of_ble_eq_true rfl) dX5_nextDue_50 (Or.inl ⟨f_1, hf_1, rfl, Or.inr ⟨by rw [← ha7]; exact hno, rfl⟩, hR⟩)
      · have ha7 : a < 201 := by have := Nat.le_of_not_lt (fun h => c29_3 (nI_lt h (by omega))); omega
        refine lv_aload_n hK.1.1 hK.1.2.1 dX5_nextDue_32 rfl (lv_at hl 1 rfl) ?_
        refine lv_iload_n hK.1.1 hK.1.2.1 dX5_nextDue_33 rfl (lv_at hl 2 rfl) ?_
        refine lv_iload_n hK.1.1 hK.1.2.1 dX5_nextDue_34 rfl (lv_at hl 0 rfl) ?_
        refine gk_callV0 (n := 2) (As := [.int (nI f_1), .int (nI (e9 + a))]) (rest := []) hK (c_X5_isDueOn l hR (f := f_1) (r := (mr f_1)) (a := (ml f_1)) (e9 := (e9 + a)) hf_1 (hr9 f_1 hf_1).1 (hr9 f_1 hf_1).2 (ha9 f_1 hf_1).2 (ha9 f_1 hf_1).1 (by omega)) (gk_gV q_17_7 q_17_8 q_17_9 q_1_5 q_17_10) ⟨rfl, by decide +kernel, by decide +kernel, by decide +kernel⟩ ⟨(Nat.le_of_ble_eq_true rfl), (Nat.le_of_ble_eq_true rfl)⟩ hP hS (gk_recv hK.2.2.1.1 hP hR.2.2.2.2.2.2.2.2.1 rfl) rfl hl.1 rfl (Nat.le_of_ble_eq_true rfl) dX5_nextDue_35 ⟨(Nat.le_of_ble_eq_true rfl), (Nat.le_of_ble_eq_true rfl)⟩ (fun v G1 H locs hw hP hS => ?_)
        obtain ⟨rfl, hG9⟩ := hw
        rw [hG9] at hP
        refine W.eq (g2 := F0 m 38 ls [.int (rg_b (m_due mv f_1 (mr f_1) (ml f_1) (e9 + a)))]) rfl ?_
        refine lv_if_eq (tgt := 43) hK.1.1 hK.1.2.1 dX5_nextDue_38 (by decide) (fun c38_4 => ?_) (fun c38_4 => ?_)
        · have hna := rg_b0.mp c38_4
          refine lv_iinc (v := nI ((e9 + a) + 1)) (lv' := [(2, .int (nI ((e9 + a) + 1))), (0, .ref (ly_a y 5)), (1, .int (nI f_1))]) hK.1.1 hK.1.2.1 dX5_nextDue_43 hl (k := 0) rfl (nI_1 (e9 + a)) (by decide) rfl (fun ls hl => ?_)
          refine lv_goto (tgt := 20) hK.1.1 hK.1.2.1 dX5_nextDue_46 (by decide) ?_
          exact ih (201 - (a + 1)) (by omega)  (a + 1) ls _ _ rfl (by omega) (fun b hb => by by_cases hba : b = a; (rw [hba]; exact hna); (exact hno b (by omega))) hP hS (lv_sub hl [0, 1, 2] rfl)
        · refine lv_iload_n hK.1.1 hK.1.2.1 dX5_nextDue_41 rfl (lv_at hl 0 rfl) ?_
          exact gk_iret0 hK.1 hret hlk hP hS (Nat.le_of_ble_eq_true rfl) (Nat.le_of_ble_eq_true rfl) dX5_nextDue_42 (Or.inl ⟨f_1, hf_1, rfl, Or.inl ⟨a, ha7, hno, rg_bt c38_4, rfl⟩, hR⟩)
    exact loop _ 0 ls _ _ rfl (by omega) (fun b hb => absurd hb (Nat.not_lt_zero b)) hP hS (lv_sub hl [0, 1, 2] rfl)
  · refine W.eq (g2 := F0 m 5 ls [.int 0, .ref (ly_a y 5)]) rfl ?_
    refine lv_iconst (v := 1) hK.1.1 hK.1.2.1 dX5_nextDue_5 (by decide) ?_
    refine lv_iconst (v := 1) hK.1.1 hK.1.2.1 dX5_nextDue_6 (by decide) ?_
    refine gk_callV0 (n := 3) (As := [.int 0, .int 1, .int 1]) (rest := []) hK (c_X5_goes l hR (a9 := 0) (b9 := 1) (c9 := 1) (m9 := 1) (x9 := 0) (by decide) (by decide)) (gk_gV q_6_9 q_6_10 q_6_11 q_1_5 q_6_12) ⟨rfl, by decide +kernel, by decide +kernel, by decide +kernel⟩ ⟨(Nat.le_of_ble_eq_true rfl), (Nat.le_of_ble_eq_true rfl)⟩ hP hS (gk_recv hK.2.2.1.1 hP hR.2.2.2.2.2.2.2.2.1 rfl) rfl hl.1 rfl (Nat.le_of_ble_eq_true rfl) dX5_nextDue_7 ⟨(Nat.le_of_ble_eq_true rfl), (Nat.le_of_ble_eq_true rfl)⟩ (fun v G1 H locs hw hP hS => ?_)
    obtain ⟨rfl, hR⟩ := hw
    refine W.eq (g2 := F0 m 10 ls [.int 0]) rfl ?_
    refine lv_if_ne (tgt := 15) hK.1.1 hK.1.2.1 dX5_nextDue_10 (by decide) (fun c => absurd c (by decide)) (fun _ => ?_)
    refine lv_iconst (v := 0) hK.1.1 hK.1.2.1 dX5_nextDue_13 (by decide) ?_
    exact gk_iret0 hK.1 hret hlk hP hS (Nat.le_of_ble_eq_true rfl) (Nat.le_of_ble_eq_true rfl) dX5_nextDue_14 (Or.inr ⟨ho_2, ⟨_, rfl⟩, hR⟩)
set_option maxHeartbeats 4000000 in
set_option maxRecDepth 100000 in
theorem c_X5_olds (l : Launch) {y : ly_T} {A : Nat → Prop} {G : gk_G} {td : Int32} {ru : Nat → Nat → Int32} {fr lv : Nat → Nat} {lt et tl : Nat → Int32} {hf hp : Nat → Option Nat} {ol : Nat → List Nat} {PS : Nat → Prop} {pf : Nat → Nat → Int32} {ov : Int64} {md mq mt : Int32} {mv : Nat → Nat → Int32} {i : Int32} {n9 : Nat}  (hR : rp y G td ru fr lv lt et tl hf hp ol PS pf ov md mq mt mv) (hq : mq = nI n9) (hn : n9 ≤ 4096) : gk_M0 l yX5_olds (Cond.code yX5_olds cX5_olds 2 (some .int)) 3 90 0 0 y A [.ref (ly_a y 5), .int i] G (fun v G1 => (∃ f, f < 5 ∧ i = nI f ∧ v = some (.int (nI (m_cnt mv (nI f) n9))) ∧ rp y G1 td ru fr lv lt et tl hf hp ol PS pf ov md mq 0 mv) ∨ (rg_out i 5 ∧ (∃ x, v = some (.int x)) ∧ rp y G1 td ru fr lv lt et tl hf hp ol PS pf ov md mq 1 mv)) := by
  refine gk_of0 (cc := cX5_olds) (maxL := 2) (ret := (some .int)) (own := RX5) (by decide +kernel) rfl rfl (Nat.le_of_ble_eq_true rfl) ?_
  intro p e s m below meth c ls hK hret hlk _ hP hS hl
  have hl : lv_has ls 2 [(0, .ref (ly_a y 5)), (1, .int i)] := hl
  refine lv_aload_n hK.1.1 hK.1.2.1 dX5_olds_0 rfl (lv_at hl 0 rfl) ?_
  refine lv_iload_n hK.1.1 hK.1.2.1 dX5_olds_1 rfl (lv_at hl 1 rfl) ?_
  refine gk_callS0 (n := 1) (As := [.int i]) (rest := [.ref (ly_a y 5)]) hK (c_X5_isFile l hR (i := i)) (gk_gS q_8_3 q_8_4 q_1_5 q_8_5) ⟨by decide +kernel, by decide +kernel, by decide +kernel⟩ ⟨(Nat.le_of_ble_eq_true rfl), (Nat.le_of_ble_eq_true rfl)⟩ hP hS rfl hl.1 rfl (Nat.le_of_ble_eq_true rfl) dX5_olds_2 ⟨(Nat.le_of_ble_eq_true rfl), (Nat.le_of_ble_eq_true rfl)⟩ (fun v G1 H locs hw hP hS => ?_)
  obtain ⟨hw, hG9⟩ := hw
  rw [hG9] at hP
  rcases hw with ⟨f_1, hf_1, rfl, rfl⟩ | ⟨ho_2, rfl⟩
  · refine W.eq (g2 := F0 m 5 ls [.int 1, .ref (ly_a y 5)]) rfl ?_
    refine lv_iconst (v := 1) hK.1.1 hK.1.2.1 dX5_olds_5 (by decide) ?_
    refine lv_iconst (v := 1) hK.1.1 hK.1.2.1 dX5_olds_6 (by decide) ?_
    refine gk_callV0 (n := 3) (As := [.int 1, .int 1, .int 1]) (rest := []) hK (c_X5_goes l hR (a9 := 1) (b9 := 1) (c9 := 1) (m9 := 0) (x9 := 1) (by decide) (by decide)) (gk_gV q_6_9 q_6_10 q_6_11 q_1_5 q_6_12) ⟨rfl, by decide +kernel, by decide +kernel, by decide +kernel⟩ ⟨(Nat.le_of_ble_eq_true rfl), (Nat.le_of_ble_eq_true rfl)⟩ hP hS (gk_recv hK.2.2.1.1 hP hR.2.2.2.2.2.2.2.2.1 rfl) rfl hl.1 rfl (Nat.le_of_ble_eq_true rfl) dX5_olds_7 ⟨(Nat.le_of_ble_eq_true rfl), (Nat.le_of_ble_eq_true rfl)⟩ (fun v G1 H locs hw hP hS => ?_)
    obtain ⟨rfl, hR⟩ := hw
    refine W.eq (g2 := F0 m 10 ls [.int 1]) rfl ?_
    refine lv_if_eq (tgt := 21) hK.1.1 hK.1.2.1 dX5_olds_10 (by decide) (fun c => absurd c (by decide)) (fun _ => ?_)
    refine lv_aload_n hK.1.1 hK.1.2.1 dX5_olds_13 rfl (lv_at hl 0 rfl) ?_
    refine lv_iload_n hK.1.1 hK.1.2.1 dX5_olds_14 rfl (lv_at hl 1 rfl) ?_
    refine gk_callV0 (n := 1) (As := [.int (nI f_1)]) (rest := []) hK (c_X5_oldsOf l hR (x9 := (nI f_1)) hq hn) (gk_gV q_17_23 q_18_0 q_18_1 q_1_5 q_18_2) ⟨rfl, by decide +kernel, by decide +kernel, by decide +kernel⟩ ⟨(Nat.le_of_ble_eq_true rfl), (Nat.le_of_ble_eq_true rfl)⟩ hP hS (gk_recv hK.2.2.1.1 hP hR.2.2.2.2.2.2.2.2.1 rfl) rfl hl.1 rfl (Nat.le_of_ble_eq_true rfl) dX5_olds_15 ⟨(Nat.le_of_ble_eq_true rfl), (Nat.le_of_ble_eq_true rfl)⟩ (fun v G1 H locs hw hP hS => ?_)
    obtain ⟨rfl, hG9⟩ := hw
    rw [hG9] at hP
    refine W.eq (g2 := F0 m 18 ls [.int (nI (m_cnt mv (nI f_1) n9))]) rfl ?_
    refine lv_goto (tgt := 22) hK.1.1 hK.1.2.1 dX5_olds_18 (by decide) ?_
    exact gk_iret0 hK.1 hret hlk hP hS (Nat.le_of_ble_eq_true rfl) (Nat.le_of_ble_eq_true rfl) dX5_olds_22 (Or.inl ⟨f_1, hf_1, rfl, rfl, hR⟩)
  · refine W.eq (g2 := F0 m 5 ls [.int 0, .ref (ly_a y 5)]) rfl ?_
    refine lv_iconst (v := 1) hK.1.1 hK.1.2.1 dX5_olds_5 (by decide) ?_
    refine lv_iconst (v := 1) hK.1.1 hK.1.2.1 dX5_olds_6 (by decide) ?_
    refine gk_callV0 (n := 3) (As := [.int 0, .int 1, .int 1]) (rest := []) hK (c_X5_goes l hR (a9 := 0) (b9 := 1) (c9 := 1) (m9 := 1) (x9 := 0) (by decide) (by decide)) (gk_gV q_6_9 q_6_10 q_6_11 q_1_5 q_6_12) ⟨rfl, by decide +kernel, by decide +kernel, by decide +kernel⟩ ⟨(Nat.le_of_ble_eq_true rfl), (Nat.le_of_ble_eq_true rfl)⟩ hP hS (gk_recv hK.2.2.1.1 hP hR.2.2.2.2.2.2.2.2.1 rfl) rfl hl.1 rfl (Nat.le_of_ble_eq_true rfl) dX5_olds_7 ⟨(Nat.le_of_ble_eq_true rfl), (Nat.le_of_ble_eq_true rfl)⟩ (fun v G1 H locs hw hP hS => ?_)
    obtain ⟨rfl, hR⟩ := hw
    refine W.eq (g2 := F0 m 10 ls [.int 0]) rfl ?_
    refine lv_if_eq (tgt := 21) hK.1.1 hK.1.2.1 dX5_olds_10 (by decide) (fun _ => ?_) (fun c => absurd c (by decide))
    refine lv_iconst (v := 0) hK.1.1 hK.1.2.1 dX5_olds_21 (by decide) ?_
    exact gk_iret0 hK.1 hret hlk hP hS (Nat.le_of_ble_eq_true rfl) (Nat.le_of_ble_eq_true rfl) dX5_olds_22 (Or.inr ⟨ho_2, ⟨_, rfl⟩, hR⟩)
theorem m_plc_n {mv : Nat → Nat → Int32} {i j x : Int32} {k : Nat} (h : m_plc mv i j k x) (hn : ¬ mv 14 k = i) : m_plc mv i j (k + 1) x := by
  rcases h with ⟨p, a, b, c, d⟩ | ⟨a, b⟩
  · exact Or.inl ⟨p, by omega, b, c, d⟩
  · refine Or.inr ⟨fun p hp h14 => ?_, b⟩
    by_cases hpk : p = k
    · exact absurd (hpk ▸ h14) hn
    · exact a p (by omega) h14
theorem m_plc_o {mv : Nat → Nat → Int32} {i j x : Int32} {k : Nat} (h : m_plc mv i j k x) (hn : ¬ j = nI (m_cnt mv i k)) : m_plc mv i j (k + 1) x := by
  rcases h with ⟨p, a, b, c, d⟩ | ⟨a, b⟩
  · exact Or.inl ⟨p, by omega, b, c, d⟩
  · refine Or.inr ⟨fun p hp h14 => ?_, b⟩
    by_cases hpk : p = k
    · exact hpk ▸ hn
    · exact a p (by omega) h14
set_option maxHeartbeats 4000000 in
set_option maxRecDepth 100000 in
theorem c_X5_placeOf (l : Launch) {y : ly_T} {A : Nat → Prop} {G : gk_G} {td : Int32} {ru : Nat → Nat → Int32} {fr lv : Nat → Nat} {lt et tl : Nat → Int32} {hf hp : Nat → Option Nat} {ol : Nat → List Nat} {PS : Nat → Prop} {pf : Nat → Nat → Int32} {ov : Int64} {md mq mt : Int32} {mv : Nat → Nat → Int32} {i j : Int32} {n9 : Nat}  (hR : rp y G td ru fr lv lt et tl hf hp ol PS pf ov md mq mt mv) (hq : mq = nI n9) (hn : n9 ≤ 4096) : gk_M0 l yX5_placeOf (Cond.code yX5_placeOf cX5_placeOf 6 (some .int)) 0 0 0 0 y A [.ref (ly_a y 5), .int i, .int j] G (fun v G1 => (∃ x, m_plc mv i j n9 x ∧ v = some (.int x)) ∧ G1 = G) := by
  refine gk_of0 (cc := cX5_placeOf) (maxL := 6) (ret := (some .int)) (own := RX5) (by decide +kernel) rfl rfl (Nat.le_of_ble_eq_true rfl) ?_
  intro p e s m below meth c ls hK hret hlk _ hP hS hl
  have hl : lv_has ls 6 [(0, .ref (ly_a y 5)), (1, .int i), (2, .int j)] := hl
  refine lv_iconst (v := (-1)) hK.1.1 hK.1.2.1 dX5_placeOf_0 (by decide) ?_
  refine lv_istore_n (lv' := [(3, .int (-1)), (0, .ref (ly_a y 5)), (1, .int i), (2, .int j)]) hK.1.1 hK.1.2.1 dX5_placeOf_1 rfl hl (by decide) rfl (fun ls hl => ?_)
  refine lv_iload_n hK.1.1 hK.1.2.1 dX5_placeOf_2 rfl (lv_at hl 3 rfl) ?_
  refine lv_istore (lv' := [(4, .int j), (3, .int (-1)), (0, .ref (ly_a y 5)), (1, .int i), (2, .int j)]) hK.1.1 hK.1.2.1 dX5_placeOf_3 hl (by decide) rfl (fun ls hl => ?_)
  refine lv_iconst (v := 0) hK.1.1 hK.1.2.1 dX5_placeOf_5 (by decide) ?_
  refine lv_istore (lv' := [(5, .int 0), (4, .int j), (3, .int (-1)), (0, .ref (ly_a y 5)), (1, .int i), (2, .int j)]) hK.1.1 hK.1.2.1 dX5_placeOf_6 hl (by decide) rfl (fun ls hl => ?_)
  have loop : ∀ (dd : Nat) (k : Nat) (x9 : Int32) (ls : Array Slot) (H : Heap) (locs : List Loc), n9 - k = dd → (k ≤ n9) → (m_plc mv i j k x9) → gk_P (ly_D y) A G H → va_S A s.heap H locs → lv_has ls 6 [(5, .int (nI k)), (4, .int (j - nI (m_cnt mv i k))), (3, .int x9), (0, .ref (ly_a y 5)), (1, .int i), (2, .int j)] → W p l e { frames := 0, cells := 0, slots := 0, locals := 0 } s m [.ref (ly_a y 5), .int i, .int j].toArray below meth c H locs 0 0 (MQ below (gk_Q y A (fun v G1 => (∃ x, m_plc mv i j n9 x ∧ v = some (.int x)) ∧ G1 = G)) [.ref (ly_a y 5), .int i, .int j].toArray s 0 0 A) (F0 m 8 ls []) := by
    intro dd
    induction dd using Nat.strongRecOn with
    | _ dd ih =>
    intro k x9 ls H locs hdd hk hx9 hP hS hl
    refine lv_iload hK.1.1 hK.1.2.1 dX5_placeOf_8 (lv_at hl 0 rfl) ?_
    refine lv_aload_n hK.1.1 hK.1.2.1 dX5_placeOf_10 rfl (lv_at hl 3 rfl) ?_
    refine mr_100 hK hP hR dX5_placeOf_11 ?_
    rw [hq]
    refine lv_icmp_ge (tgt := 49) hK.1.1 hK.1.2.1 dX5_placeOf_14 (by decide) (fun c14_1 => ?_) (fun c14_1 => ?_)
    · have hkn : k = n9 := Nat.le_antisymm hk ((nI_leI (by omega) (by omega)).mp c14_1)
      subst hkn
      refine lv_iload_n hK.1.1 hK.1.2.1 dX5_placeOf_49 rfl (lv_at hl 2 rfl) ?_
      exact gk_iret0 hK.1 hret hlk hP hS (Nat.le_of_ble_eq_true rfl) (Nat.le_of_ble_eq_true rfl) dX5_placeOf_50 (⟨⟨_, hx9, rfl⟩, rfl⟩)
    · have hkn : k < n9 := Nat.lt_of_not_le (fun h => c14_1 (nI_le h (by omega)))
      refine lv_aload_n hK.1.1 hK.1.2.1 dX5_placeOf_17 rfl (lv_at hl 3 rfl) ?_
      refine mr_53 hK hP hR dX5_placeOf_18 ?_
      refine lv_iload hK.1.1 hK.1.2.1 dX5_placeOf_21 (lv_at hl 0 rfl) ?_
      refine mr_ild hK hP hR 14 (by decide) rfl (j := k) (show k < 4096 by omega) dX5_placeOf_23 ?_
      refine lv_iload_n hK.1.1 hK.1.2.1 dX5_placeOf_24 rfl (lv_at hl 4 rfl) ?_
      refine lv_icmp_ne (tgt := 43) hK.1.1 hK.1.2.1 dX5_placeOf_25 (by decide) (fun c25_2 => ?_) (fun c25_2 => ?_)
      · have h14 := c25_2
        have hl : lv_has ls 6 [(5, .int (nI k)), (4, .int (j - nI (m_cnt mv i (k + 1)))), (3, .int x9), (0, .ref (ly_a y 5)), (1, .int i), (2, .int j)] := by rw [m_cnt_n c25_2]; exact hl
        refine lv_iinc (v := nI (k + 1)) (lv' := [(5, .int (nI (k + 1))), (4, .int (j - nI (m_cnt mv i (k + 1)))), (3, .int x9), (0, .ref (ly_a y 5)), (1, .int i), (2, .int j)]) hK.1.1 hK.1.2.1 dX5_placeOf_43 hl (k := 0) rfl (nI_1 k) (by decide) rfl (fun ls hl => ?_)
        refine lv_goto (tgt := 8) hK.1.1 hK.1.2.1 dX5_placeOf_46 (by decide) ?_
        exact ih (n9 - (k + 1)) (by omega)  (k + 1) x9 ls _ _ rfl (by omega) (m_plc_n hx9 h14) hP hS (lv_sub hl [0, 1, 2, 3, 4, 5] rfl)
      · have h14 := c25_2
        refine lv_iload hK.1.1 hK.1.2.1 dX5_placeOf_28 (lv_at hl 1 rfl) ?_
        refine lv_if_ne (tgt := 38) hK.1.1 hK.1.2.1 dX5_placeOf_30 (by decide) (fun c30_3 => ?_) (fun c30_3 => ?_)
        · refine lv_iload_n hK.1.1 hK.1.2.1 dX5_placeOf_38 rfl (lv_at hl 2 rfl) ?_
          refine lv_istore_n (lv' := [(3, .int x9), (5, .int (nI k)), (4, .int (j - nI (m_cnt mv i k))), (0, .ref (ly_a y 5)), (1, .int i), (2, .int j)]) hK.1.1 hK.1.2.1 dX5_placeOf_39 rfl hl (by decide) rfl (fun ls hl => ?_)
          refine lv_iinc (v := (j - nI (m_cnt mv i k)) + (-1)) (lv' := [(4, .int ((j - nI (m_cnt mv i k)) + (-1))), (3, .int x9), (5, .int (nI k)), (0, .ref (ly_a y 5)), (1, .int i), (2, .int j)]) hK.1.1 hK.1.2.1 dX5_placeOf_40 hl (k := 2) rfl rfl (by decide) rfl (fun ls hl => ?_)
          have hl : lv_has ls 6 [(4, .int (j - nI (m_cnt mv i (k + 1)))), (3, .int x9), (5, .int (nI k)), (0, .ref (ly_a y 5)), (1, .int i), (2, .int j)] := by rw [m_cnt_y c25_2, ← m_subs]; exact hl
          refine lv_iinc (v := nI (k + 1)) (lv' := [(5, .int (nI (k + 1))), (4, .int (j - nI (m_cnt mv i (k + 1)))), (3, .int x9), (0, .ref (ly_a y 5)), (1, .int i), (2, .int j)]) hK.1.1 hK.1.2.1 dX5_placeOf_43 hl (k := 2) rfl (nI_1 k) (by decide) rfl (fun ls hl => ?_)
          refine lv_goto (tgt := 8) hK.1.1 hK.1.2.1 dX5_placeOf_46 (by decide) ?_
          exact ih (n9 - (k + 1)) (by omega)  (k + 1) x9 ls _ _ rfl (by omega) (m_plc_o hx9 (fun h => c30_3 (m_sub0.mpr h))) hP hS (lv_sub hl [0, 1, 2, 3, 4, 5] rfl)
        · refine lv_iload hK.1.1 hK.1.2.1 dX5_placeOf_33 (lv_at hl 0 rfl) ?_
          refine lv_goto (tgt := 39) hK.1.1 hK.1.2.1 dX5_placeOf_35 (by decide) ?_
          refine lv_istore_n (lv' := [(3, .int (nI k)), (5, .int (nI k)), (4, .int (j - nI (m_cnt mv i k))), (0, .ref (ly_a y 5)), (1, .int i), (2, .int j)]) hK.1.1 hK.1.2.1 dX5_placeOf_39 rfl hl (by decide) rfl (fun ls hl => ?_)
          refine lv_iinc (v := (j - nI (m_cnt mv i k)) + (-1)) (lv' := [(4, .int ((j - nI (m_cnt mv i k)) + (-1))), (3, .int (nI k)), (5, .int (nI k)), (0, .ref (ly_a y 5)), (1, .int i), (2, .int j)]) hK.1.1 hK.1.2.1 dX5_placeOf_40 hl (k := 2) rfl rfl (by decide) rfl (fun ls hl => ?_)
          have hl : lv_has ls 6 [(4, .int (j - nI (m_cnt mv i (k + 1)))), (3, .int (nI k)), (5, .int (nI k)), (0, .ref (ly_a y 5)), (1, .int i), (2, .int j)] := by rw [m_cnt_y c25_2, ← m_subs]; exact hl
          refine lv_iinc (v := nI (k + 1)) (lv' := [(5, .int (nI (k + 1))), (4, .int (j - nI (m_cnt mv i (k + 1)))), (3, .int (nI k)), (0, .ref (ly_a y 5)), (1, .int i), (2, .int j)]) hK.1.1 hK.1.2.1 dX5_placeOf_43 hl (k := 2) rfl (nI_1 k) (by decide) rfl (fun ls hl => ?_)
          refine lv_goto (tgt := 8) hK.1.1 hK.1.2.1 dX5_placeOf_46 (by decide) ?_
          exact ih (n9 - (k + 1)) (by omega)  (k + 1) (nI k) ls _ _ rfl (by omega) (Or.inl ⟨k, by omega, h14, m_sub0.mp c30_3, rfl⟩) hP hS (lv_sub hl [0, 1, 2, 3, 4, 5] rfl)
  exact loop _ 0 (-1) ls _ _ rfl (by omega) (Or.inr ⟨fun p hp => absurd hp (Nat.not_lt_zero p), rfl⟩) hP hS (by rw [show j - nI (m_cnt mv i 0) = j from (by show j - nI 0 = j; rw [nI_0, Int32.sub_zero])]; exact lv_sub hl [0, 1, 2, 3, 4, 5] rfl)
theorem m_nIn {p : Nat} (h : p < 2 ^ 31) : ¬ nI p = -1 := fun q => nI_pos h (by rw [q]; decide)
set_option maxHeartbeats 4000000 in
set_option maxRecDepth 100000 in
theorem c_X5_lines (l : Launch) {y : ly_T} {A : Nat → Prop} {G : gk_G} {td : Int32} {ru : Nat → Nat → Int32} {fr lv : Nat → Nat} {lt et tl : Nat → Int32} {hf hp : Nat → Option Nat} {ol : Nat → List Nat} {PS : Nat → Prop} {pf : Nat → Nat → Int32} {ov : Int64} {md mq mt : Int32} {mv : Nat → Nat → Int32} {i j : Int32} {n9 : Nat}  (hR : rp y G td ru fr lv lt et tl hf hp ol PS pf ov md mq mt mv) (hq : mq = nI n9) (hn : n9 ≤ 4096) : gk_M0 l yX5_lines (Cond.code yX5_lines cX5_lines 4 (some .int)) 3 90 0 0 y A [.ref (ly_a y 5), .int i, .int j] G (fun v G1 => (∃ p, p < n9 ∧ mv 14 p = i ∧ j = nI (m_cnt mv i p) ∧ v = some (.int (mv 15 p)) ∧ rp y G1 td ru fr lv lt et tl hf hp ol PS pf ov md mq 0 mv) ∨ ((∀ p, p < n9 → mv 14 p = i → ¬ j = nI (m_cnt mv i p)) ∧ (∃ x, v = some (.int x)) ∧ rp y G1 td ru fr lv lt et tl hf hp ol PS pf ov md mq 1 mv)) := by
  refine gk_of0 (cc := cX5_lines) (maxL := 4) (ret := (some .int)) (own := RX5) (by decide +kernel) rfl rfl (Nat.le_of_ble_eq_true rfl) ?_
  intro p e s m below meth c ls hK hret hlk _ hP hS hl
  have hl : lv_has ls 4 [(0, .ref (ly_a y 5)), (1, .int i), (2, .int j)] := hl
  refine lv_aload_n hK.1.1 hK.1.2.1 dX5_lines_0 rfl (lv_at hl 0 rfl) ?_
  refine lv_iload_n hK.1.1 hK.1.2.1 dX5_lines_1 rfl (lv_at hl 1 rfl) ?_
  refine lv_iload_n hK.1.1 hK.1.2.1 dX5_lines_2 rfl (lv_at hl 2 rfl) ?_
  refine gk_callV0 (n := 2) (As := [.int i, .int j]) (rest := []) hK (c_X5_placeOf l hR (i := i) (j := j) hq hn) (gk_gV q_21_23 q_22_0 q_22_1 q_1_5 q_22_2) ⟨rfl, by decide +kernel, by decide +kernel, by decide +kernel⟩ ⟨(Nat.le_of_ble_eq_true rfl), (Nat.le_of_ble_eq_true rfl)⟩ hP hS (gk_recv hK.2.2.1.1 hP hR.2.2.2.2.2.2.2.2.1 rfl) rfl hl.1 rfl (Nat.le_of_ble_eq_true rfl) dX5_lines_3 ⟨(Nat.le_of_ble_eq_true rfl), (Nat.le_of_ble_eq_true rfl)⟩ (fun v G1 H locs hw hP hS => ?_)
  obtain ⟨⟨x, hpl, rfl⟩, hG9⟩ := hw
  rw [hG9] at hP
  rcases hpl with ⟨p, hpn, hp14, hpj, rfl⟩ | ⟨hpn, rfl⟩
  · refine W.eq (g2 := F0 m 6 ls [.int (nI p)]) rfl ?_
    refine lv_istore_n (lv' := [(3, .int (nI p)), (0, .ref (ly_a y 5)), (1, .int i), (2, .int j)]) hK.1.1 hK.1.2.1 dX5_lines_6 rfl hl (by decide) rfl (fun ls hl => ?_)
    refine lv_aload_n hK.1.1 hK.1.2.1 dX5_lines_7 rfl (lv_at hl 1 rfl) ?_
    refine lv_iload_n hK.1.1 hK.1.2.1 dX5_lines_8 rfl (lv_at hl 0 rfl) ?_
    refine lv_iconst (v := (-1)) hK.1.1 hK.1.2.1 dX5_lines_9 (by decide) ?_
    refine lv_icmp_eq (tgt := 17) hK.1.1 hK.1.2.1 dX5_lines_10 (by decide) (fun c => absurd c (m_nIn (by omega))) (fun _ => ?_)
    refine lv_iconst (v := 1) hK.1.1 hK.1.2.1 dX5_lines_13 (by decide) ?_
    refine lv_goto (tgt := 18) hK.1.1 hK.1.2.1 dX5_lines_14 (by decide) ?_
    refine lv_iconst (v := 1) hK.1.1 hK.1.2.1 dX5_lines_18 (by decide) ?_
    refine lv_iconst (v := 1) hK.1.1 hK.1.2.1 dX5_lines_19 (by decide) ?_
    refine gk_callV0 (n := 3) (As := [.int 1, .int 1, .int 1]) (rest := []) hK (c_X5_goes l hR (a9 := 1) (b9 := 1) (c9 := 1) (m9 := 0) (x9 := 1) (by decide) (by decide)) (gk_gV q_6_9 q_6_10 q_6_11 q_1_5 q_6_12) ⟨rfl, by decide +kernel, by decide +kernel, by decide +kernel⟩ ⟨(Nat.le_of_ble_eq_true rfl), (Nat.le_of_ble_eq_true rfl)⟩ hP hS (gk_recv hK.2.2.1.1 hP hR.2.2.2.2.2.2.2.2.1 rfl) rfl hl.1 rfl (Nat.le_of_ble_eq_true rfl) dX5_lines_20 ⟨(Nat.le_of_ble_eq_true rfl), (Nat.le_of_ble_eq_true rfl)⟩ (fun v G1 H locs hw hP hS => ?_)
    obtain ⟨rfl, hR⟩ := hw
    refine W.eq (g2 := F0 m 23 ls [.int 1]) rfl ?_
    refine lv_if_eq (tgt := 35) hK.1.1 hK.1.2.1 dX5_lines_23 (by decide) (fun c => absurd c (by decide)) (fun _ => ?_)
    refine lv_aload_n hK.1.1 hK.1.2.1 dX5_lines_26 rfl (lv_at hl 1 rfl) ?_
    refine mr_56 hK hP hR dX5_lines_27 ?_
    refine lv_iload_n hK.1.1 hK.1.2.1 dX5_lines_30 rfl (lv_at hl 0 rfl) ?_
    refine mr_ild hK hP hR 15 (by decide) rfl (j := p) (show p < 4096 by omega) dX5_lines_31 ?_
    refine lv_goto (tgt := 36) hK.1.1 hK.1.2.1 dX5_lines_32 (by decide) ?_
    exact gk_iret0 hK.1 hret hlk hP hS (Nat.le_of_ble_eq_true rfl) (Nat.le_of_ble_eq_true rfl) dX5_lines_36 (Or.inl ⟨p, hpn, hp14, hpj, rfl, hR⟩)
  · refine W.eq (g2 := F0 m 6 ls [.int (-1)]) rfl ?_
    refine lv_istore_n (lv' := [(3, .int (-1)), (0, .ref (ly_a y 5)), (1, .int i), (2, .int j)]) hK.1.1 hK.1.2.1 dX5_lines_6 rfl hl (by decide) rfl (fun ls hl => ?_)
    refine lv_aload_n hK.1.1 hK.1.2.1 dX5_lines_7 rfl (lv_at hl 1 rfl) ?_
    refine lv_iload_n hK.1.1 hK.1.2.1 dX5_lines_8 rfl (lv_at hl 0 rfl) ?_
    refine lv_iconst (v := (-1)) hK.1.1 hK.1.2.1 dX5_lines_9 (by decide) ?_
    refine lv_icmp_eq (tgt := 17) hK.1.1 hK.1.2.1 dX5_lines_10 (by decide) (fun _ => ?_) (fun c => absurd (by decide) c)
    refine lv_iconst (v := 0) hK.1.1 hK.1.2.1 dX5_lines_17 (by decide) ?_
    refine lv_iconst (v := 1) hK.1.1 hK.1.2.1 dX5_lines_18 (by decide) ?_
    refine lv_iconst (v := 1) hK.1.1 hK.1.2.1 dX5_lines_19 (by decide) ?_
    refine gk_callV0 (n := 3) (As := [.int 0, .int 1, .int 1]) (rest := []) hK (c_X5_goes l hR (a9 := 0) (b9 := 1) (c9 := 1) (m9 := 1) (x9 := 0) (by decide) (by decide)) (gk_gV q_6_9 q_6_10 q_6_11 q_1_5 q_6_12) ⟨rfl, by decide +kernel, by decide +kernel, by decide +kernel⟩ ⟨(Nat.le_of_ble_eq_true rfl), (Nat.le_of_ble_eq_true rfl)⟩ hP hS (gk_recv hK.2.2.1.1 hP hR.2.2.2.2.2.2.2.2.1 rfl) rfl hl.1 rfl (Nat.le_of_ble_eq_true rfl) dX5_lines_20 ⟨(Nat.le_of_ble_eq_true rfl), (Nat.le_of_ble_eq_true rfl)⟩ (fun v G1 H locs hw hP hS => ?_)
    obtain ⟨rfl, hR⟩ := hw
    refine W.eq (g2 := F0 m 23 ls [.int 0]) rfl ?_
    refine lv_if_eq (tgt := 35) hK.1.1 hK.1.2.1 dX5_lines_23 (by decide) (fun _ => ?_) (fun c => absurd c (by decide))
    refine lv_iconst (v := 0) hK.1.1 hK.1.2.1 dX5_lines_35 (by decide) ?_
    exact gk_iret0 hK.1 hret hlk hP hS (Nat.le_of_ble_eq_true rfl) (Nat.le_of_ble_eq_true rfl) dX5_lines_36 (Or.inr ⟨hpn, ⟨_, rfl⟩, hR⟩)
set_option maxHeartbeats 4000000 in
set_option maxRecDepth 100000 in
theorem c_X5_isSqueezed (l : Launch) {y : ly_T} {A : Nat → Prop} {G : gk_G} {td : Int32} {ru : Nat → Nat → Int32} {fr lv : Nat → Nat} {lt et tl : Nat → Int32} {hf hp : Nat → Option Nat} {ol : Nat → List Nat} {PS : Nat → Prop} {pf : Nat → Nat → Int32} {ov : Int64} {md mq mt : Int32} {mv : Nat → Nat → Int32} {i j : Int32} {n9 : Nat}  (hR : rp y G td ru fr lv lt et tl hf hp ol PS pf ov md mq mt mv) (hq : mq = nI n9) (hn : n9 ≤ 4096) : gk_M0 l yX5_isSqueezed (Cond.code yX5_isSqueezed cX5_isSqueezed 4 (some .boolean)) 3 90 0 0 y A [.ref (ly_a y 5), .int i, .int j] G (fun v G1 => (∃ p, p < n9 ∧ mv 14 p = i ∧ j = nI (m_cnt mv i p) ∧ v = some (.int (rg_b (decide (¬ mv 17 p = 0)))) ∧ rp y G1 td ru fr lv lt et tl hf hp ol PS pf ov md mq 0 mv) ∨ ((∀ p, p < n9 → mv 14 p = i → ¬ j = nI (m_cnt mv i p)) ∧ (∃ x, v = some (.int x)) ∧ rp y G1 td ru fr lv lt et tl hf hp ol PS pf ov md mq 1 mv)) := by
  refine gk_of0 (cc := cX5_isSqueezed) (maxL := 4) (ret := (some .boolean)) (own := RX5) (by decide +kernel) rfl rfl (Nat.le_of_ble_eq_true rfl) ?_
  intro p e s m below meth c ls hK hret hlk _ hP hS hl
  have hl : lv_has ls 4 [(0, .ref (ly_a y 5)), (1, .int i), (2, .int j)] := hl
  refine lv_aload_n hK.1.1 hK.1.2.1 dX5_isSqueezed_0 rfl (lv_at hl 0 rfl) ?_
  refine lv_iload_n hK.1.1 hK.1.2.1 dX5_isSqueezed_1 rfl (lv_at hl 1 rfl) ?_
  refine lv_iload_n hK.1.1 hK.1.2.1 dX5_isSqueezed_2 rfl (lv_at hl 2 rfl) ?_
  refine gk_callV0 (n := 2) (As := [.int i, .int j]) (rest := []) hK (c_X5_placeOf l hR (i := i) (j := j) hq hn) (gk_gV q_21_23 q_22_0 q_22_1 q_1_5 q_22_2) ⟨rfl, by decide +kernel, by decide +kernel, by decide +kernel⟩ ⟨(Nat.le_of_ble_eq_true rfl), (Nat.le_of_ble_eq_true rfl)⟩ hP hS (gk_recv hK.2.2.1.1 hP hR.2.2.2.2.2.2.2.2.1 rfl) rfl hl.1 rfl (Nat.le_of_ble_eq_true rfl) dX5_isSqueezed_3 ⟨(Nat.le_of_ble_eq_true rfl), (Nat.le_of_ble_eq_true rfl)⟩ (fun v G1 H locs hw hP hS => ?_)
  obtain ⟨⟨x, hpl, rfl⟩, hG9⟩ := hw
  rw [hG9] at hP
  rcases hpl with ⟨p, hpn, hp14, hpj, rfl⟩ | ⟨hpn, rfl⟩
  · refine W.eq (g2 := F0 m 6 ls [.int (nI p)]) rfl ?_
    refine lv_istore_n (lv' := [(3, .int (nI p)), (0, .ref (ly_a y 5)), (1, .int i), (2, .int j)]) hK.1.1 hK.1.2.1 dX5_isSqueezed_6 rfl hl (by decide) rfl (fun ls hl => ?_)
    refine lv_aload_n hK.1.1 hK.1.2.1 dX5_isSqueezed_7 rfl (lv_at hl 1 rfl) ?_
    refine lv_iload_n hK.1.1 hK.1.2.1 dX5_isSqueezed_8 rfl (lv_at hl 0 rfl) ?_
    refine lv_iconst (v := (-1)) hK.1.1 hK.1.2.1 dX5_isSqueezed_9 (by decide) ?_
    refine lv_icmp_eq (tgt := 17) hK.1.1 hK.1.2.1 dX5_isSqueezed_10 (by decide) (fun c => absurd c (m_nIn (by omega))) (fun _ => ?_)
    refine lv_iconst (v := 1) hK.1.1 hK.1.2.1 dX5_isSqueezed_13 (by decide) ?_
    refine lv_goto (tgt := 18) hK.1.1 hK.1.2.1 dX5_isSqueezed_14 (by decide) ?_
    refine lv_iconst (v := 1) hK.1.1 hK.1.2.1 dX5_isSqueezed_18 (by decide) ?_
    refine lv_iconst (v := 1) hK.1.1 hK.1.2.1 dX5_isSqueezed_19 (by decide) ?_
    refine gk_callV0 (n := 3) (As := [.int 1, .int 1, .int 1]) (rest := []) hK (c_X5_goes l hR (a9 := 1) (b9 := 1) (c9 := 1) (m9 := 0) (x9 := 1) (by decide) (by decide)) (gk_gV q_6_9 q_6_10 q_6_11 q_1_5 q_6_12) ⟨rfl, by decide +kernel, by decide +kernel, by decide +kernel⟩ ⟨(Nat.le_of_ble_eq_true rfl), (Nat.le_of_ble_eq_true rfl)⟩ hP hS (gk_recv hK.2.2.1.1 hP hR.2.2.2.2.2.2.2.2.1 rfl) rfl hl.1 rfl (Nat.le_of_ble_eq_true rfl) dX5_isSqueezed_20 ⟨(Nat.le_of_ble_eq_true rfl), (Nat.le_of_ble_eq_true rfl)⟩ (fun v G1 H locs hw hP hS => ?_)
    obtain ⟨rfl, hR⟩ := hw
    refine W.eq (g2 := F0 m 23 ls [.int 1]) rfl ?_
    refine lv_if_eq (tgt := 39) hK.1.1 hK.1.2.1 dX5_isSqueezed_23 (by decide) (fun c => absurd c (by decide)) (fun _ => ?_)
    refine lv_aload_n hK.1.1 hK.1.2.1 dX5_isSqueezed_26 rfl (lv_at hl 1 rfl) ?_
    refine mr_62 hK hP hR dX5_isSqueezed_27 ?_
    refine lv_iload_n hK.1.1 hK.1.2.1 dX5_isSqueezed_30 rfl (lv_at hl 0 rfl) ?_
    refine mr_zld hK hP hR 17 (by decide) rfl (j := p) (show p < 4096 by omega) dX5_isSqueezed_31 ?_
    refine lv_if_eq (tgt := 39) hK.1.1 hK.1.2.1 dX5_isSqueezed_32 (by decide) (fun c32_1 => ?_) (fun c32_1 => ?_)
    · refine lv_iconst (v := 0) hK.1.1 hK.1.2.1 dX5_isSqueezed_39 (by decide) ?_
      exact gk_zret0 hK.1 hret (by first | decide | exact (rp_nz (by first | assumption | (simp; done))).1) hlk hP hS (Nat.le_of_ble_eq_true rfl) (Nat.le_of_ble_eq_true rfl) dX5_isSqueezed_40 (Or.inl ⟨p, hpn, hp14, hpj, by simp [rg_b, c32_1], hR⟩)
    · refine lv_iconst (v := 1) hK.1.1 hK.1.2.1 dX5_isSqueezed_35 (by decide) ?_
      refine lv_goto (tgt := 40) hK.1.1 hK.1.2.1 dX5_isSqueezed_36 (by decide) ?_
      exact gk_zret0 hK.1 hret (by first | decide | exact (rp_nz (by first | assumption | (simp; done))).1) hlk hP hS (Nat.le_of_ble_eq_true rfl) (Nat.le_of_ble_eq_true rfl) dX5_isSqueezed_40 (Or.inl ⟨p, hpn, hp14, hpj, by simp [rg_b, c32_1], hR⟩)
  · refine W.eq (g2 := F0 m 6 ls [.int (-1)]) rfl ?_
    refine lv_istore_n (lv' := [(3, .int (-1)), (0, .ref (ly_a y 5)), (1, .int i), (2, .int j)]) hK.1.1 hK.1.2.1 dX5_isSqueezed_6 rfl hl (by decide) rfl (fun ls hl => ?_)
    refine lv_aload_n hK.1.1 hK.1.2.1 dX5_isSqueezed_7 rfl (lv_at hl 1 rfl) ?_
    refine lv_iload_n hK.1.1 hK.1.2.1 dX5_isSqueezed_8 rfl (lv_at hl 0 rfl) ?_
    refine lv_iconst (v := (-1)) hK.1.1 hK.1.2.1 dX5_isSqueezed_9 (by decide) ?_
    refine lv_icmp_eq (tgt := 17) hK.1.1 hK.1.2.1 dX5_isSqueezed_10 (by decide) (fun _ => ?_) (fun c => absurd (by decide) c)
    refine lv_iconst (v := 0) hK.1.1 hK.1.2.1 dX5_isSqueezed_17 (by decide) ?_
    refine lv_iconst (v := 1) hK.1.1 hK.1.2.1 dX5_isSqueezed_18 (by decide) ?_
    refine lv_iconst (v := 1) hK.1.1 hK.1.2.1 dX5_isSqueezed_19 (by decide) ?_
    refine gk_callV0 (n := 3) (As := [.int 0, .int 1, .int 1]) (rest := []) hK (c_X5_goes l hR (a9 := 0) (b9 := 1) (c9 := 1) (m9 := 1) (x9 := 0) (by decide) (by decide)) (gk_gV q_6_9 q_6_10 q_6_11 q_1_5 q_6_12) ⟨rfl, by decide +kernel, by decide +kernel, by decide +kernel⟩ ⟨(Nat.le_of_ble_eq_true rfl), (Nat.le_of_ble_eq_true rfl)⟩ hP hS (gk_recv hK.2.2.1.1 hP hR.2.2.2.2.2.2.2.2.1 rfl) rfl hl.1 rfl (Nat.le_of_ble_eq_true rfl) dX5_isSqueezed_20 ⟨(Nat.le_of_ble_eq_true rfl), (Nat.le_of_ble_eq_true rfl)⟩ (fun v G1 H locs hw hP hS => ?_)
    obtain ⟨rfl, hR⟩ := hw
    refine W.eq (g2 := F0 m 23 ls [.int 0]) rfl ?_
    refine lv_if_eq (tgt := 39) hK.1.1 hK.1.2.1 dX5_isSqueezed_23 (by decide) (fun _ => ?_) (fun c => absurd c (by decide))
    refine lv_iconst (v := 0) hK.1.1 hK.1.2.1 dX5_isSqueezed_39 (by decide) ?_
    exact gk_zret0 hK.1 hret (by first | decide | exact (rp_nz (by first | assumption | (simp; done))).1) hlk hP hS (Nat.le_of_ble_eq_true rfl) (Nat.le_of_ble_eq_true rfl) dX5_isSqueezed_40 (Or.inr ⟨hpn, ⟨_, rfl⟩, hR⟩)
