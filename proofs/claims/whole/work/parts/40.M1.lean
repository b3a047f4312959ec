/-! the reference: small methods -/
/-- which exception: that of the first that does not hold -/
def m_gc (a b c : Int32) : Int32 := if a = 0 then 1 else if b = 0 then 2 else if c = 0 then 3 else 0
/-- a number of n, or none -/
theorem m_num (i : Int32) (n : Nat) (hn : n < 2 ^ 31) : (∃ j : Nat, j < n ∧ i = nI j) ∨ rg_out i n := by
  by_cases h0 : i < 0
  · exact Or.inr (Or.inl h0)
  · by_cases h1 : i < nI n
    · exact Or.inl (rg_of hn h0 h1)
    · exact Or.inr (Or.inr h1)
def m_in (x a b : Int32) : Bool := !(decide (x < a)) && decide (x ≤ b)
theorem m_in_t {x a b : Int32} (h : rg_in x a b) : m_in x a b = true := by simp [m_in, h.1, h.2]
theorem m_in_f {x a b : Int32} (h : ¬ rg_in x a b) : m_in x a b = false := by
  cases hz : m_in x a b with
  | false => rfl
  | true =>
    simp only [m_in, Bool.and_eq_true, Bool.not_eq_true', decide_eq_false_iff_not, decide_eq_true_eq] at hz
    exact absurd hz h
theorem m_le {i a b : Int32} (h : b = a - 1) (ha : 0 < a) : ¬ i < a ↔ ¬ i ≤ b := by
  rw [h, Int32.le_iff_toInt_le, Int32.lt_iff_toInt_lt, Int32.toInt_sub]
  have h1 := Int32.lt_iff_toInt_lt.mp ha
  have h2 := Int32.toInt_lt a
  rw [show (0 : Int32).toInt = 0 from rfl] at h1
  rw [show (a.toInt - (1 : Int32).toInt).bmod (2 ^ 32) = a.toInt - 1 by rw [show (1 : Int32).toInt = 1 from rfl]; apply Int.bmod_eq_of_le <;> omega]
  omega
set_option maxHeartbeats 4000000 in
set_option maxRecDepth 100000 in
theorem c_X5_in (l : Launch) {y : ly_T} {A : Nat → Prop} {G : gk_G} {td : Int32} {ru : Nat → Nat → Int32} {fr lv : Nat → Nat} {lt et tl : Nat → Int32} {hf hp : Nat → Option Nat} {ol : Nat → List Nat} {PS : Nat → Prop} {pf : Nat → Nat → Int32} {ov : Int64} {md mq mt : Int32} {mv : Nat → Nat → Int32} {x9 a9 b9 : Int32}  (hR : rp y G td ru fr lv lt et tl hf hp ol PS pf ov md mq mt mv) : gk_M0 l yX5_in (Cond.code yX5_in cX5_in 3 (some .boolean)) 0 0 0 0 y A [.int x9, .int a9, .int b9] G (fun v G1 => v = some (.int (rg_b (m_in x9 a9 b9))) ∧ G1 = G) := by
  refine gk_of0 (cc := cX5_in) (maxL := 3) (ret := (some .boolean)) (own := RX5) (by decide +kernel) rfl rfl (Nat.le_of_ble_eq_true rfl) ?_
  intro p e s m below meth c ls hK hret hlk _ hP hS hl
  have hl : lv_has ls 3 [(0, .int x9), (1, .int a9), (2, .int b9)] := hl
  refine lv_iload_n hK.1.1 hK.1.2.1 dX5_in_0 rfl (lv_at hl 0 rfl) ?_
  refine lv_iload_n hK.1.1 hK.1.2.1 dX5_in_1 rfl (lv_at hl 1 rfl) ?_
  refine lv_icmp_lt (tgt := 14) hK.1.1 hK.1.2.1 dX5_in_2 (by decide) (fun c2_1 => ?_) (fun c2_1 => ?_)
  · refine lv_iconst (v := 0) hK.1.1 hK.1.2.1 dX5_in_14 (by decide) ?_
    exact gk_zret0 hK.1 hret (by first | decide | exact (rp_nz (by first | assumption | (simp; done))).1) hlk hP hS (Nat.le_of_ble_eq_true rfl) (Nat.le_of_ble_eq_true rfl) dX5_in_15 (⟨by rw [show m_in x9 a9 b9 = false from m_in_f (fun h => h.1 c2_1)]; rfl, rfl⟩)
  · refine lv_iload_n hK.1.1 hK.1.2.1 dX5_in_5 rfl (lv_at hl 0 rfl) ?_
    refine lv_iload_n hK.1.1 hK.1.2.1 dX5_in_6 rfl (lv_at hl 2 rfl) ?_
    refine lv_icmp_gt (tgt := 14) hK.1.1 hK.1.2.1 dX5_in_7 (by decide) (fun c7_2 => ?_) (fun c7_2 => ?_)
    · refine lv_iconst (v := 0) hK.1.1 hK.1.2.1 dX5_in_14 (by decide) ?_
      exact gk_zret0 hK.1 hret (by first | decide | exact (rp_nz (by first | assumption | (simp; done))).1) hlk hP hS (Nat.le_of_ble_eq_true rfl) (Nat.le_of_ble_eq_true rfl) dX5_in_15 (⟨by rw [show m_in x9 a9 b9 = false from m_in_f (fun h => absurd h.2 (Int32.not_le.mpr c7_2))]; rfl, rfl⟩)
    · refine lv_iconst (v := 1) hK.1.1 hK.1.2.1 dX5_in_10 (by decide) ?_
      refine lv_goto (tgt := 15) hK.1.1 hK.1.2.1 dX5_in_11 (by decide) ?_
      exact gk_zret0 hK.1 hret (by first | decide | exact (rp_nz (by first | assumption | (simp; done))).1) hlk hP hS (Nat.le_of_ble_eq_true rfl) (Nat.le_of_ble_eq_true rfl) dX5_in_15 (⟨by rw [show m_in x9 a9 b9 = true from m_in_t ⟨c2_1, Int32.not_lt.mp c7_2⟩]; rfl, rfl⟩)
set_option maxHeartbeats 4000000 in
set_option maxRecDepth 100000 in
theorem c_X5_isFile (l : Launch) {y : ly_T} {A : Nat → Prop} {G : gk_G} {td : Int32} {ru : Nat → Nat → Int32} {fr lv : Nat → Nat} {lt et tl : Nat → Int32} {hf hp : Nat → Option Nat} {ol : Nat → List Nat} {PS : Nat → Prop} {pf : Nat → Nat → Int32} {ov : Int64} {md mq mt : Int32} {mv : Nat → Nat → Int32} {i : Int32}  (hR : rp y G td ru fr lv lt et tl hf hp ol PS pf ov md mq mt mv) : gk_M0 l yX5_isFile (Cond.code yX5_isFile cX5_isFile 1 (some .boolean)) 1 30 0 0 y A [.int i] G (fun v G1 => ((∃ j : Nat, j < 5 ∧ i = nI j ∧ v = some (.int 1)) ∨ (rg_out i 5 ∧ v = some (.int 0))) ∧ G1 = G) := by
  refine gk_of0 (cc := cX5_isFile) (maxL := 1) (ret := (some .boolean)) (own := RX5) (by decide +kernel) rfl rfl (Nat.le_of_ble_eq_true rfl) ?_
  intro p e s m below meth c ls hK hret hlk _ hP hS hl
  have hl : lv_has ls 1 [(0, .int i)] := hl
  refine lv_iload_n hK.1.1 hK.1.2.1 dX5_isFile_0 rfl (lv_at hl 0 rfl) ?_
  refine lv_iconst (v := 0) hK.1.1 hK.1.2.1 dX5_isFile_1 (by decide) ?_
  refine lv_iconst (v := 4) hK.1.1 hK.1.2.1 dX5_isFile_2 (by decide) ?_
  refine gk_callS0 (n := 3) (As := [.int i, .int 0, .int 4]) (rest := []) hK (c_X5_in l hR (x9 := i) (a9 := 0) (b9 := 4)) (gk_gS q_6_3 q_6_4 q_1_5 q_6_5) ⟨by decide +kernel, by decide +kernel, by decide +kernel⟩ ⟨(Nat.le_of_ble_eq_true rfl), (Nat.le_of_ble_eq_true rfl)⟩ hP hS rfl hl.1 rfl (Nat.le_of_ble_eq_true rfl) dX5_isFile_3 ⟨(Nat.le_of_ble_eq_true rfl), (Nat.le_of_ble_eq_true rfl)⟩ (fun v G1 H locs hw hP hS => ?_)
  obtain ⟨rfl, hG9⟩ := hw
  rw [hG9] at hP
  refine W.eq (g2 := F0 m 6 ls [.int (rg_b (m_in i 0 4))]) rfl ?_
  exact gk_zret0 hK.1 hret (rp_nz (rg_b01 _)).1 hlk hP hS (Nat.le_of_ble_eq_true rfl) (Nat.le_of_ble_eq_true rfl) dX5_isFile_6 (⟨by rcases m_num i 5 (by decide) with ⟨j, hj, rfl⟩ | h; exact Or.inl ⟨j, hj, rfl, by rw [show m_in (nI j) 0 4 = true from m_in_t ⟨nI_pos (by omega), nI_le (b := 4) (by omega) (by decide)⟩]; rfl⟩; exact Or.inr ⟨h, by rw [show m_in i 0 4 = false from m_in_f (fun z => h.elim z.1 (fun q => (m_le (a := 5) (b := 4) (by decide) (by decide)).mp q z.2))]; rfl⟩, rfl⟩)
set_option maxHeartbeats 4000000 in
set_option maxRecDepth 100000 in
theorem c_X5_isRule (l : Launch) {y : ly_T} {A : Nat → Prop} {G : gk_G} {td : Int32} {ru : Nat → Nat → Int32} {fr lv : Nat → Nat} {lt et tl : Nat → Int32} {hf hp : Nat → Option Nat} {ol : Nat → List Nat} {PS : Nat → Prop} {pf : Nat → Nat → Int32} {ov : Int64} {md mq mt : Int32} {mv : Nat → Nat → Int32} {i : Int32}  (hR : rp y G td ru fr lv lt et tl hf hp ol PS pf ov md mq mt mv) : gk_M0 l yX5_isRule (Cond.code yX5_isRule cX5_isRule 1 (some .boolean)) 1 30 0 0 y A [.int i] G (fun v G1 => ((∃ j : Nat, j < 3 ∧ i = nI j ∧ v = some (.int 1)) ∨ (rg_out i 3 ∧ v = some (.int 0))) ∧ G1 = G) := by
  refine gk_of0 (cc := cX5_isRule) (maxL := 1) (ret := (some .boolean)) (own := RX5) (by decide +kernel) rfl rfl (Nat.le_of_ble_eq_true rfl) ?_
  intro p e s m below meth c ls hK hret hlk _ hP hS hl
  have hl : lv_has ls 1 [(0, .int i)] := hl
  refine lv_iload_n hK.1.1 hK.1.2.1 dX5_isRule_0 rfl (lv_at hl 0 rfl) ?_
  refine lv_iconst (v := 0) hK.1.1 hK.1.2.1 dX5_isRule_1 (by decide) ?_
  refine lv_iconst (v := 2) hK.1.1 hK.1.2.1 dX5_isRule_2 (by decide) ?_
  refine gk_callS0 (n := 3) (As := [.int i, .int 0, .int 2]) (rest := []) hK (c_X5_in l hR (x9 := i) (a9 := 0) (b9 := 2)) (gk_gS q_6_3 q_6_4 q_1_5 q_6_5) ⟨by decide +kernel, by decide +kernel, by decide +kernel⟩ ⟨(Nat.le_of_ble_eq_true rfl), (Nat.le_of_ble_eq_true rfl)⟩ hP hS rfl hl.1 rfl (Nat.le_of_ble_eq_true rfl) dX5_isRule_3 ⟨(Nat.le_of_ble_eq_true rfl), (Nat.le_of_ble_eq_true rfl)⟩ (fun v G1 H locs hw hP hS => ?_)
  obtain ⟨rfl, hG9⟩ := hw
  rw [hG9] at hP
  refine W.eq (g2 := F0 m 6 ls [.int (rg_b (m_in i 0 2))]) rfl ?_
  exact gk_zret0 hK.1 hret (rp_nz (rg_b01 _)).1 hlk hP hS (Nat.le_of_ble_eq_true rfl) (Nat.le_of_ble_eq_true rfl) dX5_isRule_6 (⟨by rcases m_num i 3 (by decide) with ⟨j, hj, rfl⟩ | h; exact Or.inl ⟨j, hj, rfl, by rw [show m_in (nI j) 0 2 = true from m_in_t ⟨nI_pos (by omega), nI_le (b := 2) (by omega) (by decide)⟩]; rfl⟩; exact Or.inr ⟨h, by rw [show m_in i 0 2 = false from m_in_f (fun z => h.elim z.1 (fun q => (m_le (a := 3) (b := 2) (by decide) (by decide)).mp q z.2))]; rfl⟩, rfl⟩)
set_option maxHeartbeats 4000000 in
set_option maxRecDepth 100000 in
theorem c_X5_isHolder (l : Launch) {y : ly_T} {A : Nat → Prop} {G : gk_G} {td : Int32} {ru : Nat → Nat → Int32} {fr lv : Nat → Nat} {lt et tl : Nat → Int32} {hf hp : Nat → Option Nat} {ol : Nat → List Nat} {PS : Nat → Prop} {pf : Nat → Nat → Int32} {ov : Int64} {md mq mt : Int32} {mv : Nat → Nat → Int32} {i : Int32}  (hR : rp y G td ru fr lv lt et tl hf hp ol PS pf ov md mq mt mv) : gk_M0 l yX5_isHolder (Cond.code yX5_isHolder cX5_isHolder 1 (some .boolean)) 1 30 0 0 y A [.int i] G (fun v G1 => ((∃ j : Nat, j < 4 ∧ i = nI j ∧ v = some (.int 1)) ∨ (rg_out i 4 ∧ v = some (.int 0))) ∧ G1 = G) := by
  refine gk_of0 (cc := cX5_isHolder) (maxL := 1) (ret := (some .boolean)) (own := RX5) (by decide +kernel) rfl rfl (Nat.le_of_ble_eq_true rfl) ?_
  intro p e s m below meth c ls hK hret hlk _ hP hS hl
  have hl : lv_has ls 1 [(0, .int i)] := hl
  refine lv_iload_n hK.1.1 hK.1.2.1 dX5_isHolder_0 rfl (lv_at hl 0 rfl) ?_
  refine lv_iconst (v := 0) hK.1.1 hK.1.2.1 dX5_isHolder_1 (by decide) ?_
  refine lv_iconst (v := 3) hK.1.1 hK.1.2.1 dX5_isHolder_2 (by decide) ?_
  refine gk_callS0 (n := 3) (As := [.int i, .int 0, .int 3]) (rest := []) hK (c_X5_in l hR (x9 := i) (a9 := 0) (b9 := 3)) (gk_gS q_6_3 q_6_4 q_1_5 q_6_5) ⟨by decide +kernel, by decide +kernel, by decide +kernel⟩ ⟨(Nat.le_of_ble_eq_true rfl), (Nat.le_of_ble_eq_true rfl)⟩ hP hS rfl hl.1 rfl (Nat.le_of_ble_eq_true rfl) dX5_isHolder_3 ⟨(Nat.le_of_ble_eq_true rfl), (Nat.le_of_ble_eq_true rfl)⟩ (fun v G1 H locs hw hP hS => ?_)
  obtain ⟨rfl, hG9⟩ := hw
  rw [hG9] at hP
  refine W.eq (g2 := F0 m 6 ls [.int (rg_b (m_in i 0 3))]) rfl ?_
  exact gk_zret0 hK.1 hret (rp_nz (rg_b01 _)).1 hlk hP hS (Nat.le_of_ble_eq_true rfl) (Nat.le_of_ble_eq_true rfl) dX5_isHolder_6 (⟨by rcases m_num i 4 (by decide) with ⟨j, hj, rfl⟩ | h; exact Or.inl ⟨j, hj, rfl, by rw [show m_in (nI j) 0 3 = true from m_in_t ⟨nI_pos (by omega), nI_le (b := 3) (by omega) (by decide)⟩]; rfl⟩; exact Or.inr ⟨h, by rw [show m_in i 0 3 = false from m_in_f (fun z => h.elim z.1 (fun q => (m_le (a := 4) (b := 3) (by decide) (by decide)).mp q z.2))]; rfl⟩, rfl⟩)
set_option maxHeartbeats 4000000 in
set_option maxRecDepth 100000 in
theorem c_X5_goes (l : Launch) {y : ly_T} {A : Nat → Prop} {G : gk_G} {td : Int32} {ru : Nat → Nat → Int32} {fr lv : Nat → Nat} {lt et tl : Nat → Int32} {hf hp : Nat → Option Nat} {ol : Nat → List Nat} {PS : Nat → Prop} {pf : Nat → Nat → Int32} {ov : Int64} {md mq mt : Int32} {mv : Nat → Nat → Int32} {a9 b9 c9 m9 x9 : Int32}  (hR : rp y G td ru fr lv lt et tl hf hp ol PS pf ov md mq mt mv) (hm : m_gc a9 b9 c9 = m9) (hx : rg_b (decide (m9 = 0)) = x9) : gk_M0 l yX5_goes (Cond.code yX5_goes cX5_goes 4 (some .boolean)) 0 0 0 0 y A [.ref (ly_a y 5), .int a9, .int b9, .int c9] G (fun v G1 => v = some (.int x9) ∧ rp y G1 td ru fr lv lt et tl hf hp ol PS pf ov md mq m9 mv) := by
  refine gk_of0 (cc := cX5_goes) (maxL := 4) (ret := (some .boolean)) (own := RX5) (by decide +kernel) rfl rfl (Nat.le_of_ble_eq_true rfl) ?_
  intro p e s m below meth c ls hK hret hlk _ hP hS hl
  have hl : lv_has ls 4 [(0, .ref (ly_a y 5)), (1, .int a9), (2, .int b9), (3, .int c9)] := hl
  refine lv_aload_n hK.1.1 hK.1.2.1 dX5_goes_0 rfl (lv_at hl 0 rfl) ?_
  refine lv_iload_n hK.1.1 hK.1.2.1 dX5_goes_1 rfl (lv_at hl 1 rfl) ?_
  refine lv_if_ne (tgt := 9) hK.1.1 hK.1.2.1 dX5_goes_2 (by decide) (fun c2_1 => ?_) (fun c2_1 => ?_)
  · refine lv_iload_n hK.1.1 hK.1.2.1 dX5_goes_9 rfl (lv_at hl 2 rfl) ?_
    refine lv_if_ne (tgt := 17) hK.1.1 hK.1.2.1 dX5_goes_10 (by decide) (fun c10_2 => ?_) (fun c10_2 => ?_)
    · refine lv_iload_n hK.1.1 hK.1.2.1 dX5_goes_17 rfl (lv_at hl 3 rfl) ?_
      refine lv_if_ne (tgt := 25) hK.1.1 hK.1.2.1 dX5_goes_18 (by decide) (fun c18_3 => ?_) (fun c18_3 => ?_)
      · refine lv_iconst (v := 0) hK.1.1 hK.1.2.1 dX5_goes_25 (by decide) ?_
        refine mw_71 hK hP hS hR dX5_goes_26 (fun H locs G hP hS hR => ?_)
        refine lv_aload_n hK.1.1 hK.1.2.1 dX5_goes_29 rfl (lv_at hl 0 rfl) ?_
        refine mr_71 hK hP hR dX5_goes_30 ?_
        refine lv_if_ne (tgt := 40) hK.1.1 hK.1.2.1 dX5_goes_33 (by decide) (fun c => absurd c (by decide)) (fun _ => ?_)
        refine lv_iconst (v := 1) hK.1.1 hK.1.2.1 dX5_goes_36 (by decide) ?_
        refine lv_goto (tgt := 41) hK.1.1 hK.1.2.1 dX5_goes_37 (by decide) ?_
        exact gk_zret0 hK.1 hret (by first | decide | exact (rp_nz (by first | assumption | (simp; done))).1) hlk hP hS (Nat.le_of_ble_eq_true rfl) (Nat.le_of_ble_eq_true rfl) dX5_goes_41 (⟨by rw [← hx, ← hm]; simp [m_gc, rg_b, c2_1, c10_2, c18_3], by rw [← hm, show m_gc a9 b9 c9 = 0 by simp [m_gc, c2_1, c10_2, c18_3]]; exact hR⟩)
      · refine lv_iconst (v := 3) hK.1.1 hK.1.2.1 dX5_goes_21 (by decide) ?_
        refine lv_goto (tgt := 26) hK.1.1 hK.1.2.1 dX5_goes_22 (by decide) ?_
        refine mw_71 hK hP hS hR dX5_goes_26 (fun H locs G hP hS hR => ?_)
        refine lv_aload_n hK.1.1 hK.1.2.1 dX5_goes_29 rfl (lv_at hl 0 rfl) ?_
        refine mr_71 hK hP hR dX5_goes_30 ?_
        refine lv_if_ne (tgt := 40) hK.1.1 hK.1.2.1 dX5_goes_33 (by decide) (fun _ => ?_) (fun c => absurd c (by decide))
        refine lv_iconst (v := 0) hK.1.1 hK.1.2.1 dX5_goes_40 (by decide) ?_
        exact gk_zret0 hK.1 hret (by first | decide | exact (rp_nz (by first | assumption | (simp; done))).1) hlk hP hS (Nat.le_of_ble_eq_true rfl) (Nat.le_of_ble_eq_true rfl) dX5_goes_41 (⟨by rw [← hx, ← hm]; simp [m_gc, rg_b, c2_1, c10_2, c18_3], by rw [← hm, show m_gc a9 b9 c9 = 3 by simp [m_gc, c2_1, c10_2, c18_3]]; exact hR⟩)
    · refine lv_iconst (v := 2) hK.1.1 hK.1.2.1 dX5_goes_13 (by decide) ?_
      refine lv_goto (tgt := 26) hK.1.1 hK.1.2.1 dX5_goes_14 (by decide) ?_
      refine mw_71 hK hP hS hR dX5_goes_26 (fun H locs G hP hS hR => ?_)
      refine lv_aload_n hK.1.1 hK.1.2.1 dX5_goes_29 rfl (lv_at hl 0 rfl) ?_
      refine mr_71 hK hP hR dX5_goes_30 ?_
      refine lv_if_ne (tgt := 40) hK.1.1 hK.1.2.1 dX5_goes_33 (by decide) (fun _ => ?_) (fun c => absurd c (by decide))
      refine lv_iconst (v := 0) hK.1.1 hK.1.2.1 dX5_goes_40 (by decide) ?_
      exact gk_zret0 hK.1 hret (by first | decide | exact (rp_nz (by first | assumption | (simp; done))).1) hlk hP hS (Nat.le_of_ble_eq_true rfl) (Nat.le_of_ble_eq_true rfl) dX5_goes_41 (⟨by rw [← hx, ← hm]; simp [m_gc, rg_b, c2_1, c10_2], by rw [← hm, show m_gc a9 b9 c9 = 2 by simp [m_gc, c2_1, c10_2]]; exact hR⟩)
  · refine lv_iconst (v := 1) hK.1.1 hK.1.2.1 dX5_goes_5 (by decide) ?_
    refine lv_goto (tgt := 26) hK.1.1 hK.1.2.1 dX5_goes_6 (by decide) ?_
    refine mw_71 hK hP hS hR dX5_goes_26 (fun H locs G hP hS hR => ?_)
    refine lv_aload_n hK.1.1 hK.1.2.1 dX5_goes_29 rfl (lv_at hl 0 rfl) ?_
    refine mr_71 hK hP hR dX5_goes_30 ?_
    refine lv_if_ne (tgt := 40) hK.1.1 hK.1.2.1 dX5_goes_33 (by decide) (fun _ => ?_) (fun c => absurd c (by decide))
    refine lv_iconst (v := 0) hK.1.1 hK.1.2.1 dX5_goes_40 (by decide) ?_
    exact gk_zret0 hK.1 hret (by first | decide | exact (rp_nz (by first | assumption | (simp; done))).1) hlk hP hS (Nat.le_of_ble_eq_true rfl) (Nat.le_of_ble_eq_true rfl) dX5_goes_41 (⟨by rw [← hx, ← hm]; simp [m_gc, rg_b, c2_1], by rw [← hm, show m_gc a9 b9 c9 = 1 by simp [m_gc, c2_1]]; exact hR⟩)
set_option maxHeartbeats 4000000 in
set_option maxRecDepth 100000 in
theorem c_X5_setDue (l : Launch) {y : ly_T} {A : Nat → Prop} {G : gk_G} {td : Int32} {ru : Nat → Nat → Int32} {fr lv : Nat → Nat} {lt et tl : Nat → Int32} {hf hp : Nat → Option Nat} {ol : Nat → List Nat} {PS : Nat → Prop} {pf : Nat → Nat → Int32} {ov : Int64} {md mq mt : Int32} {mv : Nat → Nat → Int32} {i size wd mo le : Int32}  (hR : rp y G td ru fr lv lt et tl hf hp ol PS pf ov md mq mt mv) : gk_M0 l yX5_setDue (Cond.code yX5_setDue cX5_setDue 7 none) 3 90 0 0 y A [.ref (ly_a y 5), .int i, .int size, .int wd, .int mo, .int le] G (fun v G1 => v = none ∧ ((∃ r, r < 3 ∧ i = nI r ∧ (rg_in size 0 10000 ∧ rg_in wd (-1) 6 ∧ rg_in mo (-1) 29 ∧ rg_in le 0 100) ∧ rp y G1 td ru fr lv lt et tl hf hp ol PS pf ov md mq 0 (rp_u2 (rp_u2 (rp_u2 (rp_u2 mv 0 r size) 1 r wd) 2 r mo) 3 r le)) ∨ (rg_out i 3 ∧ rp y G1 td ru fr lv lt et tl hf hp ol PS pf ov md mq 1 mv) ∨ (¬ rg_out i 3 ∧ ¬ (rg_in size 0 10000 ∧ rg_in wd (-1) 6 ∧ rg_in mo (-1) 29 ∧ rg_in le 0 100) ∧ rp y G1 td ru fr lv lt et tl hf hp ol PS pf ov md mq 2 mv))) := by
  refine gk_of0 (cc := cX5_setDue) (maxL := 7) (ret := none) (own := RX5) (by decide +kernel) rfl rfl (Nat.le_of_ble_eq_true rfl) ?_
  intro p e s m below meth c ls hK hret hlk _ hP hS hl
  have hl : lv_has ls 7 [(0, .ref (ly_a y 5)), (1, .int i), (2, .int size), (3, .int wd), (4, .int mo), (5, .int le)] := hl
  refine lv_iload_n hK.1.1 hK.1.2.1 dX5_setDue_0 rfl (lv_at hl 2 rfl) ?_
  refine lv_iconst (v := 0) hK.1.1 hK.1.2.1 dX5_setDue_1 (by decide) ?_
  refine lv_sipush (v := 10000) hK.1.1 hK.1.2.1 dX5_setDue_2 (by decide) ?_
  refine gk_callS0 (n := 3) (As := [.int size, .int 0, .int 10000]) (rest := []) hK (c_X5_in l hR (x9 := size) (a9 := 0) (b9 := 10000)) (gk_gS q_6_3 q_6_4 q_1_5 q_6_5) ⟨by decide +kernel, by decide +kernel, by decide +kernel⟩ ⟨(Nat.le_of_ble_eq_true rfl), (Nat.le_of_ble_eq_true rfl)⟩ hP hS rfl hl.1 rfl (Nat.le_of_ble_eq_true rfl) dX5_setDue_5 ⟨(Nat.le_of_ble_eq_true rfl), (Nat.le_of_ble_eq_true rfl)⟩ (fun v G1 H locs hw hP hS => ?_)
  obtain ⟨rfl, hG9⟩ := hw
  rw [hG9] at hP
  by_cases g_1 : rg_in size 0 10000
  · rw [m_in_t g_1]
    refine W.eq (g2 := F0 m 8 ls [.int 1]) rfl ?_
    refine lv_if_eq (tgt := 47) hK.1.1 hK.1.2.1 dX5_setDue_8 (by decide) (fun c => absurd c (by decide)) (fun _ => ?_)
    refine lv_iload_n hK.1.1 hK.1.2.1 dX5_setDue_11 rfl (lv_at hl 3 rfl) ?_
    refine lv_iconst (v := (-1)) hK.1.1 hK.1.2.1 dX5_setDue_12 (by decide) ?_
    refine lv_bipush (v := 6) hK.1.1 hK.1.2.1 dX5_setDue_13 (by decide) ?_
    refine gk_callS0 (n := 3) (As := [.int wd, .int (-1), .int 6]) (rest := []) hK (c_X5_in l hR (x9 := wd) (a9 := (-1)) (b9 := 6)) (gk_gS q_6_3 q_6_4 q_1_5 q_6_5) ⟨by decide +kernel, by decide +kernel, by decide +kernel⟩ ⟨(Nat.le_of_ble_eq_true rfl), (Nat.le_of_ble_eq_true rfl)⟩ hP hS rfl hl.1 rfl (Nat.le_of_ble_eq_true rfl) dX5_setDue_15 ⟨(Nat.le_of_ble_eq_true rfl), (Nat.le_of_ble_eq_true rfl)⟩ (fun v G1 H locs hw hP hS => ?_)
    obtain ⟨rfl, hG9⟩ := hw
    rw [hG9] at hP
    by_cases g_2 : rg_in wd (-1) 6
    · rw [m_in_t g_2]
      refine W.eq (g2 := F0 m 18 ls [.int 1]) rfl ?_
      refine lv_if_eq (tgt := 47) hK.1.1 hK.1.2.1 dX5_setDue_18 (by decide) (fun c => absurd c (by decide)) (fun _ => ?_)
      refine lv_iload hK.1.1 hK.1.2.1 dX5_setDue_21 (lv_at hl 4 rfl) ?_
      refine lv_iconst (v := (-1)) hK.1.1 hK.1.2.1 dX5_setDue_23 (by decide) ?_
      refine lv_bipush (v := 29) hK.1.1 hK.1.2.1 dX5_setDue_24 (by decide) ?_
      refine gk_callS0 (n := 3) (As := [.int mo, .int (-1), .int 29]) (rest := []) hK (c_X5_in l hR (x9 := mo) (a9 := (-1)) (b9 := 29)) (gk_gS q_6_3 q_6_4 q_1_5 q_6_5) ⟨by decide +kernel, by decide +kernel, by decide +kernel⟩ ⟨(Nat.le_of_ble_eq_true rfl), (Nat.le_of_ble_eq_true rfl)⟩ hP hS rfl hl.1 rfl (Nat.le_of_ble_eq_true rfl) dX5_setDue_26 ⟨(Nat.le_of_ble_eq_true rfl), (Nat.le_of_ble_eq_true rfl)⟩ (fun v G1 H locs hw hP hS => ?_)
      obtain ⟨rfl, hG9⟩ := hw
      rw [hG9] at hP
      by_cases g_3 : rg_in mo (-1) 29
      · rw [m_in_t g_3]
        refine W.eq (g2 := F0 m 29 ls [.int 1]) rfl ?_
        refine lv_if_eq (tgt := 47) hK.1.1 hK.1.2.1 dX5_setDue_29 (by decide) (fun c => absurd c (by decide)) (fun _ => ?_)
        refine lv_iload hK.1.1 hK.1.2.1 dX5_setDue_32 (lv_at hl 5 rfl) ?_
        refine lv_iconst (v := 0) hK.1.1 hK.1.2.1 dX5_setDue_34 (by decide) ?_
        refine lv_bipush (v := 100) hK.1.1 hK.1.2.1 dX5_setDue_35 (by decide) ?_
        refine gk_callS0 (n := 3) (As := [.int le, .int 0, .int 100]) (rest := []) hK (c_X5_in l hR (x9 := le) (a9 := 0) (b9 := 100)) (gk_gS q_6_3 q_6_4 q_1_5 q_6_5) ⟨by decide +kernel, by decide +kernel, by decide +kernel⟩ ⟨(Nat.le_of_ble_eq_true rfl), (Nat.le_of_ble_eq_true rfl)⟩ hP hS rfl hl.1 rfl (Nat.le_of_ble_eq_true rfl) dX5_setDue_37 ⟨(Nat.le_of_ble_eq_true rfl), (Nat.le_of_ble_eq_true rfl)⟩ (fun v G1 H locs hw hP hS => ?_)
        obtain ⟨rfl, hG9⟩ := hw
        rw [hG9] at hP
        by_cases g_4 : rg_in le 0 100
        · rw [m_in_t g_4]
          refine W.eq (g2 := F0 m 40 ls [.int 1]) rfl ?_
          refine lv_if_eq (tgt := 47) hK.1.1 hK.1.2.1 dX5_setDue_40 (by decide) (fun c => absurd c (by decide)) (fun _ => ?_)
          refine lv_iconst (v := 1) hK.1.1 hK.1.2.1 dX5_setDue_43 (by decide) ?_
          refine lv_goto (tgt := 48) hK.1.1 hK.1.2.1 dX5_setDue_44 (by decide) ?_
          refine lv_istore (lv' := [(6, .int 1), (0, .ref (ly_a y 5)), (1, .int i), (2, .int size), (3, .int wd), (4, .int mo), (5, .int le)]) hK.1.1 hK.1.2.1 dX5_setDue_48 hl (by decide) rfl (fun ls hl => ?_)
          refine lv_aload_n hK.1.1 hK.1.2.1 dX5_setDue_50 rfl (lv_at hl 1 rfl) ?_
          refine lv_iload_n hK.1.1 hK.1.2.1 dX5_setDue_51 rfl (lv_at hl 2 rfl) ?_
          refine gk_callS0 (n := 1) (As := [.int i]) (rest := [.ref (ly_a y 5)]) hK (c_X5_isRule l hR (i := i)) (gk_gS q_6_6 q_6_7 q_1_5 q_6_8) ⟨by decide +kernel, by decide +kernel, by decide +kernel⟩ ⟨(Nat.le_of_ble_eq_true rfl), (Nat.le_of_ble_eq_true rfl)⟩ hP hS rfl hl.1 rfl (Nat.le_of_ble_eq_true rfl) dX5_setDue_52 ⟨(Nat.le_of_ble_eq_true rfl), (Nat.le_of_ble_eq_true rfl)⟩ (fun v G1 H locs hw hP hS => ?_)
          obtain ⟨hw, hG9⟩ := hw
          rw [hG9] at hP
          rcases hw with ⟨r_5, hr_5, rfl, rfl⟩ | ⟨ho_6, rfl⟩
          · refine W.eq (g2 := F0 m 55 ls [.int 1, .ref (ly_a y 5)]) rfl ?_
            refine lv_iload hK.1.1 hK.1.2.1 dX5_setDue_55 (lv_at hl 0 rfl) ?_
            refine lv_iconst (v := 1) hK.1.1 hK.1.2.1 dX5_setDue_57 (by decide) ?_
            refine gk_callV0 (n := 3) (As := [.int 1, .int 1, .int 1]) (rest := []) hK (c_X5_goes l hR (a9 := 1) (b9 := 1) (c9 := 1) (m9 := 0) (x9 := 1) (by decide) (by decide)) (gk_gV q_6_9 q_6_10 q_6_11 q_1_5 q_6_12) ⟨rfl, by decide +kernel, by decide +kernel, by decide +kernel⟩ ⟨(Nat.le_of_ble_eq_true rfl), (Nat.le_of_ble_eq_true rfl)⟩ hP hS (gk_recv hK.2.2.1.1 hP hR.2.2.2.2.2.2.2.2.1 rfl) rfl hl.1 rfl (Nat.le_of_ble_eq_true rfl) dX5_setDue_58 ⟨(Nat.le_of_ble_eq_true rfl), (Nat.le_of_ble_eq_true rfl)⟩ (fun v G1 H locs hw hP hS => ?_)
            obtain ⟨rfl, hR⟩ := hw
            refine W.eq (g2 := F0 m 61 ls [.int 1]) rfl ?_
            refine lv_if_eq (tgt := 94) hK.1.1 hK.1.2.1 dX5_setDue_61 (by decide) (fun c => absurd c (by decide)) (fun _ => ?_)
            refine lv_aload_n hK.1.1 hK.1.2.1 dX5_setDue_64 rfl (lv_at hl 1 rfl) ?_
            refine mr_7 hK hP hR dX5_setDue_65 ?_
            refine lv_iload_n hK.1.1 hK.1.2.1 dX5_setDue_68 rfl (lv_at hl 2 rfl) ?_
            refine lv_iload_n hK.1.1 hK.1.2.1 dX5_setDue_69 rfl (lv_at hl 3 rfl) ?_
            refine mw_ist hK hP hS hR 0 (by decide) rfl (j := r_5) hr_5 dX5_setDue_70 (fun H locs G hP hS hR => ?_)
            refine lv_aload_n hK.1.1 hK.1.2.1 dX5_setDue_71 rfl (lv_at hl 1 rfl) ?_
            refine mr_13 hK hP hR dX5_setDue_72 ?_
            refine lv_iload_n hK.1.1 hK.1.2.1 dX5_setDue_75 rfl (lv_at hl 2 rfl) ?_
            refine lv_iload_n hK.1.1 hK.1.2.1 dX5_setDue_76 rfl (lv_at hl 4 rfl) ?_
            refine mw_ist hK hP hS hR 1 (by decide) rfl (j := r_5) hr_5 dX5_setDue_77 (fun H locs G hP hS hR => ?_)
            refine lv_aload_n hK.1.1 hK.1.2.1 dX5_setDue_78 rfl (lv_at hl 1 rfl) ?_
            refine mr_16 hK hP hR dX5_setDue_79 ?_
            refine lv_iload_n hK.1.1 hK.1.2.1 dX5_setDue_82 rfl (lv_at hl 2 rfl) ?_
            refine lv_iload hK.1.1 hK.1.2.1 dX5_setDue_83 (lv_at hl 5 rfl) ?_
            refine mw_ist hK hP hS hR 2 (by decide) rfl (j := r_5) hr_5 dX5_setDue_85 (fun H locs G hP hS hR => ?_)
            refine lv_aload_n hK.1.1 hK.1.2.1 dX5_setDue_86 rfl (lv_at hl 1 rfl) ?_
            refine mr_19 hK hP hR dX5_setDue_87 ?_
            refine lv_iload_n hK.1.1 hK.1.2.1 dX5_setDue_90 rfl (lv_at hl 2 rfl) ?_
            refine lv_iload hK.1.1 hK.1.2.1 dX5_setDue_91 (lv_at hl 6 rfl) ?_
            refine mw_ist hK hP hS hR 3 (by decide) rfl (j := r_5) hr_5 dX5_setDue_93 (fun H locs G hP hS hR => ?_)
            exact gk_vret0 hK.1 hret hlk hP hS (Nat.le_of_ble_eq_true rfl) (Nat.le_of_ble_eq_true rfl) dX5_setDue_94 (⟨rfl, Or.inl (⟨r_5, hr_5, rfl, ⟨g_1, g_2, g_3, g_4⟩, hR⟩)⟩)
          · refine W.eq (g2 := F0 m 55 ls [.int 0, .ref (ly_a y 5)]) rfl ?_
            refine lv_iload hK.1.1 hK.1.2.1 dX5_setDue_55 (lv_at hl 0 rfl) ?_
            refine lv_iconst (v := 1) hK.1.1 hK.1.2.1 dX5_setDue_57 (by decide) ?_
            refine gk_callV0 (n := 3) (As := [.int 0, .int 1, .int 1]) (rest := []) hK (c_X5_goes l hR (a9 := 0) (b9 := 1) (c9 := 1) (m9 := 1) (x9 := 0) (by decide) (by decide)) (gk_gV q_6_9 q_6_10 q_6_11 q_1_5 q_6_12) ⟨rfl, by decide +kernel, by decide +kernel, by decide +kernel⟩ ⟨(Nat.le_of_ble_eq_true rfl), (Nat.le_of_ble_eq_true rfl)⟩ hP hS (gk_recv hK.2.2.1.1 hP hR.2.2.2.2.2.2.2.2.1 rfl) rfl hl.1 rfl (Nat.le_of_ble_eq_true rfl) dX5_setDue_58 ⟨(Nat.le_of_ble_eq_true rfl), (Nat.le_of_ble_eq_true rfl)⟩ (fun v G1 H locs hw hP hS => ?_)
            obtain ⟨rfl, hR⟩ := hw
            refine W.eq (g2 := F0 m 61 ls [.int 0]) rfl ?_
            refine lv_if_eq (tgt := 94) hK.1.1 hK.1.2.1 dX5_setDue_61 (by decide) (fun _ => ?_) (fun c => absurd c (by decide))
            exact gk_vret0 hK.1 hret hlk hP hS (Nat.le_of_ble_eq_true rfl) (Nat.le_of_ble_eq_true rfl) dX5_setDue_94 (⟨rfl, Or.inr (Or.inl (⟨ho_6, hR⟩))⟩)
        · rw [m_in_f g_4]
          refine W.eq (g2 := F0 m 40 ls [.int 0]) rfl ?_
          refine lv_if_eq (tgt := 47) hK.1.1 hK.1.2.1 dX5_setDue_40 (by decide) (fun _ => ?_) (fun c => absurd c (by decide))
          refine lv_iconst (v := 0) hK.1.1 hK.1.2.1 dX5_setDue_47 (by decide) ?_
          refine lv_istore (lv' := [(6, .int 0), (0, .ref (ly_a y 5)), (1, .int i), (2, .int size), (3, .int wd), (4, .int mo), (5, .int le)]) hK.1.1 hK.1.2.1 dX5_setDue_48 hl (by decide) rfl (fun ls hl => ?_)
          refine lv_aload_n hK.1.1 hK.1.2.1 dX5_setDue_50 rfl (lv_at hl 1 rfl) ?_
          refine lv_iload_n hK.1.1 hK.1.2.1 dX5_setDue_51 rfl (lv_at hl 2 rfl) ?_
          refine gk_callS0 (n := 1) (As := [.int i]) (rest := [.ref (ly_a y 5)]) hK (c_X5_isRule l hR (i := i)) (gk_gS q_6_6 q_6_7 q_1_5 q_6_8) ⟨by decide +kernel, by decide +kernel, by decide +kernel⟩ ⟨(Nat.le_of_ble_eq_true rfl), (Nat.le_of_ble_eq_true rfl)⟩ hP hS rfl hl.1 rfl (Nat.le_of_ble_eq_true rfl) dX5_setDue_52 ⟨(Nat.le_of_ble_eq_true rfl), (Nat.le_of_ble_eq_true rfl)⟩ (fun v G1 H locs hw hP hS => ?_)
          obtain ⟨hw, hG9⟩ := hw
          rw [hG9] at hP
          rcases hw with ⟨r_7, hr_7, rfl, rfl⟩ | ⟨ho_8, rfl⟩
          · refine W.eq (g2 := F0 m 55 ls [.int 1, .ref (ly_a y 5)]) rfl ?_
            refine lv_iload hK.1.1 hK.1.2.1 dX5_setDue_55 (lv_at hl 0 rfl) ?_
            refine lv_iconst (v := 1) hK.1.1 hK.1.2.1 dX5_setDue_57 (by decide) ?_
            refine gk_callV0 (n := 3) (As := [.int 1, .int 0, .int 1]) (rest := []) hK (c_X5_goes l hR (a9 := 1) (b9 := 0) (c9 := 1) (m9 := 2) (x9 := 0) (by decide) (by decide)) (gk_gV q_6_9 q_6_10 q_6_11 q_1_5 q_6_12) ⟨rfl, by decide +kernel, by decide +kernel, by decide +kernel⟩ ⟨(Nat.le_of_ble_eq_true rfl), (Nat.le_of_ble_eq_true rfl)⟩ hP hS (gk_recv hK.2.2.1.1 hP hR.2.2.2.2.2.2.2.2.1 rfl) rfl hl.1 rfl (Nat.le_of_ble_eq_true rfl) dX5_setDue_58 ⟨(Nat.le_of_ble_eq_true rfl), (Nat.le_of_ble_eq_true rfl)⟩ (fun v G1 H locs hw hP hS => ?_)
            obtain ⟨rfl, hR⟩ := hw
            refine W.eq (g2 := F0 m 61 ls [.int 0]) rfl ?_
            refine lv_if_eq (tgt := 94) hK.1.1 hK.1.2.1 dX5_setDue_61 (by decide) (fun _ => ?_) (fun c => absurd c (by decide))
            exact gk_vret0 hK.1 hret hlk hP hS (Nat.le_of_ble_eq_true rfl) (Nat.le_of_ble_eq_true rfl) dX5_setDue_94 (⟨rfl, Or.inr (Or.inr (⟨rg_out_no hr_7 (by decide), fun h => g_4 h.2.2.2, hR⟩))⟩)
          · refine W.eq (g2 := F0 m 55 ls [.int 0, .ref (ly_a y 5)]) rfl ?_
            refine lv_iload hK.1.1 hK.1.2.1 dX5_setDue_55 (lv_at hl 0 rfl) ?_
            refine lv_iconst (v := 1) hK.1.1 hK.1.2.1 dX5_setDue_57 (by decide) ?_
            refine gk_callV0 (n := 3) (As := [.int 0, .int 0, .int 1]) (rest := []) hK (c_X5_goes l hR (a9 := 0) (b9 := 0) (c9 := 1) (m9 := 1) (x9 := 0) (by decide) (by decide)) (gk_gV q_6_9 q_6_10 q_6_11 q_1_5 q_6_12) ⟨rfl, by decide +kernel, by decide +kernel, by decide +kernel⟩ ⟨(Nat.le_of_ble_eq_true rfl), (Nat.le_of_ble_eq_true rfl)⟩ hP hS (gk_recv hK.2.2.1.1 hP hR.2.2.2.2.2.2.2.2.1 rfl) rfl hl.1 rfl (Nat.le_of_ble_eq_true rfl) dX5_setDue_58 ⟨(Nat.le_of_ble_eq_true rfl), (Nat.le_of_ble_eq_true rfl)⟩ (fun v G1 H locs hw hP hS => ?_)
            obtain ⟨rfl, hR⟩ := hw
            refine W.eq (g2 := F0 m 61 ls [.int 0]) rfl ?_
            refine lv_if_eq (tgt := 94) hK.1.1 hK.1.2.1 dX5_setDue_61 (by decide) (fun _ => ?_) (fun c => absurd c (by decide))
            exact gk_vret0 hK.1 hret hlk hP hS (Nat.le_of_ble_eq_true rfl) (Nat.le_of_ble_eq_true rfl) dX5_setDue_94 (⟨rfl, Or.inr (Or.inl (⟨ho_8, hR⟩))⟩)
      · rw [m_in_f g_3]
        refine W.eq (g2 := F0 m 29 ls [.int 0]) rfl ?_
        refine lv_if_eq (tgt := 47) hK.1.1 hK.1.2.1 dX5_setDue_29 (by decide) (fun _ => ?_) (fun c => absurd c (by decide))
        refine lv_iconst (v := 0) hK.1.1 hK.1.2.1 dX5_setDue_47 (by decide) ?_
        refine lv_istore (lv' := [(6, .int 0), (0, .ref (ly_a y 5)), (1, .int i), (2, .int size), (3, .int wd), (4, .int mo), (5, .int le)]) hK.1.1 hK.1.2.1 dX5_setDue_48 hl (by decide) rfl (fun ls hl => ?_)
        refine lv_aload_n hK.1.1 hK.1.2.1 dX5_setDue_50 rfl (lv_at hl 1 rfl) ?_
        refine lv_iload_n hK.1.1 hK.1.2.1 dX5_setDue_51 rfl (lv_at hl 2 rfl) ?_
        refine gk_callS0 (n := 1) (As := [.int i]) (rest := [.ref (ly_a y 5)]) hK (c_X5_isRule l hR (i := i)) (gk_gS q_6_6 q_6_7 q_1_5 q_6_8) ⟨by decide +kernel, by decide +kernel, by decide +kernel⟩ ⟨(Nat.le_of_ble_eq_true rfl), (Nat.le_of_ble_eq_true rfl)⟩ hP hS rfl hl.1 rfl (Nat.le_of_ble_eq_true rfl) dX5_setDue_52 ⟨(Nat.le_of_ble_eq_true rfl), (Nat.le_of_ble_eq_true rfl)⟩ (fun v G1 H locs hw hP hS => ?_)
        obtain ⟨hw, hG9⟩ := hw
        rw [hG9] at hP
        rcases hw with ⟨r_9, hr_9, rfl, rfl⟩ | ⟨ho_10, rfl⟩
        · refine W.eq (g2 := F0 m 55 ls [.int 1, .ref (ly_a y 5)]) rfl ?_
          refine lv_iload hK.1.1 hK.1.2.1 dX5_setDue_55 (lv_at hl 0 rfl) ?_
          refine lv_iconst (v := 1) hK.1.1 hK.1.2.1 dX5_setDue_57 (by decide) ?_
          refine gk_callV0 (n := 3) (As := [.int 1, .int 0, .int 1]) (rest := []) hK (c_X5_goes l hR (a9 := 1) (b9 := 0) (c9 := 1) (m9 := 2) (x9 := 0) (by decide) (by decide)) (gk_gV q_6_9 q_6_10 q_6_11 q_1_5 q_6_12) ⟨rfl, by decide +kernel, by decide +kernel, by decide +kernel⟩ ⟨(Nat.le_of_ble_eq_true rfl), (Nat.le_of_ble_eq_true rfl)⟩ hP hS (gk_recv hK.2.2.1.1 hP hR.2.2.2.2.2.2.2.2.1 rfl) rfl hl.1 rfl (Nat.le_of_ble_eq_true rfl) dX5_setDue_58 ⟨(Nat.le_of_ble_eq_true rfl), (Nat.le_of_ble_eq_true rfl)⟩ (fun v G1 H locs hw hP hS => ?_)
          obtain ⟨rfl, hR⟩ := hw
          refine W.eq (g2 := F0 m 61 ls [.int 0]) rfl ?_
          refine lv_if_eq (tgt := 94) hK.1.1 hK.1.2.1 dX5_setDue_61 (by decide) (fun _ => ?_) (fun c => absurd c (by decide))
          exact gk_vret0 hK.1 hret hlk hP hS (Nat.le_of_ble_eq_true rfl) (Nat.le_of_ble_eq_true rfl) dX5_setDue_94 (⟨rfl, Or.inr (Or.inr (⟨rg_out_no hr_9 (by decide), fun h => g_3 h.2.2.1, hR⟩))⟩)
        · refine W.eq (g2 := F0 m 55 ls [.int 0, .ref (ly_a y 5)]) rfl ?_
          refine lv_iload hK.1.1 hK.1.2.1 dX5_setDue_55 (lv_at hl 0 rfl) ?_
          refine lv_iconst (v := 1) hK.1.1 hK.1.2.1 dX5_setDue_57 (by decide) ?_
          refine gk_callV0 (n := 3) (As := [.int 0, .int 0, .int 1]) (rest := []) hK (c_X5_goes l hR (a9 := 0) (b9 := 0) (c9 := 1) (m9 := 1) (x9 := 0) (by decide) (by decide)) (gk_gV q_6_9 q_6_10 q_6_11 q_1_5 q_6_12) ⟨rfl, by decide +kernel, by decide +kernel, by decide +kernel⟩ ⟨(Nat.le_of_ble_eq_true rfl), (Nat.le_of_ble_eq_true rfl)⟩ hP hS (gk_recv hK.2.2.1.1 hP hR.2.2.2.2.2.2.2.2.1 rfl) rfl hl.1 rfl (Nat.le_of_ble_eq_true rfl) dX5_setDue_58 ⟨(Nat.le_of_ble_eq_true rfl), (Nat.le_of_ble_eq_true rfl)⟩ (fun v G1 H locs hw hP hS => ?_)
          obtain ⟨rfl, hR⟩ := hw
          refine W.eq (g2 := F0 m 61 ls [.int 0]) rfl ?_
          refine lv_if_eq (tgt := 94) hK.1.1 hK.1.2.1 dX5_setDue_61 (by decide) (fun _ => ?_) (fun c => absurd c (by decide))
          exact gk_vret0 hK.1 hret hlk hP hS (Nat.le_of_ble_eq_true rfl) (Nat.le_of_ble_eq_true rfl) dX5_setDue_94 (⟨rfl, Or.inr (Or.inl (⟨ho_10, hR⟩))⟩)
    · rw [m_in_f g_2]
      refine W.eq (g2 := F0 m 18 ls [.int 0]) rfl ?_
      refine lv_if_eq (tgt := 47) hK.1.1 hK.1.2.1 dX5_setDue_18 (by decide) (fun _ => ?_) (fun c => absurd c (by decide))
      refine lv_iconst (v := 0) hK.1.1 hK.1.2.1 dX5_setDue_47 (by decide) ?_
      refine lv_istore (lv' := [(6, .int 0), (0, .ref (ly_a y 5)), (1, .int i), (2, .int size), (3, .int wd), (4, .int mo), (5, .int le)]) hK.1.1 hK.1.2.1 dX5_setDue_48 hl (by decide) rfl (fun ls hl => ?_)
      refine lv_aload_n hK.1.1 hK.1.2.1 dX5_setDue_50 rfl (lv_at hl 1 rfl) ?_
      refine lv_iload_n hK.1.1 hK.1.2.1 dX5_setDue_51 rfl (lv_at hl 2 rfl) ?_
      refine gk_callS0 (n := 1) (As := [.int i]) (rest := [.ref (ly_a y 5)]) hK (c_X5_isRule l hR (i := i)) (gk_gS q_6_6 q_6_7 q_1_5 q_6_8) ⟨by decide +kernel, by decide +kernel, by decide +kernel⟩ ⟨(Nat.le_of_ble_eq_true rfl), (Nat.le_of_ble_eq_true rfl)⟩ hP hS rfl hl.1 rfl (Nat.le_of_ble_eq_true rfl) dX5_setDue_52 ⟨(Nat.le_of_ble_eq_true rfl), (Nat.le_of_ble_eq_true rfl)⟩ (fun v G1 H locs hw hP hS => ?_)
      obtain ⟨hw, hG9⟩ := hw
      rw [hG9] at hP
      rcases hw with ⟨r_11, hr_11, rfl, rfl⟩ | ⟨ho_12, rfl⟩
      · refine W.eq (g2 := F0 m 55 ls [.int 1, .ref (ly_a y 5)]) rfl ?_
        refine lv_iload hK.1.1 hK.1.2.1 dX5_setDue_55 (lv_at hl 0 rfl) ?_
        refine lv_iconst (v := 1) hK.1.1 hK.1.2.1 dX5_setDue_57 (by decide) ?_
        refine gk_callV0 (n := 3) (As := [.int 1, .int 0, .int 1]) (rest := []) hK (c_X5_goes l hR (a9 := 1) (b9 := 0) (c9 := 1) (m9 := 2) (x9 := 0) (by decide) (by decide)) (gk_gV q_6_9 q_6_10 q_6_11 q_1_5 q_6_12) ⟨rfl, by decide +kernel, by decide +kernel, by decide +kernel⟩ ⟨(Nat.le_of_ble_eq_true rfl), (Nat.le_of_ble_eq_true rfl)⟩ hP hS (gk_recv hK.2.2.1.1 hP hR.2.2.2.2.2.2.2.2.1 rfl) rfl hl.1 rfl (Nat.le_of_ble_eq_true rfl) dX5_setDue_58 ⟨(Nat.le_of_ble_eq_true rfl), (Nat.le_of_ble_eq_true rfl)⟩ (fun v G1 H locs hw hP hS => ?_)
        obtain ⟨rfl, hR⟩ := hw
        refine W.eq (g2 := F0 m 61 ls [.int 0]) rfl ?_
        refine lv_if_eq (tgt := 94) hK.1.1 hK.1.2.1 dX5_setDue_61 (by decide) (fun _ => ?_) (fun c => absurd c (by decide))
        exact gk_vret0 hK.1 hret hlk hP hS (Nat.le_of_ble_eq_true rfl) (Nat.le_of_ble_eq_true rfl) dX5_setDue_94 (⟨rfl, Or.inr (Or.inr (⟨rg_out_no hr_11 (by decide), fun h => g_2 h.2.1, hR⟩))⟩)
      · refine W.eq (g2 := F0 m 55 ls [.int 0, .ref (ly_a y 5)]) rfl ?_
        refine lv_iload hK.1.1 hK.1.2.1 dX5_setDue_55 (lv_at hl 0 rfl) ?_
        refine lv_iconst (v := 1) hK.1.1 hK.1.2.1 dX5_setDue_57 (by decide) ?_
        refine gk_callV0 (n := 3) (As := [.int 0, .int 0, .int 1]) (rest := []) hK (c_X5_goes l hR (a9 := 0) (b9 := 0) (c9 := 1) (m9 := 1) (x9 := 0) (by decide) (by decide)) (gk_gV q_6_9 q_6_10 q_6_11 q_1_5 q_6_12) ⟨rfl, by decide +kernel, by decide +kernel, by decide +kernel⟩ ⟨(Nat.le_of_ble_eq_true rfl), (Nat.le_of_ble_eq_true rfl)⟩ hP hS (gk_recv hK.2.2.1.1 hP hR.2.2.2.2.2.2.2.2.1 rfl) rfl hl.1 rfl (Nat.le_of_ble_eq_true rfl) dX5_setDue_58 ⟨(Nat.le_of_ble_eq_true rfl), (Nat.le_of_ble_eq_true rfl)⟩ (fun v G1 H locs hw hP hS => ?_)
        obtain ⟨rfl, hR⟩ := hw
        refine W.eq (g2 := F0 m 61 ls [.int 0]) rfl ?_
        refine lv_if_eq (tgt := 94) hK.1.1 hK.1.2.1 dX5_setDue_61 (by decide) (fun _ => ?_) (fun c => absurd c (by decide))
        exact gk_vret0 hK.1 hret hlk hP hS (Nat.le_of_ble_eq_true rfl) (Nat.le_of_ble_eq_true rfl) dX5_setDue_94 (⟨rfl, Or.inr (Or.inl (⟨ho_12, hR⟩))⟩)
  · rw [m_in_f g_1]
    refine W.eq (g2 := F0 m 8 ls [.int 0]) rfl ?_
    refine lv_if_eq (tgt := 47) hK.1.1 hK.1.2.1 dX5_setDue_8 (by decide) (fun _ => ?_) (fun c => absurd c (by decide))
    refine lv_iconst (v := 0) hK.1.1 hK.1.2.1 dX5_setDue_47 (by decide) ?_
    refine lv_istore (lv' := [(6, .int 0), (0, .ref (ly_a y 5)), (1, .int i), (2, .int size), (3, .int wd), (4, .int mo), (5, .int le)]) hK.1.1 hK.1.2.1 dX5_setDue_48 hl (by decide) rfl (fun ls hl => ?_)
    refine lv_aload_n hK.1.1 hK.1.2.1 dX5_setDue_50 rfl (lv_at hl 1 rfl) ?_
    refine lv_iload_n hK.1.1 hK.1.2.1 dX5_setDue_51 rfl (lv_at hl 2 rfl) ?_
    refine gk_callS0 (n := 1) (As := [.int i]) (rest := [.ref (ly_a y 5)]) hK (c_X5_isRule l hR (i := i)) (gk_gS q_6_6 q_6_7 q_1_5 q_6_8) ⟨by decide +kernel, by decide +kernel, by decide +kernel⟩ ⟨(Nat.le_of_ble_eq_true rfl), (Nat.le_of_ble_eq_true rfl)⟩ hP hS rfl hl.1 rfl (Nat.le_of_ble_eq_true rfl) dX5_setDue_52 ⟨(Nat.le_of_ble_eq_true rfl), (Nat.le_of_ble_eq_true rfl)⟩ (fun v G1 H locs hw hP hS => ?_)
    obtain ⟨hw, hG9⟩ := hw
    rw [hG9] at hP
    rcases hw with ⟨r_13, hr_13, rfl, rfl⟩ | ⟨ho_14, rfl⟩
    · refine W.eq (g2 := F0 m 55 ls [.int 1, .ref (ly_a y 5)]) rfl ?_
      refine lv_iload hK.1.1 hK.1.2.1 dX5_setDue_55 (lv_at hl 0 rfl) ?_
      refine lv_iconst (v := 1) hK.1.1 hK.1.2.1 dX5_setDue_57 (by decide) ?_
      refine gk_callV0 (n := 3) (As := [.int 1, .int 0, .int 1]) (rest := []) hK (c_X5_goes l hR (a9 := 1) (b9 := 0) (c9 := 1) (m9 := 2) (x9 := 0) (by decide) (by decide)) (gk_gV q_6_9 q_6_10 q_6_11 q_1_5 q_6_12) ⟨rfl, by decide +kernel, by decide +kernel, by decide +kernel⟩ ⟨(Nat.le_of_ble_eq_true rfl), (Nat.le_of_ble_eq_true rfl)⟩ hP hS (gk_recv hK.2.2.1.1 hP hR.2.2.2.2.2.2.2.2.1 rfl) rfl hl.1 rfl (Nat.le_of_ble_eq_true rfl) dX5_setDue_58 ⟨(Nat.le_of_ble_eq_true rfl), (Nat.le_of_ble_eq_true rfl)⟩ (fun v G1 H locs hw hP hS => ?_)
      obtain ⟨rfl, hR⟩ := hw
      refine W.eq (g2 := F0 m 61 ls [.int 0]) rfl ?_
      refine lv_if_eq (tgt := 94) hK.1.1 hK.1.2.1 dX5_setDue_61 (by decide) (fun _ => ?_) (fun c => absurd c (by decide))
      exact gk_vret0 hK.1 hret hlk hP hS (Nat.le_of_ble_eq_true rfl) (Nat.le_of_ble_eq_true rfl) dX5_setDue_94 (⟨rfl, Or.inr (Or.inr (⟨rg_out_no hr_13 (by decide), fun h => g_1 h.1, hR⟩))⟩)
    · refine W.eq (g2 := F0 m 55 ls [.int 0, .ref (ly_a y 5)]) rfl ?_
      refine lv_iload hK.1.1 hK.1.2.1 dX5_setDue_55 (lv_at hl 0 rfl) ?_
      refine lv_iconst (v := 1) hK.1.1 hK.1.2.1 dX5_setDue_57 (by decide) ?_
      refine gk_callV0 (n := 3) (As := [.int 0, .int 0, .int 1]) (rest := []) hK (c_X5_goes l hR (a9 := 0) (b9 := 0) (c9 := 1) (m9 := 1) (x9 := 0) (by decide) (by decide)) (gk_gV q_6_9 q_6_10 q_6_11 q_1_5 q_6_12) ⟨rfl, by decide +kernel, by decide +kernel, by decide +kernel⟩ ⟨(Nat.le_of_ble_eq_true rfl), (Nat.le_of_ble_eq_true rfl)⟩ hP hS (gk_recv hK.2.2.1.1 hP hR.2.2.2.2.2.2.2.2.1 rfl) rfl hl.1 rfl (Nat.le_of_ble_eq_true rfl) dX5_setDue_58 ⟨(Nat.le_of_ble_eq_true rfl), (Nat.le_of_ble_eq_true rfl)⟩ (fun v G1 H locs hw hP hS => ?_)
      obtain ⟨rfl, hR⟩ := hw
      refine W.eq (g2 := F0 m 61 ls [.int 0]) rfl ?_
      refine lv_if_eq (tgt := 94) hK.1.1 hK.1.2.1 dX5_setDue_61 (by decide) (fun _ => ?_) (fun c => absurd c (by decide))
      exact gk_vret0 hK.1 hret hlk hP hS (Nat.le_of_ble_eq_true rfl) (Nat.le_of_ble_eq_true rfl) dX5_setDue_94 (⟨rfl, Or.inr (Or.inl (⟨ho_14, hR⟩))⟩)
set_option maxHeartbeats 4000000 in
set_option maxRecDepth 100000 in
theorem c_X5_setOld (l : Launch) {y : ly_T} {A : Nat → Prop} {G : gk_G} {td : Int32} {ru : Nat → Nat → Int32} {fr lv : Nat → Nat} {lt et tl : Nat → Int32} {hf hp : Nat → Option Nat} {ol : Nat → List Nat} {PS : Nat → Prop} {pf : Nat → Nat → Int32} {ov : Int64} {md mq mt : Int32} {mv : Nat → Nat → Int32} {i kp gr b1 b2 b3 : Int32}  (hR : rp y G td ru fr lv lt et tl hf hp ol PS pf ov md mq mt mv) (hb1 : b1 = 0 ∨ b1 = 1) (hb2 : b2 = 0 ∨ b2 = 1) (hb3 : b3 = 0 ∨ b3 = 1) : gk_M0 l yX5_setOld (Cond.code yX5_setOld cX5_setOld 7 none) 3 90 0 0 y A [.ref (ly_a y 5), .int i, .int kp, .int gr, .int b1, .int b2, .int b3] G (fun v G1 => v = none ∧ ((∃ r, r < 3 ∧ i = nI r ∧ (rg_in kp 0 10 ∧ rg_in gr 0 1000) ∧ rp y G1 td ru fr lv lt et tl hf hp ol PS pf ov md mq 0 (rp_u2 (rp_u2 (rp_u2 (rp_u2 (rp_u2 mv 4 r kp) 5 r gr) 6 r b1) 7 r b2) 8 r b3)) ∨ (rg_out i 3 ∧ rp y G1 td ru fr lv lt et tl hf hp ol PS pf ov md mq 1 mv) ∨ (¬ rg_out i 3 ∧ ¬ (rg_in kp 0 10 ∧ rg_in gr 0 1000) ∧ rp y G1 td ru fr lv lt et tl hf hp ol PS pf ov md mq 2 mv))) := by
  refine gk_of0 (cc := cX5_setOld) (maxL := 7) (ret := none) (own := RX5) (by decide +kernel) rfl rfl (Nat.le_of_ble_eq_true rfl) ?_
  intro p e s m below meth c ls hK hret hlk _ hP hS hl
  have hl : lv_has ls 7 [(0, .ref (ly_a y 5)), (1, .int i), (2, .int kp), (3, .int gr), (4, .int b1), (5, .int b2), (6, .int b3)] := hl
  refine lv_aload_n hK.1.1 hK.1.2.1 dX5_setOld_0 rfl (lv_at hl 0 rfl) ?_
  refine lv_iload_n hK.1.1 hK.1.2.1 dX5_setOld_1 rfl (lv_at hl 1 rfl) ?_
  refine gk_callS0 (n := 1) (As := [.int i]) (rest := [.ref (ly_a y 5)]) hK (c_X5_isRule l hR (i := i)) (gk_gS q_6_6 q_6_7 q_1_5 q_6_8) ⟨by decide +kernel, by decide +kernel, by decide +kernel⟩ ⟨(Nat.le_of_ble_eq_true rfl), (Nat.le_of_ble_eq_true rfl)⟩ hP hS rfl hl.1 rfl (Nat.le_of_ble_eq_true rfl) dX5_setOld_2 ⟨(Nat.le_of_ble_eq_true rfl), (Nat.le_of_ble_eq_true rfl)⟩ (fun v G1 H locs hw hP hS => ?_)
  obtain ⟨hw, hG9⟩ := hw
  rw [hG9] at hP
  rcases hw with ⟨r_1, hr_1, rfl, rfl⟩ | ⟨ho_2, rfl⟩
  · refine W.eq (g2 := F0 m 5 ls [.int 1, .ref (ly_a y 5)]) rfl ?_
    refine lv_iload_n hK.1.1 hK.1.2.1 dX5_setOld_5 rfl (lv_at hl 2 rfl) ?_
    refine lv_iconst (v := 0) hK.1.1 hK.1.2.1 dX5_setOld_6 (by decide) ?_
    refine lv_bipush (v := 10) hK.1.1 hK.1.2.1 dX5_setOld_7 (by decide) ?_
    refine gk_callS0 (n := 3) (As := [.int kp, .int 0, .int 10]) (rest := [.int 1, .ref (ly_a y 5)]) hK (c_X5_in l hR (x9 := kp) (a9 := 0) (b9 := 10)) (gk_gS q_6_3 q_6_4 q_1_5 q_6_5) ⟨by decide +kernel, by decide +kernel, by decide +kernel⟩ ⟨(Nat.le_of_ble_eq_true rfl), (Nat.le_of_ble_eq_true rfl)⟩ hP hS rfl hl.1 rfl (Nat.le_of_ble_eq_true rfl) dX5_setOld_9 ⟨(Nat.le_of_ble_eq_true rfl), (Nat.le_of_ble_eq_true rfl)⟩ (fun v G1 H locs hw hP hS => ?_)
    obtain ⟨rfl, hG9⟩ := hw
    rw [hG9] at hP
    by_cases g_3 : rg_in kp 0 10
    · rw [m_in_t g_3]
      refine W.eq (g2 := F0 m 12 ls [.int 1, .int 1, .ref (ly_a y 5)]) rfl ?_
      refine lv_if_eq (tgt := 30) hK.1.1 hK.1.2.1 dX5_setOld_12 (by decide) (fun c => absurd c (by decide)) (fun _ => ?_)
      refine lv_iload_n hK.1.1 hK.1.2.1 dX5_setOld_15 rfl (lv_at hl 3 rfl) ?_
      refine lv_iconst (v := 0) hK.1.1 hK.1.2.1 dX5_setOld_16 (by decide) ?_
      refine lv_sipush (v := 1000) hK.1.1 hK.1.2.1 dX5_setOld_17 (by decide) ?_
      refine gk_callS0 (n := 3) (As := [.int gr, .int 0, .int 1000]) (rest := [.int 1, .ref (ly_a y 5)]) hK (c_X5_in l hR (x9 := gr) (a9 := 0) (b9 := 1000)) (gk_gS q_6_3 q_6_4 q_1_5 q_6_5) ⟨by decide +kernel, by decide +kernel, by decide +kernel⟩ ⟨(Nat.le_of_ble_eq_true rfl), (Nat.le_of_ble_eq_true rfl)⟩ hP hS rfl hl.1 rfl (Nat.le_of_ble_eq_true rfl) dX5_setOld_20 ⟨(Nat.le_of_ble_eq_true rfl), (Nat.le_of_ble_eq_true rfl)⟩ (fun v G1 H locs hw hP hS => ?_)
      obtain ⟨rfl, hG9⟩ := hw
      rw [hG9] at hP
      by_cases g_4 : rg_in gr 0 1000
      · rw [m_in_t g_4]
        refine W.eq (g2 := F0 m 23 ls [.int 1, .int 1, .ref (ly_a y 5)]) rfl ?_
        refine lv_if_eq (tgt := 30) hK.1.1 hK.1.2.1 dX5_setOld_23 (by decide) (fun c => absurd c (by decide)) (fun _ => ?_)
        refine lv_iconst (v := 1) hK.1.1 hK.1.2.1 dX5_setOld_26 (by decide) ?_
        refine lv_goto (tgt := 31) hK.1.1 hK.1.2.1 dX5_setOld_27 (by decide) ?_
        refine lv_iconst (v := 1) hK.1.1 hK.1.2.1 dX5_setOld_31 (by decide) ?_
        refine gk_callV0 (n := 3) (As := [.int 1, .int 1, .int 1]) (rest := []) hK (c_X5_goes l hR (a9 := 1) (b9 := 1) (c9 := 1) (m9 := 0) (x9 := 1) (by decide) (by decide)) (gk_gV q_6_9 q_6_10 q_6_11 q_1_5 q_6_12) ⟨rfl, by decide +kernel, by decide +kernel, by decide +kernel⟩ ⟨(Nat.le_of_ble_eq_true rfl), (Nat.le_of_ble_eq_true rfl)⟩ hP hS (gk_recv hK.2.2.1.1 hP hR.2.2.2.2.2.2.2.2.1 rfl) rfl hl.1 rfl (Nat.le_of_ble_eq_true rfl) dX5_setOld_32 ⟨(Nat.le_of_ble_eq_true rfl), (Nat.le_of_ble_eq_true rfl)⟩ (fun v G1 H locs hw hP hS => ?_)
        obtain ⟨rfl, hR⟩ := hw
        refine W.eq (g2 := F0 m 35 ls [.int 1]) rfl ?_
        refine lv_if_eq (tgt := 76) hK.1.1 hK.1.2.1 dX5_setOld_35 (by decide) (fun c => absurd c (by decide)) (fun _ => ?_)
        refine lv_aload_n hK.1.1 hK.1.2.1 dX5_setOld_38 rfl (lv_at hl 0 rfl) ?_
        refine mr_22 hK hP hR dX5_setOld_39 ?_
        refine lv_iload_n hK.1.1 hK.1.2.1 dX5_setOld_42 rfl (lv_at hl 1 rfl) ?_
        refine lv_iload_n hK.1.1 hK.1.2.1 dX5_setOld_43 rfl (lv_at hl 2 rfl) ?_
        refine mw_ist hK hP hS hR 4 (by decide) rfl (j := r_1) hr_1 dX5_setOld_44 (fun H locs G hP hS hR => ?_)
        refine lv_aload_n hK.1.1 hK.1.2.1 dX5_setOld_45 rfl (lv_at hl 0 rfl) ?_
        refine mr_25 hK hP hR dX5_setOld_46 ?_
        refine lv_iload_n hK.1.1 hK.1.2.1 dX5_setOld_49 rfl (lv_at hl 1 rfl) ?_
        refine lv_iload_n hK.1.1 hK.1.2.1 dX5_setOld_50 rfl (lv_at hl 3 rfl) ?_
        refine mw_ist hK hP hS hR 5 (by decide) rfl (j := r_1) hr_1 dX5_setOld_51 (fun H locs G hP hS hR => ?_)
        refine lv_aload_n hK.1.1 hK.1.2.1 dX5_setOld_52 rfl (lv_at hl 0 rfl) ?_
        refine mr_28 hK hP hR dX5_setOld_53 ?_
        refine lv_iload_n hK.1.1 hK.1.2.1 dX5_setOld_56 rfl (lv_at hl 1 rfl) ?_
        refine lv_iload hK.1.1 hK.1.2.1 dX5_setOld_57 (lv_at hl 4 rfl) ?_
        refine mw_zst hK hP hS hR 6 (by decide) rfl (j := r_1) hr_1 hb1 dX5_setOld_59 (fun H locs G hP hS hR => ?_)
        refine lv_aload_n hK.1.1 hK.1.2.1 dX5_setOld_60 rfl (lv_at hl 0 rfl) ?_
        refine mr_32 hK hP hR dX5_setOld_61 ?_
        refine lv_iload_n hK.1.1 hK.1.2.1 dX5_setOld_64 rfl (lv_at hl 1 rfl) ?_
        refine lv_iload hK.1.1 hK.1.2.1 dX5_setOld_65 (lv_at hl 5 rfl) ?_
        refine mw_zst hK hP hS hR 7 (by decide) rfl (j := r_1) hr_1 hb2 dX5_setOld_67 (fun H locs G hP hS hR => ?_)
        refine lv_aload_n hK.1.1 hK.1.2.1 dX5_setOld_68 rfl (lv_at hl 0 rfl) ?_
        refine mr_35 hK hP hR dX5_setOld_69 ?_
        refine lv_iload_n hK.1.1 hK.1.2.1 dX5_setOld_72 rfl (lv_at hl 1 rfl) ?_
        refine lv_iload hK.1.1 hK.1.2.1 dX5_setOld_73 (lv_at hl 6 rfl) ?_
        refine mw_zst hK hP hS hR 8 (by decide) rfl (j := r_1) hr_1 hb3 dX5_setOld_75 (fun H locs G hP hS hR => ?_)
        exact gk_vret0 hK.1 hret hlk hP hS (Nat.le_of_ble_eq_true rfl) (Nat.le_of_ble_eq_true rfl) dX5_setOld_76 (⟨rfl, Or.inl (⟨r_1, hr_1, rfl, ⟨g_3, g_4⟩, hR⟩)⟩)
      · rw [m_in_f g_4]
        refine W.eq (g2 := F0 m 23 ls [.int 0, .int 1, .ref (ly_a y 5)]) rfl ?_
        refine lv_if_eq (tgt := 30) hK.1.1 hK.1.2.1 dX5_setOld_23 (by decide) (fun _ => ?_) (fun c => absurd c (by decide))
        refine lv_iconst (v := 0) hK.1.1 hK.1.2.1 dX5_setOld_30 (by decide) ?_
        refine lv_iconst (v := 1) hK.1.1 hK.1.2.1 dX5_setOld_31 (by decide) ?_
        refine gk_callV0 (n := 3) (As := [.int 1, .int 0, .int 1]) (rest := []) hK (c_X5_goes l hR (a9 := 1) (b9 := 0) (c9 := 1) (m9 := 2) (x9 := 0) (by decide) (by decide)) (gk_gV q_6_9 q_6_10 q_6_11 q_1_5 q_6_12) ⟨rfl, by decide +kernel, by decide +kernel, by decide +kernel⟩ ⟨(Nat.le_of_ble_eq_true rfl), (Nat.le_of_ble_eq_true rfl)⟩ hP hS (gk_recv hK.2.2.1.1 hP hR.2.2.2.2.2.2.2.2.1 rfl) rfl hl.1 rfl (Nat.le_of_ble_eq_true rfl) dX5_setOld_32 ⟨(Nat.le_of_ble_eq_true rfl), (Nat.le_of_ble_eq_true rfl)⟩ (fun v G1 H locs hw hP hS => ?_)
        obtain ⟨rfl, hR⟩ := hw
        refine W.eq (g2 := F0 m 35 ls [.int 0]) rfl ?_
        refine lv_if_eq (tgt := 76) hK.1.1 hK.1.2.1 dX5_setOld_35 (by decide) (fun _ => ?_) (fun c => absurd c (by decide))
        exact gk_vret0 hK.1 hret hlk hP hS (Nat.le_of_ble_eq_true rfl) (Nat.le_of_ble_eq_true rfl) dX5_setOld_76 (⟨rfl, Or.inr (Or.inr (⟨rg_out_no hr_1 (by decide), fun h => g_4 h.2, hR⟩))⟩)
    · rw [m_in_f g_3]
      refine W.eq (g2 := F0 m 12 ls [.int 0, .int 1, .ref (ly_a y 5)]) rfl ?_
      refine lv_if_eq (tgt := 30) hK.1.1 hK.1.2.1 dX5_setOld_12 (by decide) (fun _ => ?_) (fun c => absurd c (by decide))
      refine lv_iconst (v := 0) hK.1.1 hK.1.2.1 dX5_setOld_30 (by decide) ?_
      refine lv_iconst (v := 1) hK.1.1 hK.1.2.1 dX5_setOld_31 (by decide) ?_
      refine gk_callV0 (n := 3) (As := [.int 1, .int 0, .int 1]) (rest := []) hK (c_X5_goes l hR (a9 := 1) (b9 := 0) (c9 := 1) (m9 := 2) (x9 := 0) (by decide) (by decide)) (gk_gV q_6_9 q_6_10 q_6_11 q_1_5 q_6_12) ⟨rfl, by decide +kernel, by decide +kernel, by decide +kernel⟩ ⟨(Nat.le_of_ble_eq_true rfl), (Nat.le_of_ble_eq_true rfl)⟩ hP hS (gk_recv hK.2.2.1.1 hP hR.2.2.2.2.2.2.2.2.1 rfl) rfl hl.1 rfl (Nat.le_of_ble_eq_true rfl) dX5_setOld_32 ⟨(Nat.le_of_ble_eq_true rfl), (Nat.le_of_ble_eq_true rfl)⟩ (fun v G1 H locs hw hP hS => ?_)
      obtain ⟨rfl, hR⟩ := hw
      refine W.eq (g2 := F0 m 35 ls [.int 0]) rfl ?_
      refine lv_if_eq (tgt := 76) hK.1.1 hK.1.2.1 dX5_setOld_35 (by decide) (fun _ => ?_) (fun c => absurd c (by decide))
      exact gk_vret0 hK.1 hret hlk hP hS (Nat.le_of_ble_eq_true rfl) (Nat.le_of_ble_eq_true rfl) dX5_setOld_76 (⟨rfl, Or.inr (Or.inr (⟨rg_out_no hr_1 (by decide), fun h => g_3 h.1, hR⟩))⟩)
  · refine W.eq (g2 := F0 m 5 ls [.int 0, .ref (ly_a y 5)]) rfl ?_
    refine lv_iload_n hK.1.1 hK.1.2.1 dX5_setOld_5 rfl (lv_at hl 2 rfl) ?_
    refine lv_iconst (v := 0) hK.1.1 hK.1.2.1 dX5_setOld_6 (by decide) ?_
    refine lv_bipush (v := 10) hK.1.1 hK.1.2.1 dX5_setOld_7 (by decide) ?_
    refine gk_callS0 (n := 3) (As := [.int kp, .int 0, .int 10]) (rest := [.int 0, .ref (ly_a y 5)]) hK (c_X5_in l hR (x9 := kp) (a9 := 0) (b9 := 10)) (gk_gS q_6_3 q_6_4 q_1_5 q_6_5) ⟨by decide +kernel, by decide +kernel, by decide +kernel⟩ ⟨(Nat.le_of_ble_eq_true rfl), (Nat.le_of_ble_eq_true rfl)⟩ hP hS rfl hl.1 rfl (Nat.le_of_ble_eq_true rfl) dX5_setOld_9 ⟨(Nat.le_of_ble_eq_true rfl), (Nat.le_of_ble_eq_true rfl)⟩ (fun v G1 H locs hw hP hS => ?_)
    obtain ⟨rfl, hG9⟩ := hw
    rw [hG9] at hP
    by_cases g_5 : rg_in kp 0 10
    · rw [m_in_t g_5]
      refine W.eq (g2 := F0 m 12 ls [.int 1, .int 0, .ref (ly_a y 5)]) rfl ?_
      refine lv_if_eq (tgt := 30) hK.1.1 hK.1.2.1 dX5_setOld_12 (by decide) (fun c => absurd c (by decide)) (fun _ => ?_)
      refine lv_iload_n hK.1.1 hK.1.2.1 dX5_setOld_15 rfl (lv_at hl 3 rfl) ?_
      refine lv_iconst (v := 0) hK.1.1 hK.1.2.1 dX5_setOld_16 (by decide) ?_
      refine lv_sipush (v := 1000) hK.1.1 hK.1.2.1 dX5_setOld_17 (by decide) ?_
      refine gk_callS0 (n := 3) (As := [.int gr, .int 0, .int 1000]) (rest := [.int 0, .ref (ly_a y 5)]) hK (c_X5_in l hR (x9 := gr) (a9 := 0) (b9 := 1000)) (gk_gS q_6_3 q_6_4 q_1_5 q_6_5) ⟨by decide +kernel, by decide +kernel, by decide +kernel⟩ ⟨(Nat.le_of_ble_eq_true rfl), (Nat.le_of_ble_eq_true rfl)⟩ hP hS rfl hl.1 rfl (Nat.le_of_ble_eq_true rfl) dX5_setOld_20 ⟨(Nat.le_of_ble_eq_true rfl), (Nat.le_of_ble_eq_true rfl)⟩ (fun v G1 H locs hw hP hS => ?_)
      obtain ⟨rfl, hG9⟩ := hw
      rw [hG9] at hP
      by_cases g_6 : rg_in gr 0 1000
      · rw [m_in_t g_6]
        refine W.eq (g2 := F0 m 23 ls [.int 1, .int 0, .ref (ly_a y 5)]) rfl ?_
        refine lv_if_eq (tgt := 30) hK.1.1 hK.1.2.1 dX5_setOld_23 (by decide) (fun c => absurd c (by decide)) (fun _ => ?_)
        refine lv_iconst (v := 1) hK.1.1 hK.1.2.1 dX5_setOld_26 (by decide) ?_
        refine lv_goto (tgt := 31) hK.1.1 hK.1.2.1 dX5_setOld_27 (by decide) ?_
        refine lv_iconst (v := 1) hK.1.1 hK.1.2.1 dX5_setOld_31 (by decide) ?_
        refine gk_callV0 (n := 3) (As := [.int 0, .int 1, .int 1]) (rest := []) hK (c_X5_goes l hR (a9 := 0) (b9 := 1) (c9 := 1) (m9 := 1) (x9 := 0) (by decide) (by decide)) (gk_gV q_6_9 q_6_10 q_6_11 q_1_5 q_6_12) ⟨rfl, by decide +kernel, by decide +kernel, by decide +kernel⟩ ⟨(Nat.le_of_ble_eq_true rfl), (Nat.le_of_ble_eq_true rfl)⟩ hP hS (gk_recv hK.2.2.1.1 hP hR.2.2.2.2.2.2.2.2.1 rfl) rfl hl.1 rfl (Nat.le_of_ble_eq_true rfl) dX5_setOld_32 ⟨(Nat.le_of_ble_eq_true rfl), (Nat.le_of_ble_eq_true rfl)⟩ (fun v G1 H locs hw hP hS => ?_)
        obtain ⟨rfl, hR⟩ := hw
        refine W.eq (g2 := F0 m 35 ls [.int 0]) rfl ?_
        refine lv_if_eq (tgt := 76) hK.1.1 hK.1.2.1 dX5_setOld_35 (by decide) (fun _ => ?_) (fun c => absurd c (by decide))
        exact gk_vret0 hK.1 hret hlk hP hS (Nat.le_of_ble_eq_true rfl) (Nat.le_of_ble_eq_true rfl) dX5_setOld_76 (⟨rfl, Or.inr (Or.inl (⟨ho_2, hR⟩))⟩)
      · rw [m_in_f g_6]
        refine W.eq (g2 := F0 m 23 ls [.int 0, .int 0, .ref (ly_a y 5)]) rfl ?_
        refine lv_if_eq (tgt := 30) hK.1.1 hK.1.2.1 dX5_setOld_23 (by decide) (fun _ => ?_) (fun c => absurd c (by decide))
        refine lv_iconst (v := 0) hK.1.1 hK.1.2.1 dX5_setOld_30 (by decide) ?_
        refine lv_iconst (v := 1) hK.1.1 hK.1.2.1 dX5_setOld_31 (by decide) ?_
        refine gk_callV0 (n := 3) (As := [.int 0, .int 0, .int 1]) (rest := []) hK (c_X5_goes l hR (a9 := 0) (b9 := 0) (c9 := 1) (m9 := 1) (x9 := 0) (by decide) (by decide)) (gk_gV q_6_9 q_6_10 q_6_11 q_1_5 q_6_12) ⟨rfl, by decide +kernel, by decide +kernel, by decide +kernel⟩ ⟨(Nat.le_of_ble_eq_true rfl), (Nat.le_of_ble_eq_true rfl)⟩ hP hS (gk_recv hK.2.2.1.1 hP hR.2.2.2.2.2.2.2.2.1 rfl) rfl hl.1 rfl (Nat.le_of_ble_eq_true rfl) dX5_setOld_32 ⟨(Nat.le_of_ble_eq_true rfl), (Nat.le_of_ble_eq_true rfl)⟩ (fun v G1 H locs hw hP hS => ?_)
        obtain ⟨rfl, hR⟩ := hw
        refine W.eq (g2 := F0 m 35 ls [.int 0]) rfl ?_
        refine lv_if_eq (tgt := 76) hK.1.1 hK.1.2.1 dX5_setOld_35 (by decide) (fun _ => ?_) (fun c => absurd c (by decide))
        exact gk_vret0 hK.1 hret hlk hP hS (Nat.le_of_ble_eq_true rfl) (Nat.le_of_ble_eq_true rfl) dX5_setOld_76 (⟨rfl, Or.inr (Or.inl (⟨ho_2, hR⟩))⟩)
    · rw [m_in_f g_5]
      refine W.eq (g2 := F0 m 12 ls [.int 0, .int 0, .ref (ly_a y 5)]) rfl ?_
      refine lv_if_eq (tgt := 30) hK.1.1 hK.1.2.1 dX5_setOld_12 (by decide) (fun _ => ?_) (fun c => absurd c (by decide))
      refine lv_iconst (v := 0) hK.1.1 hK.1.2.1 dX5_setOld_30 (by decide) ?_
      refine lv_iconst (v := 1) hK.1.1 hK.1.2.1 dX5_setOld_31 (by decide) ?_
      refine gk_callV0 (n := 3) (As := [.int 0, .int 0, .int 1]) (rest := []) hK (c_X5_goes l hR (a9 := 0) (b9 := 0) (c9 := 1) (m9 := 1) (x9 := 0) (by decide) (by decide)) (gk_gV q_6_9 q_6_10 q_6_11 q_1_5 q_6_12) ⟨rfl, by decide +kernel, by decide +kernel, by decide +kernel⟩ ⟨(Nat.le_of_ble_eq_true rfl), (Nat.le_of_ble_eq_true rfl)⟩ hP hS (gk_recv hK.2.2.1.1 hP hR.2.2.2.2.2.2.2.2.1 rfl) rfl hl.1 rfl (Nat.le_of_ble_eq_true rfl) dX5_setOld_32 ⟨(Nat.le_of_ble_eq_true rfl), (Nat.le_of_ble_eq_true rfl)⟩ (fun v G1 H locs hw hP hS => ?_)
      obtain ⟨rfl, hR⟩ := hw
      refine W.eq (g2 := F0 m 35 ls [.int 0]) rfl ?_
      refine lv_if_eq (tgt := 76) hK.1.1 hK.1.2.1 dX5_setOld_35 (by decide) (fun _ => ?_) (fun c => absurd c (by decide))
      exact gk_vret0 hK.1 hret hlk hP hS (Nat.le_of_ble_eq_true rfl) (Nat.le_of_ble_eq_true rfl) dX5_setOld_76 (⟨rfl, Or.inr (Or.inl (⟨ho_2, hR⟩))⟩)
set_option maxHeartbeats 4000000 in
set_option maxRecDepth 100000 in
theorem c_X5_give (l : Launch) {y : ly_T} {A : Nat → Prop} {G : gk_G} {td : Int32} {ru : Nat → Nat → Int32} {fr lv : Nat → Nat} {lt et tl : Nat → Int32} {hf hp : Nat → Option Nat} {ol : Nat → List Nat} {PS : Nat → Prop} {pf : Nat → Nat → Int32} {ov : Int64} {md mq mt : Int32} {mv : Nat → Nat → Int32} {i j : Int32}  (hR : rp y G td ru fr lv lt et tl hf hp ol PS pf ov md mq mt mv) : gk_M0 l yX5_give (Cond.code yX5_give cX5_give 4 (some .int)) 3 90 0 0 y A [.ref (ly_a y 5), .int i, .int j] G (fun v G1 => (∃ f r, f < 5 ∧ r < 3 ∧ i = nI f ∧ j = nI r ∧ v = some (.int (mv 9 f)) ∧ rp y G1 td ru fr lv lt et tl hf hp ol PS pf ov md mq 0 (rp_u2 mv 9 f (nI r))) ∨ ((rg_out i 5 ∨ rg_out j 3) ∧ (∃ x, v = some (.int x)) ∧ rp y G1 td ru fr lv lt et tl hf hp ol PS pf ov md mq 1 mv)) := by
  refine gk_of0 (cc := cX5_give) (maxL := 4) (ret := (some .int)) (own := RX5) (by decide +kernel) rfl rfl (Nat.le_of_ble_eq_true rfl) ?_
  intro p e s m below meth c ls hK hret hlk _ hP hS hl
  have hl : lv_has ls 4 [(0, .ref (ly_a y 5)), (1, .int i), (2, .int j)] := hl
  refine lv_aload_n hK.1.1 hK.1.2.1 dX5_give_0 rfl (lv_at hl 0 rfl) ?_
  refine lv_iload_n hK.1.1 hK.1.2.1 dX5_give_1 rfl (lv_at hl 1 rfl) ?_
  refine gk_callS0 (n := 1) (As := [.int i]) (rest := [.ref (ly_a y 5)]) hK (c_X5_isFile l hR (i := i)) (gk_gS q_8_3 q_8_4 q_1_5 q_8_5) ⟨by decide +kernel, by decide +kernel, by decide +kernel⟩ ⟨(Nat.le_of_ble_eq_true rfl), (Nat.le_of_ble_eq_true rfl)⟩ hP hS rfl hl.1 rfl (Nat.le_of_ble_eq_true rfl) dX5_give_2 ⟨(Nat.le_of_ble_eq_true rfl), (Nat.le_of_ble_eq_true rfl)⟩ (fun v G1 H locs hw hP hS => ?_)
  obtain ⟨hw, hG9⟩ := hw
  rw [hG9] at hP
  rcases hw with ⟨f_1, hf_1, rfl, rfl⟩ | ⟨ho_2, rfl⟩
  · refine W.eq (g2 := F0 m 5 ls [.int 1, .ref (ly_a y 5)]) rfl ?_
    refine lv_if_eq (tgt := 19) hK.1.1 hK.1.2.1 dX5_give_5 (by decide) (fun c => absurd c (by decide)) (fun _ => ?_)
    refine lv_iload_n hK.1.1 hK.1.2.1 dX5_give_8 rfl (lv_at hl 2 rfl) ?_
    refine gk_callS0 (n := 1) (As := [.int j]) (rest := [.ref (ly_a y 5)]) hK (c_X5_isRule l hR (i := j)) (gk_gS q_6_6 q_6_7 q_1_5 q_6_8) ⟨by decide +kernel, by decide +kernel, by decide +kernel⟩ ⟨(Nat.le_of_ble_eq_true rfl), (Nat.le_of_ble_eq_true rfl)⟩ hP hS rfl hl.1 rfl (Nat.le_of_ble_eq_true rfl) dX5_give_9 ⟨(Nat.le_of_ble_eq_true rfl), (Nat.le_of_ble_eq_true rfl)⟩ (fun v G1 H locs hw hP hS => ?_)
    obtain ⟨hw, hG9⟩ := hw
    rw [hG9] at hP
    rcases hw with ⟨r_3, hr_3, rfl, rfl⟩ | ⟨ho_4, rfl⟩
    · refine W.eq (g2 := F0 m 12 ls [.int 1, .ref (ly_a y 5)]) rfl ?_
      refine lv_if_eq (tgt := 19) hK.1.1 hK.1.2.1 dX5_give_12 (by decide) (fun c => absurd c (by decide)) (fun _ => ?_)
      refine lv_iconst (v := 1) hK.1.1 hK.1.2.1 dX5_give_15 (by decide) ?_
      refine lv_goto (tgt := 20) hK.1.1 hK.1.2.1 dX5_give_16 (by decide) ?_
      refine lv_iconst (v := 1) hK.1.1 hK.1.2.1 dX5_give_20 (by decide) ?_
      refine lv_iconst (v := 1) hK.1.1 hK.1.2.1 dX5_give_21 (by decide) ?_
      refine gk_callV0 (n := 3) (As := [.int 1, .int 1, .int 1]) (rest := []) hK (c_X5_goes l hR (a9 := 1) (b9 := 1) (c9 := 1) (m9 := 0) (x9 := 1) (by decide) (by decide)) (gk_gV q_6_9 q_6_10 q_6_11 q_1_5 q_6_12) ⟨rfl, by decide +kernel, by decide +kernel, by decide +kernel⟩ ⟨(Nat.le_of_ble_eq_true rfl), (Nat.le_of_ble_eq_true rfl)⟩ hP hS (gk_recv hK.2.2.1.1 hP hR.2.2.2.2.2.2.2.2.1 rfl) rfl hl.1 rfl (Nat.le_of_ble_eq_true rfl) dX5_give_22 ⟨(Nat.le_of_ble_eq_true rfl), (Nat.le_of_ble_eq_true rfl)⟩ (fun v G1 H locs hw hP hS => ?_)
      obtain ⟨rfl, hR⟩ := hw
      refine W.eq (g2 := F0 m 25 ls [.int 1]) rfl ?_
      refine lv_if_ne (tgt := 30) hK.1.1 hK.1.2.1 dX5_give_25 (by decide) (fun _ => ?_) (fun c => absurd c (by decide))
      refine lv_aload_n hK.1.1 hK.1.2.1 dX5_give_30 rfl (lv_at hl 0 rfl) ?_
      refine mr_38 hK hP hR dX5_give_31 ?_
      refine lv_iload_n hK.1.1 hK.1.2.1 dX5_give_34 rfl (lv_at hl 1 rfl) ?_
      refine mr_ild hK hP hR 9 (by decide) rfl (j := f_1) hf_1 dX5_give_35 ?_
      refine lv_istore_n (lv' := [(3, .int (mv 9 f_1)), (0, .ref (ly_a y 5)), (1, .int (nI f_1)), (2, .int (nI r_3))]) hK.1.1 hK.1.2.1 dX5_give_36 rfl hl (by decide) rfl (fun ls hl => ?_)
      refine lv_aload_n hK.1.1 hK.1.2.1 dX5_give_37 rfl (lv_at hl 1 rfl) ?_
      refine mr_38 hK hP hR dX5_give_38 ?_
      refine lv_iload_n hK.1.1 hK.1.2.1 dX5_give_41 rfl (lv_at hl 2 rfl) ?_
      refine lv_iload_n hK.1.1 hK.1.2.1 dX5_give_42 rfl (lv_at hl 3 rfl) ?_
      refine mw_ist hK hP hS hR 9 (by decide) rfl (j := f_1) hf_1 dX5_give_43 (fun H locs G hP hS hR => ?_)
      refine lv_iload_n hK.1.1 hK.1.2.1 dX5_give_44 rfl (lv_at hl 0 rfl) ?_
      exact gk_iret0 hK.1 hret hlk hP hS (Nat.le_of_ble_eq_true rfl) (Nat.le_of_ble_eq_true rfl) dX5_give_45 (Or.inl ⟨f_1, r_3, hf_1, hr_3, rfl, rfl, rfl, hR⟩)
    · refine W.eq (g2 := F0 m 12 ls [.int 0, .ref (ly_a y 5)]) rfl ?_
      refine lv_if_eq (tgt := 19) hK.1.1 hK.1.2.1 dX5_give_12 (by decide) (fun _ => ?_) (fun c => absurd c (by decide))
      refine lv_iconst (v := 0) hK.1.1 hK.1.2.1 dX5_give_19 (by decide) ?_
      refine lv_iconst (v := 1) hK.1.1 hK.1.2.1 dX5_give_20 (by decide) ?_
      refine lv_iconst (v := 1) hK.1.1 hK.1.2.1 dX5_give_21 (by decide) ?_
      refine gk_callV0 (n := 3) (As := [.int 0, .int 1, .int 1]) (rest := []) hK (c_X5_goes l hR (a9 := 0) (b9 := 1) (c9 := 1) (m9 := 1) (x9 := 0) (by decide) (by decide)) (gk_gV q_6_9 q_6_10 q_6_11 q_1_5 q_6_12) ⟨rfl, by decide +kernel, by decide +kernel, by decide +kernel⟩ ⟨(Nat.le_of_ble_eq_true rfl), (Nat.le_of_ble_eq_true rfl)⟩ hP hS (gk_recv hK.2.2.1.1 hP hR.2.2.2.2.2.2.2.2.1 rfl) rfl hl.1 rfl (Nat.le_of_ble_eq_true rfl) dX5_give_22 ⟨(Nat.le_of_ble_eq_true rfl), (Nat.le_of_ble_eq_true rfl)⟩ (fun v G1 H locs hw hP hS => ?_)
      obtain ⟨rfl, hR⟩ := hw
      refine W.eq (g2 := F0 m 25 ls [.int 0]) rfl ?_
      refine lv_if_ne (tgt := 30) hK.1.1 hK.1.2.1 dX5_give_25 (by decide) (fun c => absurd c (by decide)) (fun _ => ?_)
      refine lv_iconst (v := 0) hK.1.1 hK.1.2.1 dX5_give_28 (by decide) ?_
      exact gk_iret0 hK.1 hret hlk hP hS (Nat.le_of_ble_eq_true rfl) (Nat.le_of_ble_eq_true rfl) dX5_give_29 (Or.inr ⟨Or.inr ho_4, ⟨_, rfl⟩, hR⟩)
  · refine W.eq (g2 := F0 m 5 ls [.int 0, .ref (ly_a y 5)]) rfl ?_
    refine lv_if_eq (tgt := 19) hK.1.1 hK.1.2.1 dX5_give_5 (by decide) (fun _ => ?_) (fun c => absurd c (by decide))
    refine lv_iconst (v := 0) hK.1.1 hK.1.2.1 dX5_give_19 (by decide) ?_
    refine lv_iconst (v := 1) hK.1.1 hK.1.2.1 dX5_give_20 (by decide) ?_
    refine lv_iconst (v := 1) hK.1.1 hK.1.2.1 dX5_give_21 (by decide) ?_
    refine gk_callV0 (n := 3) (As := [.int 0, .int 1, .int 1]) (rest := []) hK (c_X5_goes l hR (a9 := 0) (b9 := 1) (c9 := 1) (m9 := 1) (x9 := 0) (by decide) (by decide)) (gk_gV q_6_9 q_6_10 q_6_11 q_1_5 q_6_12) ⟨rfl, by decide +kernel, by decide +kernel, by decide +kernel⟩ ⟨(Nat.le_of_ble_eq_true rfl), (Nat.le_of_ble_eq_true rfl)⟩ hP hS (gk_recv hK.2.2.1.1 hP hR.2.2.2.2.2.2.2.2.1 rfl) rfl hl.1 rfl (Nat.le_of_ble_eq_true rfl) dX5_give_22 ⟨(Nat.le_of_ble_eq_true rfl), (Nat.le_of_ble_eq_true rfl)⟩ (fun v G1 H locs hw hP hS => ?_)
    obtain ⟨rfl, hR⟩ := hw
    refine W.eq (g2 := F0 m 25 ls [.int 0]) rfl ?_
    refine lv_if_ne (tgt := 30) hK.1.1 hK.1.2.1 dX5_give_25 (by decide) (fun c => absurd c (by decide)) (fun _ => ?_)
    refine lv_iconst (v := 0) hK.1.1 hK.1.2.1 dX5_give_28 (by decide) ?_
    exact gk_iret0 hK.1 hret hlk hP hS (Nat.le_of_ble_eq_true rfl) (Nat.le_of_ble_eq_true rfl) dX5_give_29 (Or.inr ⟨Or.inl ho_2, ⟨_, rfl⟩, hR⟩)
set_option maxHeartbeats 4000000 in
set_option maxRecDepth 100000 in
theorem c_X5_open (l : Launch) {y : ly_T} {A : Nat → Prop} {G : gk_G} {td : Int32} {ru : Nat → Nat → Int32} {fr lv : Nat → Nat} {lt et tl : Nat → Int32} {hf hp : Nat → Option Nat} {ol : Nat → List Nat} {PS : Nat → Prop} {pf : Nat → Nat → Int32} {ov : Int64} {md mq mt : Int32} {mv : Nat → Nat → Int32} {i j : Int32}  (hR : rp y G td ru fr lv lt et tl hf hp ol PS pf ov md mq mt mv) : gk_M0 l yX5_open (Cond.code yX5_open cX5_open 3 none) 3 90 0 0 y A [.ref (ly_a y 5), .int i, .int j] G (fun v G1 => v = none ∧ ((∃ h f, h < 4 ∧ f < 5 ∧ i = nI h ∧ j = nI f ∧ rp y G1 td ru fr lv lt et tl hf hp ol PS pf ov md mq 0 (rp_u2 (rp_u2 mv 18 h (nI f)) 19 h (-1))) ∨ ((rg_out i 4 ∨ rg_out j 5) ∧ rp y G1 td ru fr lv lt et tl hf hp ol PS pf ov md mq 1 mv))) := by
  refine gk_of0 (cc := cX5_open) (maxL := 3) (ret := none) (own := RX5) (by decide +kernel) rfl rfl (Nat.le_of_ble_eq_true rfl) ?_
  intro p e s m below meth c ls hK hret hlk _ hP hS hl
  have hl : lv_has ls 3 [(0, .ref (ly_a y 5)), (1, .int i), (2, .int j)] := hl
  refine lv_aload_n hK.1.1 hK.1.2.1 dX5_open_0 rfl (lv_at hl 0 rfl) ?_
  refine lv_iload_n hK.1.1 hK.1.2.1 dX5_open_1 rfl (lv_at hl 1 rfl) ?_
  refine gk_callS0 (n := 1) (As := [.int i]) (rest := [.ref (ly_a y 5)]) hK (c_X5_isHolder l hR (i := i)) (gk_gS q_9_0 q_9_1 q_1_5 q_9_2) ⟨by decide +kernel, by decide +kernel, by decide +kernel⟩ ⟨(Nat.le_of_ble_eq_true rfl), (Nat.le_of_ble_eq_true rfl)⟩ hP hS rfl hl.1 rfl (Nat.le_of_ble_eq_true rfl) dX5_open_2 ⟨(Nat.le_of_ble_eq_true rfl), (Nat.le_of_ble_eq_true rfl)⟩ (fun v G1 H locs hw hP hS => ?_)
  obtain ⟨hw, hG9⟩ := hw
  rw [hG9] at hP
  rcases hw with ⟨h_1, hh_1, rfl, rfl⟩ | ⟨ho_2, rfl⟩
  · refine W.eq (g2 := F0 m 5 ls [.int 1, .ref (ly_a y 5)]) rfl ?_
    refine lv_if_eq (tgt := 19) hK.1.1 hK.1.2.1 dX5_open_5 (by decide) (fun c => absurd c (by decide)) (fun _ => ?_)
    refine lv_iload_n hK.1.1 hK.1.2.1 dX5_open_8 rfl (lv_at hl 2 rfl) ?_
    refine gk_callS0 (n := 1) (As := [.int j]) (rest := [.ref (ly_a y 5)]) hK (c_X5_isFile l hR (i := j)) (gk_gS q_8_3 q_8_4 q_1_5 q_8_5) ⟨by decide +kernel, by decide +kernel, by decide +kernel⟩ ⟨(Nat.le_of_ble_eq_true rfl), (Nat.le_of_ble_eq_true rfl)⟩ hP hS rfl hl.1 rfl (Nat.le_of_ble_eq_true rfl) dX5_open_9 ⟨(Nat.le_of_ble_eq_true rfl), (Nat.le_of_ble_eq_true rfl)⟩ (fun v G1 H locs hw hP hS => ?_)
    obtain ⟨hw, hG9⟩ := hw
    rw [hG9] at hP
    rcases hw with ⟨f_3, hf_3, rfl, rfl⟩ | ⟨ho_4, rfl⟩
    · refine W.eq (g2 := F0 m 12 ls [.int 1, .ref (ly_a y 5)]) rfl ?_
      refine lv_if_eq (tgt := 19) hK.1.1 hK.1.2.1 dX5_open_12 (by decide) (fun c => absurd c (by decide)) (fun _ => ?_)
      refine lv_iconst (v := 1) hK.1.1 hK.1.2.1 dX5_open_15 (by decide) ?_
      refine lv_goto (tgt := 20) hK.1.1 hK.1.2.1 dX5_open_16 (by decide) ?_
      refine lv_iconst (v := 1) hK.1.1 hK.1.2.1 dX5_open_20 (by decide) ?_
      refine lv_iconst (v := 1) hK.1.1 hK.1.2.1 dX5_open_21 (by decide) ?_
      refine gk_callV0 (n := 3) (As := [.int 1, .int 1, .int 1]) (rest := []) hK (c_X5_goes l hR (a9 := 1) (b9 := 1) (c9 := 1) (m9 := 0) (x9 := 1) (by decide) (by decide)) (gk_gV q_6_9 q_6_10 q_6_11 q_1_5 q_6_12) ⟨rfl, by decide +kernel, by decide +kernel, by decide +kernel⟩ ⟨(Nat.le_of_ble_eq_true rfl), (Nat.le_of_ble_eq_true rfl)⟩ hP hS (gk_recv hK.2.2.1.1 hP hR.2.2.2.2.2.2.2.2.1 rfl) rfl hl.1 rfl (Nat.le_of_ble_eq_true rfl) dX5_open_22 ⟨(Nat.le_of_ble_eq_true rfl), (Nat.le_of_ble_eq_true rfl)⟩ (fun v G1 H locs hw hP hS => ?_)
      obtain ⟨rfl, hR⟩ := hw
      refine W.eq (g2 := F0 m 25 ls [.int 1]) rfl ?_
      refine lv_if_eq (tgt := 42) hK.1.1 hK.1.2.1 dX5_open_25 (by decide) (fun c => absurd c (by decide)) (fun _ => ?_)
      refine lv_aload_n hK.1.1 hK.1.2.1 dX5_open_28 rfl (lv_at hl 0 rfl) ?_
      refine mr_65 hK hP hR dX5_open_29 ?_
      refine lv_iload_n hK.1.1 hK.1.2.1 dX5_open_32 rfl (lv_at hl 1 rfl) ?_
      refine lv_iload_n hK.1.1 hK.1.2.1 dX5_open_33 rfl (lv_at hl 2 rfl) ?_
      refine mw_ist hK hP hS hR 18 (by decide) rfl (j := h_1) hh_1 dX5_open_34 (fun H locs G hP hS hR => ?_)
      refine lv_aload_n hK.1.1 hK.1.2.1 dX5_open_35 rfl (lv_at hl 0 rfl) ?_
      refine mr_68 hK hP hR dX5_open_36 ?_
      refine lv_iload_n hK.1.1 hK.1.2.1 dX5_open_39 rfl (lv_at hl 1 rfl) ?_
      refine lv_iconst (v := (-1)) hK.1.1 hK.1.2.1 dX5_open_40 (by decide) ?_
      refine mw_ist hK hP hS hR 19 (by decide) rfl (j := h_1) hh_1 dX5_open_41 (fun H locs G hP hS hR => ?_)
      exact gk_vret0 hK.1 hret hlk hP hS (Nat.le_of_ble_eq_true rfl) (Nat.le_of_ble_eq_true rfl) dX5_open_42 (⟨rfl, Or.inl ⟨h_1, f_3, hh_1, hf_3, rfl, rfl, hR⟩⟩)
    · refine W.eq (g2 := F0 m 12 ls [.int 0, .ref (ly_a y 5)]) rfl ?_
      refine lv_if_eq (tgt := 19) hK.1.1 hK.1.2.1 dX5_open_12 (by decide) (fun _ => ?_) (fun c => absurd c (by decide))
      refine lv_iconst (v := 0) hK.1.1 hK.1.2.1 dX5_open_19 (by decide) ?_
      refine lv_iconst (v := 1) hK.1.1 hK.1.2.1 dX5_open_20 (by decide) ?_
      refine lv_iconst (v := 1) hK.1.1 hK.1.2.1 dX5_open_21 (by decide) ?_
      refine gk_callV0 (n := 3) (As := [.int 0, .int 1, .int 1]) (rest := []) hK (c_X5_goes l hR (a9 := 0) (b9 := 1) (c9 := 1) (m9 := 1) (x9 := 0) (by decide) (by decide)) (gk_gV q_6_9 q_6_10 q_6_11 q_1_5 q_6_12) ⟨rfl, by decide +kernel, by decide +kernel, by decide +kernel⟩ ⟨(Nat.le_of_ble_eq_true rfl), (Nat.le_of_ble_eq_true rfl)⟩ hP hS (gk_recv hK.2.2.1.1 hP hR.2.2.2.2.2.2.2.2.1 rfl) rfl hl.1 rfl (Nat.le_of_ble_eq_true rfl) dX5_open_22 ⟨(Nat.le_of_ble_eq_true rfl), (Nat.le_of_ble_eq_true rfl)⟩ (fun v G1 H locs hw hP hS => ?_)
      obtain ⟨rfl, hR⟩ := hw
      refine W.eq (g2 := F0 m 25 ls [.int 0]) rfl ?_
      refine lv_if_eq (tgt := 42) hK.1.1 hK.1.2.1 dX5_open_25 (by decide) (fun _ => ?_) (fun c => absurd c (by decide))
      exact gk_vret0 hK.1 hret hlk hP hS (Nat.le_of_ble_eq_true rfl) (Nat.le_of_ble_eq_true rfl) dX5_open_42 (⟨rfl, Or.inr ⟨Or.inr ho_4, hR⟩⟩)
  · refine W.eq (g2 := F0 m 5 ls [.int 0, .ref (ly_a y 5)]) rfl ?_
    refine lv_if_eq (tgt := 19) hK.1.1 hK.1.2.1 dX5_open_5 (by decide) (fun _ => ?_) (fun c => absurd c (by decide))
    refine lv_iconst (v := 0) hK.1.1 hK.1.2.1 dX5_open_19 (by decide) ?_
    refine lv_iconst (v := 1) hK.1.1 hK.1.2.1 dX5_open_20 (by decide) ?_
    refine lv_iconst (v := 1) hK.1.1 hK.1.2.1 dX5_open_21 (by decide) ?_
    refine gk_callV0 (n := 3) (As := [.int 0, .int 1, .int 1]) (rest := []) hK (c_X5_goes l hR (a9 := 0) (b9 := 1) (c9 := 1) (m9 := 1) (x9 := 0) (by decide) (by decide)) (gk_gV q_6_9 q_6_10 q_6_11 q_1_5 q_6_12) ⟨rfl, by decide +kernel, by decide +kernel, by decide +kernel⟩ ⟨(Nat.le_of_ble_eq_true rfl), (Nat.le_of_ble_eq_true rfl)⟩ hP hS (gk_recv hK.2.2.1.1 hP hR.2.2.2.2.2.2.2.2.1 rfl) rfl hl.1 rfl (Nat.le_of_ble_eq_true rfl) dX5_open_22 ⟨(Nat.le_of_ble_eq_true rfl), (Nat.le_of_ble_eq_true rfl)⟩ (fun v G1 H locs hw hP hS => ?_)
    obtain ⟨rfl, hR⟩ := hw
    refine W.eq (g2 := F0 m 25 ls [.int 0]) rfl ?_
    refine lv_if_eq (tgt := 42) hK.1.1 hK.1.2.1 dX5_open_25 (by decide) (fun _ => ?_) (fun c => absurd c (by decide))
    exact gk_vret0 hK.1 hret hlk hP hS (Nat.le_of_ble_eq_true rfl) (Nat.le_of_ble_eq_true rfl) dX5_open_42 (⟨rfl, Or.inr ⟨Or.inl ho_2, hR⟩⟩)
set_option maxHeartbeats 4000000 in
set_option maxRecDepth 100000 in
theorem c_X5_shut (l : Launch) {y : ly_T} {A : Nat → Prop} {G : gk_G} {td : Int32} {ru : Nat → Nat → Int32} {fr lv : Nat → Nat} {lt et tl : Nat → Int32} {hf hp : Nat → Option Nat} {ol : Nat → List Nat} {PS : Nat → Prop} {pf : Nat → Nat → Int32} {ov : Int64} {md mq mt : Int32} {mv : Nat → Nat → Int32} {i : Int32}  (hR : rp y G td ru fr lv lt et tl hf hp ol PS pf ov md mq mt mv) : gk_M0 l yX5_shut (Cond.code yX5_shut cX5_shut 3 (some .boolean)) 3 90 0 0 y A [.ref (ly_a y 5), .int i] G (fun v G1 => (∃ h, h < 4 ∧ i = nI h ∧ v = some (.int (rg_b (decide (¬ mv 18 h = -1)))) ∧ rp y G1 td ru fr lv lt et tl hf hp ol PS pf ov md mq 0 (rp_u2 (rp_u2 mv 18 h (-1)) 19 h (-1))) ∨ (rg_out i 4 ∧ (∃ x, v = some (.int x)) ∧ rp y G1 td ru fr lv lt et tl hf hp ol PS pf ov md mq 1 mv)) := by
  refine gk_of0 (cc := cX5_shut) (maxL := 3) (ret := (some .boolean)) (own := RX5) (by decide +kernel) rfl rfl (Nat.le_of_ble_eq_true rfl) ?_
  intro p e s m below meth c ls hK hret hlk _ hP hS hl
  have hl : lv_has ls 3 [(0, .ref (ly_a y 5)), (1, .int i)] := hl
  refine lv_aload_n hK.1.1 hK.1.2.1 dX5_shut_0 rfl (lv_at hl 0 rfl) ?_
  refine lv_iload_n hK.1.1 hK.1.2.1 dX5_shut_1 rfl (lv_at hl 1 rfl) ?_
  refine gk_callS0 (n := 1) (As := [.int i]) (rest := [.ref (ly_a y 5)]) hK (c_X5_isHolder l hR (i := i)) (gk_gS q_9_0 q_9_1 q_1_5 q_9_2) ⟨by decide +kernel, by decide +kernel, by decide +kernel⟩ ⟨(Nat.le_of_ble_eq_true rfl), (Nat.le_of_ble_eq_true rfl)⟩ hP hS rfl hl.1 rfl (Nat.le_of_ble_eq_true rfl) dX5_shut_2 ⟨(Nat.le_of_ble_eq_true rfl), (Nat.le_of_ble_eq_true rfl)⟩ (fun v G1 H locs hw hP hS => ?_)
  obtain ⟨hw, hG9⟩ := hw
  rw [hG9] at hP
  rcases hw with ⟨h_1, hh_1, rfl, rfl⟩ | ⟨ho_2, rfl⟩
  · refine W.eq (g2 := F0 m 5 ls [.int 1, .ref (ly_a y 5)]) rfl ?_
    refine lv_iconst (v := 1) hK.1.1 hK.1.2.1 dX5_shut_5 (by decide) ?_
    refine lv_iconst (v := 1) hK.1.1 hK.1.2.1 dX5_shut_6 (by decide) ?_
    refine gk_callV0 (n := 3) (As := [.int 1, .int 1, .int 1]) (rest := []) hK (c_X5_goes l hR (a9 := 1) (b9 := 1) (c9 := 1) (m9 := 0) (x9 := 1) (by decide) (by decide)) (gk_gV q_6_9 q_6_10 q_6_11 q_1_5 q_6_12) ⟨rfl, by decide +kernel, by decide +kernel, by decide +kernel⟩ ⟨(Nat.le_of_ble_eq_true rfl), (Nat.le_of_ble_eq_true rfl)⟩ hP hS (gk_recv hK.2.2.1.1 hP hR.2.2.2.2.2.2.2.2.1 rfl) rfl hl.1 rfl (Nat.le_of_ble_eq_true rfl) dX5_shut_7 ⟨(Nat.le_of_ble_eq_true rfl), (Nat.le_of_ble_eq_true rfl)⟩ (fun v G1 H locs hw hP hS => ?_)
    obtain ⟨rfl, hR⟩ := hw
    refine W.eq (g2 := F0 m 10 ls [.int 1]) rfl ?_
    refine lv_if_ne (tgt := 15) hK.1.1 hK.1.2.1 dX5_shut_10 (by decide) (fun _ => ?_) (fun c => absurd c (by decide))
    refine lv_aload_n hK.1.1 hK.1.2.1 dX5_shut_15 rfl (lv_at hl 0 rfl) ?_
    refine mr_65 hK hP hR dX5_shut_16 ?_
    refine lv_iload_n hK.1.1 hK.1.2.1 dX5_shut_19 rfl (lv_at hl 1 rfl) ?_
    refine mr_ild hK hP hR 18 (by decide) rfl (j := h_1) hh_1 dX5_shut_20 ?_
    refine lv_iconst (v := (-1)) hK.1.1 hK.1.2.1 dX5_shut_21 (by decide) ?_
    refine lv_icmp_eq (tgt := 29) hK.1.1 hK.1.2.1 dX5_shut_22 (by decide) (fun c22_3 => ?_) (fun c22_3 => ?_)
    · refine lv_iconst (v := 0) hK.1.1 hK.1.2.1 dX5_shut_29 (by decide) ?_
      refine lv_istore_n (lv' := [(2, .int 0), (0, .ref (ly_a y 5)), (1, .int (nI h_1))]) hK.1.1 hK.1.2.1 dX5_shut_30 rfl hl (by decide) rfl (fun ls hl => ?_)
      refine lv_aload_n hK.1.1 hK.1.2.1 dX5_shut_31 rfl (lv_at hl 1 rfl) ?_
      refine mr_65 hK hP hR dX5_shut_32 ?_
      refine lv_iload_n hK.1.1 hK.1.2.1 dX5_shut_35 rfl (lv_at hl 2 rfl) ?_
      refine lv_iconst (v := (-1)) hK.1.1 hK.1.2.1 dX5_shut_36 (by decide) ?_
      refine mw_ist hK hP hS hR 18 (by decide) rfl (j := h_1) hh_1 dX5_shut_37 (fun H locs G hP hS hR => ?_)
      refine lv_aload_n hK.1.1 hK.1.2.1 dX5_shut_38 rfl (lv_at hl 1 rfl) ?_
      refine mr_68 hK hP hR dX5_shut_39 ?_
      refine lv_iload_n hK.1.1 hK.1.2.1 dX5_shut_42 rfl (lv_at hl 2 rfl) ?_
      refine lv_iconst (v := (-1)) hK.1.1 hK.1.2.1 dX5_shut_43 (by decide) ?_
      refine mw_ist hK hP hS hR 19 (by decide) rfl (j := h_1) hh_1 dX5_shut_44 (fun H locs G hP hS hR => ?_)
      refine lv_iload_n hK.1.1 hK.1.2.1 dX5_shut_45 rfl (lv_at hl 0 rfl) ?_
      exact gk_zret0 hK.1 hret (by first | decide | exact (rp_nz (by first | assumption | (simp; done))).1) hlk hP hS (Nat.le_of_ble_eq_true rfl) (Nat.le_of_ble_eq_true rfl) dX5_shut_46 (Or.inl ⟨h_1, hh_1, rfl, by simp [rg_b, c22_3], hR⟩)
    · refine lv_iconst (v := 1) hK.1.1 hK.1.2.1 dX5_shut_25 (by decide) ?_
      refine lv_goto (tgt := 30) hK.1.1 hK.1.2.1 dX5_shut_26 (by decide) ?_
      refine lv_istore_n (lv' := [(2, .int 1), (0, .ref (ly_a y 5)), (1, .int (nI h_1))]) hK.1.1 hK.1.2.1 dX5_shut_30 rfl hl (by decide) rfl (fun ls hl => ?_)
      refine lv_aload_n hK.1.1 hK.1.2.1 dX5_shut_31 rfl (lv_at hl 1 rfl) ?_
      refine mr_65 hK hP hR dX5_shut_32 ?_
      refine lv_iload_n hK.1.1 hK.1.2.1 dX5_shut_35 rfl (lv_at hl 2 rfl) ?_
      refine lv_iconst (v := (-1)) hK.1.1 hK.1.2.1 dX5_shut_36 (by decide) ?_
      refine mw_ist hK hP hS hR 18 (by decide) rfl (j := h_1) hh_1 dX5_shut_37 (fun H locs G hP hS hR => ?_)
      refine lv_aload_n hK.1.1 hK.1.2.1 dX5_shut_38 rfl (lv_at hl 1 rfl) ?_
      refine mr_68 hK hP hR dX5_shut_39 ?_
      refine lv_iload_n hK.1.1 hK.1.2.1 dX5_shut_42 rfl (lv_at hl 2 rfl) ?_
      refine lv_iconst (v := (-1)) hK.1.1 hK.1.2.1 dX5_shut_43 (by decide) ?_
      refine mw_ist hK hP hS hR 19 (by decide) rfl (j := h_1) hh_1 dX5_shut_44 (fun H locs G hP hS hR => ?_)
      refine lv_iload_n hK.1.1 hK.1.2.1 dX5_shut_45 rfl (lv_at hl 0 rfl) ?_
      exact gk_zret0 hK.1 hret (by first | decide | exact (rp_nz (by first | assumption | (simp; done))).1) hlk hP hS (Nat.le_of_ble_eq_true rfl) (Nat.le_of_ble_eq_true rfl) dX5_shut_46 (Or.inl ⟨h_1, hh_1, rfl, by simp [rg_b, c22_3], hR⟩)
  · refine W.eq (g2 := F0 m 5 ls [.int 0, .ref (ly_a y 5)]) rfl ?_
    refine lv_iconst (v := 1) hK.1.1 hK.1.2.1 dX5_shut_5 (by decide) ?_
    refine lv_iconst (v := 1) hK.1.1 hK.1.2.1 dX5_shut_6 (by decide) ?_
    refine gk_callV0 (n := 3) (As := [.int 0, .int 1, .int 1]) (rest := []) hK (c_X5_goes l hR (a9 := 0) (b9 := 1) (c9 := 1) (m9 := 1) (x9 := 0) (by decide) (by decide)) (gk_gV q_6_9 q_6_10 q_6_11 q_1_5 q_6_12) ⟨rfl, by decide +kernel, by decide +kernel, by decide +kernel⟩ ⟨(Nat.le_of_ble_eq_true rfl), (Nat.le_of_ble_eq_true rfl)⟩ hP hS (gk_recv hK.2.2.1.1 hP hR.2.2.2.2.2.2.2.2.1 rfl) rfl hl.1 rfl (Nat.le_of_ble_eq_true rfl) dX5_shut_7 ⟨(Nat.le_of_ble_eq_true rfl), (Nat.le_of_ble_eq_true rfl)⟩ (fun v G1 H locs hw hP hS => ?_)
    obtain ⟨rfl, hR⟩ := hw
    refine W.eq (g2 := F0 m 10 ls [.int 0]) rfl ?_
    refine lv_if_ne (tgt := 15) hK.1.1 hK.1.2.1 dX5_shut_10 (by decide) (fun c => absurd c (by decide)) (fun _ => ?_)
    refine lv_iconst (v := 0) hK.1.1 hK.1.2.1 dX5_shut_13 (by decide) ?_
    exact gk_zret0 hK.1 hret (by first | decide | exact (rp_nz (by first | assumption | (simp; done))).1) hlk hP hS (Nat.le_of_ble_eq_true rfl) (Nat.le_of_ble_eq_true rfl) dX5_shut_14 (Or.inr ⟨ho_2, ⟨_, rfl⟩, hR⟩)
set_option maxHeartbeats 4000000 in
set_option maxRecDepth 100000 in
theorem c_X5_tell (l : Launch) {y : ly_T} {A : Nat → Prop} {G : gk_G} {td : Int32} {ru : Nat → Nat → Int32} {fr lv : Nat → Nat} {lt et tl : Nat → Int32} {hf hp : Nat → Option Nat} {ol : Nat → List Nat} {PS : Nat → Prop} {pf : Nat → Nat → Int32} {ov : Int64} {md mq mt : Int32} {mv : Nat → Nat → Int32} {i : Int32}  (hR : rp y G td ru fr lv lt et tl hf hp ol PS pf ov md mq mt mv) : gk_M0 l yX5_tell (Cond.code yX5_tell cX5_tell 4 (some .boolean)) 3 90 0 0 y A [.ref (ly_a y 5), .int i] G (fun v G1 => (∃ h, h < 4 ∧ i = nI h ∧ ¬ mv 18 h = -1 ∧ v = some (.int (rg_b (decide (¬ mv 19 h = -1)))) ∧ rp y G1 td ru fr lv lt et tl hf hp ol PS pf ov md mq 0 (rp_u2 mv 19 h (-1))) ∨ (rg_out i 4 ∧ (∃ x, v = some (.int x)) ∧ rp y G1 td ru fr lv lt et tl hf hp ol PS pf ov md mq 1 mv) ∨ (∃ h, h < 4 ∧ i = nI h ∧ mv 18 h = -1 ∧ (∃ x, v = some (.int x)) ∧ rp y G1 td ru fr lv lt et tl hf hp ol PS pf ov md mq 2 mv)) := by
  refine gk_of0 (cc := cX5_tell) (maxL := 4) (ret := (some .boolean)) (own := RX5) (by decide +kernel) rfl rfl (Nat.le_of_ble_eq_true rfl) ?_
  intro p e s m below meth c ls hK hret hlk _ hP hS hl
  have hl : lv_has ls 4 [(0, .ref (ly_a y 5)), (1, .int i)] := hl
  refine lv_iload_n hK.1.1 hK.1.2.1 dX5_tell_0 rfl (lv_at hl 1 rfl) ?_
  refine gk_callS0 (n := 1) (As := [.int i]) (rest := []) hK (c_X5_isHolder l hR (i := i)) (gk_gS q_9_0 q_9_1 q_1_5 q_9_2) ⟨by decide +kernel, by decide +kernel, by decide +kernel⟩ ⟨(Nat.le_of_ble_eq_true rfl), (Nat.le_of_ble_eq_true rfl)⟩ hP hS rfl hl.1 rfl (Nat.le_of_ble_eq_true rfl) dX5_tell_1 ⟨(Nat.le_of_ble_eq_true rfl), (Nat.le_of_ble_eq_true rfl)⟩ (fun v G1 H locs hw hP hS => ?_)
  obtain ⟨hw, hG9⟩ := hw
  rw [hG9] at hP
  rcases hw with ⟨h_1, hh_1, rfl, rfl⟩ | ⟨ho_2, rfl⟩
  · refine W.eq (g2 := F0 m 4 ls [.int 1]) rfl ?_
    refine lv_istore_n (lv' := [(2, .int 1), (0, .ref (ly_a y 5)), (1, .int (nI h_1))]) hK.1.1 hK.1.2.1 dX5_tell_4 rfl hl (by decide) rfl (fun ls hl => ?_)
    refine lv_aload_n hK.1.1 hK.1.2.1 dX5_tell_5 rfl (lv_at hl 1 rfl) ?_
    refine lv_iload_n hK.1.1 hK.1.2.1 dX5_tell_6 rfl (lv_at hl 0 rfl) ?_
    refine lv_iload_n hK.1.1 hK.1.2.1 dX5_tell_7 rfl (lv_at hl 0 rfl) ?_
    refine lv_if_eq (tgt := 25) hK.1.1 hK.1.2.1 dX5_tell_8 (by decide) (fun c => absurd c (by decide)) (fun _ => ?_)
    refine lv_aload_n hK.1.1 hK.1.2.1 dX5_tell_11 rfl (lv_at hl 1 rfl) ?_
    refine mr_65 hK hP hR dX5_tell_12 ?_
    refine lv_iload_n hK.1.1 hK.1.2.1 dX5_tell_15 rfl (lv_at hl 2 rfl) ?_
    refine mr_ild hK hP hR 18 (by decide) rfl (j := h_1) hh_1 dX5_tell_16 ?_
    refine lv_iconst (v := (-1)) hK.1.1 hK.1.2.1 dX5_tell_17 (by decide) ?_
    refine lv_icmp_eq (tgt := 25) hK.1.1 hK.1.2.1 dX5_tell_18 (by decide) (fun c18_3 => ?_) (fun c18_3 => ?_)
    · refine lv_iconst (v := 0) hK.1.1 hK.1.2.1 dX5_tell_25 (by decide) ?_
      refine lv_iconst (v := 1) hK.1.1 hK.1.2.1 dX5_tell_26 (by decide) ?_
      refine gk_callV0 (n := 3) (As := [.int 1, .int 0, .int 1]) (rest := []) hK (c_X5_goes l hR (a9 := 1) (b9 := 0) (c9 := 1) (m9 := 2) (x9 := 0) (by decide) (by decide)) (gk_gV q_6_9 q_6_10 q_6_11 q_1_5 q_6_12) ⟨rfl, by decide +kernel, by decide +kernel, by decide +kernel⟩ ⟨(Nat.le_of_ble_eq_true rfl), (Nat.le_of_ble_eq_true rfl)⟩ hP hS (gk_recv hK.2.2.1.1 hP hR.2.2.2.2.2.2.2.2.1 rfl) rfl hl.1 rfl (Nat.le_of_ble_eq_true rfl) dX5_tell_27 ⟨(Nat.le_of_ble_eq_true rfl), (Nat.le_of_ble_eq_true rfl)⟩ (fun v G1 H locs hw hP hS => ?_)
      obtain ⟨rfl, hR⟩ := hw
      refine W.eq (g2 := F0 m 30 ls [.int 0]) rfl ?_
      refine lv_if_ne (tgt := 35) hK.1.1 hK.1.2.1 dX5_tell_30 (by decide) (fun c => absurd c (by decide)) (fun _ => ?_)
      refine lv_iconst (v := 0) hK.1.1 hK.1.2.1 dX5_tell_33 (by decide) ?_
      exact gk_zret0 hK.1 hret (by first | decide | exact (rp_nz (by first | assumption | (simp; done))).1) hlk hP hS (Nat.le_of_ble_eq_true rfl) (Nat.le_of_ble_eq_true rfl) dX5_tell_34 (Or.inr (Or.inr ⟨h_1, hh_1, rfl, c18_3, ⟨_, rfl⟩, hR⟩))
    · refine lv_iconst (v := 1) hK.1.1 hK.1.2.1 dX5_tell_21 (by decide) ?_
      refine lv_goto (tgt := 26) hK.1.1 hK.1.2.1 dX5_tell_22 (by decide) ?_
      refine lv_iconst (v := 1) hK.1.1 hK.1.2.1 dX5_tell_26 (by decide) ?_
      refine gk_callV0 (n := 3) (As := [.int 1, .int 1, .int 1]) (rest := []) hK (c_X5_goes l hR (a9 := 1) (b9 := 1) (c9 := 1) (m9 := 0) (x9 := 1) (by decide) (by decide)) (gk_gV q_6_9 q_6_10 q_6_11 q_1_5 q_6_12) ⟨rfl, by decide +kernel, by decide +kernel, by decide +kernel⟩ ⟨(Nat.le_of_ble_eq_true rfl), (Nat.le_of_ble_eq_true rfl)⟩ hP hS (gk_recv hK.2.2.1.1 hP hR.2.2.2.2.2.2.2.2.1 rfl) rfl hl.1 rfl (Nat.le_of_ble_eq_true rfl) dX5_tell_27 ⟨(Nat.le_of_ble_eq_true rfl), (Nat.le_of_ble_eq_true rfl)⟩ (fun v G1 H locs hw hP hS => ?_)
      obtain ⟨rfl, hR⟩ := hw
      refine W.eq (g2 := F0 m 30 ls [.int 1]) rfl ?_
      refine lv_if_ne (tgt := 35) hK.1.1 hK.1.2.1 dX5_tell_30 (by decide) (fun _ => ?_) (fun c => absurd c (by decide))
      refine lv_aload_n hK.1.1 hK.1.2.1 dX5_tell_35 rfl (lv_at hl 1 rfl) ?_
      refine mr_68 hK hP hR dX5_tell_36 ?_
      refine lv_iload_n hK.1.1 hK.1.2.1 dX5_tell_39 rfl (lv_at hl 2 rfl) ?_
      refine mr_ild hK hP hR 19 (by decide) rfl (j := h_1) hh_1 dX5_tell_40 ?_
      refine lv_iconst (v := (-1)) hK.1.1 hK.1.2.1 dX5_tell_41 (by decide) ?_
      refine lv_icmp_eq (tgt := 49) hK.1.1 hK.1.2.1 dX5_tell_42 (by decide) (fun c42_4 => ?_) (fun c42_4 => ?_)
      · refine lv_iconst (v := 0) hK.1.1 hK.1.2.1 dX5_tell_49 (by decide) ?_
        refine lv_istore_n (lv' := [(3, .int 0), (2, .int 1), (0, .ref (ly_a y 5)), (1, .int (nI h_1))]) hK.1.1 hK.1.2.1 dX5_tell_50 rfl hl (by decide) rfl (fun ls hl => ?_)
        refine lv_aload_n hK.1.1 hK.1.2.1 dX5_tell_51 rfl (lv_at hl 2 rfl) ?_
        refine mr_68 hK hP hR dX5_tell_52 ?_
        refine lv_iload_n hK.1.1 hK.1.2.1 dX5_tell_55 rfl (lv_at hl 3 rfl) ?_
        refine lv_iconst (v := (-1)) hK.1.1 hK.1.2.1 dX5_tell_56 (by decide) ?_
        refine mw_ist hK hP hS hR 19 (by decide) rfl (j := h_1) hh_1 dX5_tell_57 (fun H locs G hP hS hR => ?_)
        refine lv_iload_n hK.1.1 hK.1.2.1 dX5_tell_58 rfl (lv_at hl 0 rfl) ?_
        exact gk_zret0 hK.1 hret (by first | decide | exact (rp_nz (by first | assumption | (simp; done))).1) hlk hP hS (Nat.le_of_ble_eq_true rfl) (Nat.le_of_ble_eq_true rfl) dX5_tell_59 (Or.inl ⟨h_1, hh_1, rfl, c18_3, by simp [rg_b, c42_4], hR⟩)
      · refine lv_iconst (v := 1) hK.1.1 hK.1.2.1 dX5_tell_45 (by decide) ?_
        refine lv_goto (tgt := 50) hK.1.1 hK.1.2.1 dX5_tell_46 (by decide) ?_
        refine lv_istore_n (lv' := [(3, .int 1), (2, .int 1), (0, .ref (ly_a y 5)), (1, .int (nI h_1))]) hK.1.1 hK.1.2.1 dX5_tell_50 rfl hl (by decide) rfl (fun ls hl => ?_)
        refine lv_aload_n hK.1.1 hK.1.2.1 dX5_tell_51 rfl (lv_at hl 2 rfl) ?_
        refine mr_68 hK hP hR dX5_tell_52 ?_
        refine lv_iload_n hK.1.1 hK.1.2.1 dX5_tell_55 rfl (lv_at hl 3 rfl) ?_
        refine lv_iconst (v := (-1)) hK.1.1 hK.1.2.1 dX5_tell_56 (by decide) ?_
        refine mw_ist hK hP hS hR 19 (by decide) rfl (j := h_1) hh_1 dX5_tell_57 (fun H locs G hP hS hR => ?_)
        refine lv_iload_n hK.1.1 hK.1.2.1 dX5_tell_58 rfl (lv_at hl 0 rfl) ?_
        exact gk_zret0 hK.1 hret (by first | decide | exact (rp_nz (by first | assumption | (simp; done))).1) hlk hP hS (Nat.le_of_ble_eq_true rfl) (Nat.le_of_ble_eq_true rfl) dX5_tell_59 (Or.inl ⟨h_1, hh_1, rfl, c18_3, by simp [rg_b, c42_4], hR⟩)
  · refine W.eq (g2 := F0 m 4 ls [.int 0]) rfl ?_
    refine lv_istore_n (lv' := [(2, .int 0), (0, .ref (ly_a y 5)), (1, .int i)]) hK.1.1 hK.1.2.1 dX5_tell_4 rfl hl (by decide) rfl (fun ls hl => ?_)
    refine lv_aload_n hK.1.1 hK.1.2.1 dX5_tell_5 rfl (lv_at hl 1 rfl) ?_
    refine lv_iload_n hK.1.1 hK.1.2.1 dX5_tell_6 rfl (lv_at hl 0 rfl) ?_
    refine lv_iload_n hK.1.1 hK.1.2.1 dX5_tell_7 rfl (lv_at hl 0 rfl) ?_
    refine lv_if_eq (tgt := 25) hK.1.1 hK.1.2.1 dX5_tell_8 (by decide) (fun _ => ?_) (fun c => absurd c (by decide))
    refine lv_iconst (v := 0) hK.1.1 hK.1.2.1 dX5_tell_25 (by decide) ?_
    refine lv_iconst (v := 1) hK.1.1 hK.1.2.1 dX5_tell_26 (by decide) ?_
    refine gk_callV0 (n := 3) (As := [.int 0, .int 0, .int 1]) (rest := []) hK (c_X5_goes l hR (a9 := 0) (b9 := 0) (c9 := 1) (m9 := 1) (x9 := 0) (by decide) (by decide)) (gk_gV q_6_9 q_6_10 q_6_11 q_1_5 q_6_12) ⟨rfl, by decide +kernel, by decide +kernel, by decide +kernel⟩ ⟨(Nat.le_of_ble_eq_true rfl), (Nat.le_of_ble_eq_true rfl)⟩ hP hS (gk_recv hK.2.2.1.1 hP hR.2.2.2.2.2.2.2.2.1 rfl) rfl hl.1 rfl (Nat.le_of_ble_eq_true rfl) dX5_tell_27 ⟨(Nat.le_of_ble_eq_true rfl), (Nat.le_of_ble_eq_true rfl)⟩ (fun v G1 H locs hw hP hS => ?_)
    obtain ⟨rfl, hR⟩ := hw
    refine W.eq (g2 := F0 m 30 ls [.int 0]) rfl ?_
    refine lv_if_ne (tgt := 35) hK.1.1 hK.1.2.1 dX5_tell_30 (by decide) (fun c => absurd c (by decide)) (fun _ => ?_)
    refine lv_iconst (v := 0) hK.1.1 hK.1.2.1 dX5_tell_33 (by decide) ?_
    exact gk_zret0 hK.1 hret (by first | decide | exact (rp_nz (by first | assumption | (simp; done))).1) hlk hP hS (Nat.le_of_ble_eq_true rfl) (Nat.le_of_ble_eq_true rfl) dX5_tell_34 (Or.inr (Or.inl ⟨ho_2, ⟨_, rfl⟩, hR⟩))
set_option maxHeartbeats 4000000 in
set_option maxRecDepth 100000 in
theorem c_X5_advance (l : Launch) {y : ly_T} {A : Nat → Prop} {G : gk_G} {td : Int32} {ru : Nat → Nat → Int32} {fr lv : Nat → Nat} {lt et tl : Nat → Int32} {hf hp : Nat → Option Nat} {ol : Nat → List Nat} {PS : Nat → Prop} {pf : Nat → Nat → Int32} {ov : Int64} {md mq mt : Int32} {mv : Nat → Nat → Int32} {n : Int32}  (hR : rp y G td ru fr lv lt et tl hf hp ol PS pf ov md mq mt mv) : gk_M0 l yX5_advance (Cond.code yX5_advance cX5_advance 3 (some .int)) 3 90 0 0 y A [.ref (ly_a y 5), .int n] G (fun v G1 => (rg_in n 1 100 ∧ md + n ≤ 5000 ∧ v = some (.int (md + n)) ∧ rp y G1 td ru fr lv lt et tl hf hp ol PS pf ov (md + n) mq 0 mv) ∨ (¬ rg_in n 1 100 ∧ (∃ x, v = some (.int x)) ∧ rp y G1 td ru fr lv lt et tl hf hp ol PS pf ov md mq 1 mv) ∨ (rg_in n 1 100 ∧ ¬ md + n ≤ 5000 ∧ (∃ x, v = some (.int x)) ∧ rp y G1 td ru fr lv lt et tl hf hp ol PS pf ov md mq 2 mv)) := by
  refine gk_of0 (cc := cX5_advance) (maxL := 3) (ret := (some .int)) (own := RX5) (by decide +kernel) rfl rfl (Nat.le_of_ble_eq_true rfl) ?_
  intro p e s m below meth c ls hK hret hlk _ hP hS hl
  have hl : lv_has ls 3 [(0, .ref (ly_a y 5)), (1, .int n)] := hl
  refine lv_iload_n hK.1.1 hK.1.2.1 dX5_advance_0 rfl (lv_at hl 1 rfl) ?_
  refine lv_iconst (v := 1) hK.1.1 hK.1.2.1 dX5_advance_1 (by decide) ?_
  refine lv_bipush (v := 100) hK.1.1 hK.1.2.1 dX5_advance_2 (by decide) ?_
  refine gk_callS0 (n := 3) (As := [.int n, .int 1, .int 100]) (rest := []) hK (c_X5_in l hR (x9 := n) (a9 := 1) (b9 := 100)) (gk_gS q_6_3 q_6_4 q_1_5 q_6_5) ⟨by decide +kernel, by decide +kernel, by decide +kernel⟩ ⟨(Nat.le_of_ble_eq_true rfl), (Nat.le_of_ble_eq_true rfl)⟩ hP hS rfl hl.1 rfl (Nat.le_of_ble_eq_true rfl) dX5_advance_4 ⟨(Nat.le_of_ble_eq_true rfl), (Nat.le_of_ble_eq_true rfl)⟩ (fun v G1 H locs hw hP hS => ?_)
  obtain ⟨rfl, hG9⟩ := hw
  rw [hG9] at hP
  by_cases g_1 : rg_in n 1 100
  · rw [m_in_t g_1]
    refine W.eq (g2 := F0 m 7 ls [.int 1]) rfl ?_
    refine lv_istore_n (lv' := [(2, .int 1), (0, .ref (ly_a y 5)), (1, .int n)]) hK.1.1 hK.1.2.1 dX5_advance_7 rfl hl (by decide) rfl (fun ls hl => ?_)
    refine lv_aload_n hK.1.1 hK.1.2.1 dX5_advance_8 rfl (lv_at hl 1 rfl) ?_
    refine lv_iload_n hK.1.1 hK.1.2.1 dX5_advance_9 rfl (lv_at hl 0 rfl) ?_
    refine lv_iload_n hK.1.1 hK.1.2.1 dX5_advance_10 rfl (lv_at hl 0 rfl) ?_
    refine lv_if_eq (tgt := 30) hK.1.1 hK.1.2.1 dX5_advance_11 (by decide) (fun c => absurd c (by decide)) (fun _ => ?_)
    refine lv_aload_n hK.1.1 hK.1.2.1 dX5_advance_14 rfl (lv_at hl 1 rfl) ?_
    refine mr_93 hK hP hR dX5_advance_15 ?_
    refine lv_iload_n hK.1.1 hK.1.2.1 dX5_advance_18 rfl (lv_at hl 2 rfl) ?_
    refine lv_iadd hK.1.1 hK.1.2.1 dX5_advance_19 ?_
    refine lv_sipush (v := 5000) hK.1.1 hK.1.2.1 dX5_advance_20 (by decide) ?_
    refine lv_icmp_gt (tgt := 30) hK.1.1 hK.1.2.1 dX5_advance_23 (by decide) (fun c23_2 => ?_) (fun c23_2 => ?_)
    · refine lv_iconst (v := 0) hK.1.1 hK.1.2.1 dX5_advance_30 (by decide) ?_
      refine lv_iconst (v := 1) hK.1.1 hK.1.2.1 dX5_advance_31 (by decide) ?_
      refine gk_callV0 (n := 3) (As := [.int 1, .int 0, .int 1]) (rest := []) hK (c_X5_goes l hR (a9 := 1) (b9 := 0) (c9 := 1) (m9 := 2) (x9 := 0) (by decide) (by decide)) (gk_gV q_6_9 q_6_10 q_6_11 q_1_5 q_6_12) ⟨rfl, by decide +kernel, by decide +kernel, by decide +kernel⟩ ⟨(Nat.le_of_ble_eq_true rfl), (Nat.le_of_ble_eq_true rfl)⟩ hP hS (gk_recv hK.2.2.1.1 hP hR.2.2.2.2.2.2.2.2.1 rfl) rfl hl.1 rfl (Nat.le_of_ble_eq_true rfl) dX5_advance_32 ⟨(Nat.le_of_ble_eq_true rfl), (Nat.le_of_ble_eq_true rfl)⟩ (fun v G1 H locs hw hP hS => ?_)
      obtain ⟨rfl, hR⟩ := hw
      refine W.eq (g2 := F0 m 35 ls [.int 0]) rfl ?_
      refine lv_if_ne (tgt := 40) hK.1.1 hK.1.2.1 dX5_advance_35 (by decide) (fun c => absurd c (by decide)) (fun _ => ?_)
      refine lv_iconst (v := 0) hK.1.1 hK.1.2.1 dX5_advance_38 (by decide) ?_
      exact gk_iret0 hK.1 hret hlk hP hS (Nat.le_of_ble_eq_true rfl) (Nat.le_of_ble_eq_true rfl) dX5_advance_39 (Or.inr (Or.inr ⟨g_1, Int32.not_le.mpr c23_2, ⟨_, rfl⟩, hR⟩))
    · refine lv_iconst (v := 1) hK.1.1 hK.1.2.1 dX5_advance_26 (by decide) ?_
      refine lv_goto (tgt := 31) hK.1.1 hK.1.2.1 dX5_advance_27 (by decide) ?_
      refine lv_iconst (v := 1) hK.1.1 hK.1.2.1 dX5_advance_31 (by decide) ?_
      refine gk_callV0 (n := 3) (As := [.int 1, .int 1, .int 1]) (rest := []) hK (c_X5_goes l hR (a9 := 1) (b9 := 1) (c9 := 1) (m9 := 0) (x9 := 1) (by decide) (by decide)) (gk_gV q_6_9 q_6_10 q_6_11 q_1_5 q_6_12) ⟨rfl, by decide +kernel, by decide +kernel, by decide +kernel⟩ ⟨(Nat.le_of_ble_eq_true rfl), (Nat.le_of_ble_eq_true rfl)⟩ hP hS (gk_recv hK.2.2.1.1 hP hR.2.2.2.2.2.2.2.2.1 rfl) rfl hl.1 rfl (Nat.le_of_ble_eq_true rfl) dX5_advance_32 ⟨(Nat.le_of_ble_eq_true rfl), (Nat.le_of_ble_eq_true rfl)⟩ (fun v G1 H locs hw hP hS => ?_)
      obtain ⟨rfl, hR⟩ := hw
      refine W.eq (g2 := F0 m 35 ls [.int 1]) rfl ?_
      refine lv_if_ne (tgt := 40) hK.1.1 hK.1.2.1 dX5_advance_35 (by decide) (fun _ => ?_) (fun c => absurd c (by decide))
      refine lv_aload_n hK.1.1 hK.1.2.1 dX5_advance_40 rfl (lv_at hl 1 rfl) ?_
      refine lv_dup hK.1.1 hK.1.2.1 dX5_advance_41 rfl ?_
      refine mr_93 hK hP hR dX5_advance_42 ?_
      refine lv_iload_n hK.1.1 hK.1.2.1 dX5_advance_45 rfl (lv_at hl 2 rfl) ?_
      refine lv_iadd hK.1.1 hK.1.2.1 dX5_advance_46 ?_
      refine mw_93 hK hP hS hR dX5_advance_47 (fun H locs G hP hS hR => ?_)
      refine lv_aload_n hK.1.1 hK.1.2.1 dX5_advance_50 rfl (lv_at hl 1 rfl) ?_
      refine mr_93 hK hP hR dX5_advance_51 ?_
      exact gk_iret0 hK.1 hret hlk hP hS (Nat.le_of_ble_eq_true rfl) (Nat.le_of_ble_eq_true rfl) dX5_advance_54 (Or.inl ⟨g_1, Int32.not_lt.mp c23_2, rfl, hR⟩)
  · rw [m_in_f g_1]
    refine W.eq (g2 := F0 m 7 ls [.int 0]) rfl ?_
    refine lv_istore_n (lv' := [(2, .int 0), (0, .ref (ly_a y 5)), (1, .int n)]) hK.1.1 hK.1.2.1 dX5_advance_7 rfl hl (by decide) rfl (fun ls hl => ?_)
    refine lv_aload_n hK.1.1 hK.1.2.1 dX5_advance_8 rfl (lv_at hl 1 rfl) ?_
    refine lv_iload_n hK.1.1 hK.1.2.1 dX5_advance_9 rfl (lv_at hl 0 rfl) ?_
    refine lv_iload_n hK.1.1 hK.1.2.1 dX5_advance_10 rfl (lv_at hl 0 rfl) ?_
    refine lv_if_eq (tgt := 30) hK.1.1 hK.1.2.1 dX5_advance_11 (by decide) (fun _ => ?_) (fun c => absurd c (by decide))
    refine lv_iconst (v := 0) hK.1.1 hK.1.2.1 dX5_advance_30 (by decide) ?_
    refine lv_iconst (v := 1) hK.1.1 hK.1.2.1 dX5_advance_31 (by decide) ?_
    refine gk_callV0 (n := 3) (As := [.int 0, .int 0, .int 1]) (rest := []) hK (c_X5_goes l hR (a9 := 0) (b9 := 0) (c9 := 1) (m9 := 1) (x9 := 0) (by decide) (by decide)) (gk_gV q_6_9 q_6_10 q_6_11 q_1_5 q_6_12) ⟨rfl, by decide +kernel, by decide +kernel, by decide +kernel⟩ ⟨(Nat.le_of_ble_eq_true rfl), (Nat.le_of_ble_eq_true rfl)⟩ hP hS (gk_recv hK.2.2.1.1 hP hR.2.2.2.2.2.2.2.2.1 rfl) rfl hl.1 rfl (Nat.le_of_ble_eq_true rfl) dX5_advance_32 ⟨(Nat.le_of_ble_eq_true rfl), (Nat.le_of_ble_eq_true rfl)⟩ (fun v G1 H locs hw hP hS => ?_)
    obtain ⟨rfl, hR⟩ := hw
    refine W.eq (g2 := F0 m 35 ls [.int 0]) rfl ?_
    refine lv_if_ne (tgt := 40) hK.1.1 hK.1.2.1 dX5_advance_35 (by decide) (fun c => absurd c (by decide)) (fun _ => ?_)
    refine lv_iconst (v := 0) hK.1.1 hK.1.2.1 dX5_advance_38 (by decide) ?_
    exact gk_iret0 hK.1 hret hlk hP hS (Nat.le_of_ble_eq_true rfl) (Nat.le_of_ble_eq_true rfl) dX5_advance_39 (Or.inr (Or.inl ⟨g_1, ⟨_, rfl⟩, hR⟩))
set_option maxHeartbeats 4000000 in
set_option maxRecDepth 100000 in
theorem c_X5_lose (l : Launch) {y : ly_T} {A : Nat → Prop} {G : gk_G} {td : Int32} {ru : Nat → Nat → Int32} {fr lv : Nat → Nat} {lt et tl : Nat → Int32} {hf hp : Nat → Option Nat} {ol : Nat → List Nat} {PS : Nat → Prop} {pf : Nat → Nat → Int32} {ov : Int64} {md mq mt : Int32} {mv : Nat → Nat → Int32} {i : Int32}  (hR : rp y G td ru fr lv lt et tl hf hp ol PS pf ov md mq mt mv) : gk_M0 l yX5_lose (Cond.code yX5_lose cX5_lose 3 (some .int)) 3 90 0 0 y A [.ref (ly_a y 5), .int i] G (fun v G1 => (∃ f, f < 5 ∧ i = nI f ∧ v = some (.int (mv 11 f)) ∧ rp y G1 td ru fr lv lt et tl hf hp ol PS pf ov md mq 0 (rp_u2 (rp_u2 mv 11 f md) 12 f 1)) ∨ (rg_out i 5 ∧ (∃ x, v = some (.int x)) ∧ rp y G1 td ru fr lv lt et tl hf hp ol PS pf ov md mq 1 mv)) := by
  refine gk_of0 (cc := cX5_lose) (maxL := 3) (ret := (some .int)) (own := RX5) (by decide +kernel) rfl rfl (Nat.le_of_ble_eq_true rfl) ?_
  intro p e s m below meth c ls hK hret hlk _ hP hS hl
  have hl : lv_has ls 3 [(0, .ref (ly_a y 5)), (1, .int i)] := hl
  refine lv_aload_n hK.1.1 hK.1.2.1 dX5_lose_0 rfl (lv_at hl 0 rfl) ?_
  refine lv_iload_n hK.1.1 hK.1.2.1 dX5_lose_1 rfl (lv_at hl 1 rfl) ?_
  refine gk_callS0 (n := 1) (As := [.int i]) (rest := [.ref (ly_a y 5)]) hK (c_X5_isFile l hR (i := i)) (gk_gS q_8_3 q_8_4 q_1_5 q_8_5) ⟨by decide +kernel, by decide +kernel, by decide +kernel⟩ ⟨(Nat.le_of_ble_eq_true rfl), (Nat.le_of_ble_eq_true rfl)⟩ hP hS rfl hl.1 rfl (Nat.le_of_ble_eq_true rfl) dX5_lose_2 ⟨(Nat.le_of_ble_eq_true rfl), (Nat.le_of_ble_eq_true rfl)⟩ (fun v G1 H locs hw hP hS => ?_)
  obtain ⟨hw, hG9⟩ := hw
  rw [hG9] at hP
  rcases hw with ⟨f_1, hf_1, rfl, rfl⟩ | ⟨ho_2, rfl⟩
  · refine W.eq (g2 := F0 m 5 ls [.int 1, .ref (ly_a y 5)]) rfl ?_
    refine lv_iconst (v := 1) hK.1.1 hK.1.2.1 dX5_lose_5 (by decide) ?_
    refine lv_iconst (v := 1) hK.1.1 hK.1.2.1 dX5_lose_6 (by decide) ?_
    refine gk_callV0 (n := 3) (As := [.int 1, .int 1, .int 1]) (rest := []) hK (c_X5_goes l hR (a9 := 1) (b9 := 1) (c9 := 1) (m9 := 0) (x9 := 1) (by decide) (by decide)) (gk_gV q_6_9 q_6_10 q_6_11 q_1_5 q_6_12) ⟨rfl, by decide +kernel, by decide +kernel, by decide +kernel⟩ ⟨(Nat.le_of_ble_eq_true rfl), (Nat.le_of_ble_eq_true rfl)⟩ hP hS (gk_recv hK.2.2.1.1 hP hR.2.2.2.2.2.2.2.2.1 rfl) rfl hl.1 rfl (Nat.le_of_ble_eq_true rfl) dX5_lose_7 ⟨(Nat.le_of_ble_eq_true rfl), (Nat.le_of_ble_eq_true rfl)⟩ (fun v G1 H locs hw hP hS => ?_)
    obtain ⟨rfl, hR⟩ := hw
    refine W.eq (g2 := F0 m 10 ls [.int 1]) rfl ?_
    refine lv_if_ne (tgt := 15) hK.1.1 hK.1.2.1 dX5_lose_10 (by decide) (fun _ => ?_) (fun c => absurd c (by decide))
    refine lv_aload_n hK.1.1 hK.1.2.1 dX5_lose_15 rfl (lv_at hl 0 rfl) ?_
    refine mr_44 hK hP hR dX5_lose_16 ?_
    refine lv_iload_n hK.1.1 hK.1.2.1 dX5_lose_19 rfl (lv_at hl 1 rfl) ?_
    refine mr_ild hK hP hR 11 (by decide) rfl (j := f_1) hf_1 dX5_lose_20 ?_
    refine lv_istore_n (lv' := [(2, .int (mv 11 f_1)), (0, .ref (ly_a y 5)), (1, .int (nI f_1))]) hK.1.1 hK.1.2.1 dX5_lose_21 rfl hl (by decide) rfl (fun ls hl => ?_)
    refine lv_aload_n hK.1.1 hK.1.2.1 dX5_lose_22 rfl (lv_at hl 1 rfl) ?_
    refine mr_44 hK hP hR dX5_lose_23 ?_
    refine lv_iload_n hK.1.1 hK.1.2.1 dX5_lose_26 rfl (lv_at hl 2 rfl) ?_
    refine lv_aload_n hK.1.1 hK.1.2.1 dX5_lose_27 rfl (lv_at hl 1 rfl) ?_
    refine mr_93 hK hP hR dX5_lose_28 ?_
    refine mw_ist hK hP hS hR 11 (by decide) rfl (j := f_1) hf_1 dX5_lose_31 (fun H locs G hP hS hR => ?_)
    refine lv_aload_n hK.1.1 hK.1.2.1 dX5_lose_32 rfl (lv_at hl 1 rfl) ?_
    refine mr_47 hK hP hR dX5_lose_33 ?_
    refine lv_iload_n hK.1.1 hK.1.2.1 dX5_lose_36 rfl (lv_at hl 2 rfl) ?_
    refine lv_iconst (v := 1) hK.1.1 hK.1.2.1 dX5_lose_37 (by decide) ?_
    refine mw_zst hK hP hS hR 12 (by decide) rfl (j := f_1) hf_1 (by decide) dX5_lose_38 (fun H locs G hP hS hR => ?_)
    refine lv_iload_n hK.1.1 hK.1.2.1 dX5_lose_39 rfl (lv_at hl 0 rfl) ?_
    exact gk_iret0 hK.1 hret hlk hP hS (Nat.le_of_ble_eq_true rfl) (Nat.le_of_ble_eq_true rfl) dX5_lose_40 (Or.inl ⟨f_1, hf_1, rfl, rfl, hR⟩)
  · refine W.eq (g2 := F0 m 5 ls [.int 0, .ref (ly_a y 5)]) rfl ?_
    refine lv_iconst (v := 1) hK.1.1 hK.1.2.1 dX5_lose_5 (by decide) ?_
    refine lv_iconst (v := 1) hK.1.1 hK.1.2.1 dX5_lose_6 (by decide) ?_
    refine gk_callV0 (n := 3) (As := [.int 0, .int 1, .int 1]) (rest := []) hK (c_X5_goes l hR (a9 := 0) (b9 := 1) (c9 := 1) (m9 := 1) (x9 := 0) (by decide) (by decide)) (gk_gV q_6_9 q_6_10 q_6_11 q_1_5 q_6_12) ⟨rfl, by decide +kernel, by decide +kernel, by decide +kernel⟩ ⟨(Nat.le_of_ble_eq_true rfl), (Nat.le_of_ble_eq_true rfl)⟩ hP hS (gk_recv hK.2.2.1.1 hP hR.2.2.2.2.2.2.2.2.1 rfl) rfl hl.1 rfl (Nat.le_of_ble_eq_true rfl) dX5_lose_7 ⟨(Nat.le_of_ble_eq_true rfl), (Nat.le_of_ble_eq_true rfl)⟩ (fun v G1 H locs hw hP hS => ?_)
    obtain ⟨rfl, hR⟩ := hw
    refine W.eq (g2 := F0 m 10 ls [.int 0]) rfl ?_
    refine lv_if_ne (tgt := 15) hK.1.1 hK.1.2.1 dX5_lose_10 (by decide) (fun c => absurd c (by decide)) (fun _ => ?_)
    refine lv_iconst (v := 0) hK.1.1 hK.1.2.1 dX5_lose_13 (by decide) ?_
    exact gk_iret0 hK.1 hret hlk hP hS (Nat.le_of_ble_eq_true rfl) (Nat.le_of_ble_eq_true rfl) dX5_lose_14 (Or.inr ⟨ho_2, ⟨_, rfl⟩, hR⟩)
set_option maxHeartbeats 4000000 in
set_option maxRecDepth 100000 in
theorem c_X5_live (l : Launch) {y : ly_T} {A : Nat → Prop} {G : gk_G} {td : Int32} {ru : Nat → Nat → Int32} {fr lv : Nat → Nat} {lt et tl : Nat → Int32} {hf hp : Nat → Option Nat} {ol : Nat → List Nat} {PS : Nat → Prop} {pf : Nat → Nat → Int32} {ov : Int64} {md mq mt : Int32} {mv : Nat → Nat → Int32} {i : Int32}  (hR : rp y G td ru fr lv lt et tl hf hp ol PS pf ov md mq mt mv) : gk_M0 l yX5_live (Cond.code yX5_live cX5_live 2 (some .int)) 3 90 0 0 y A [.ref (ly_a y 5), .int i] G (fun v G1 => (∃ f, f < 5 ∧ i = nI f ∧ v = some (.int (mv 10 f)) ∧ rp y G1 td ru fr lv lt et tl hf hp ol PS pf ov md mq 0 mv) ∨ (rg_out i 5 ∧ (∃ x, v = some (.int x)) ∧ rp y G1 td ru fr lv lt et tl hf hp ol PS pf ov md mq 1 mv)) := by
  refine gk_of0 (cc := cX5_live) (maxL := 2) (ret := (some .int)) (own := RX5) (by decide +kernel) rfl rfl (Nat.le_of_ble_eq_true rfl) ?_
  intro p e s m below meth c ls hK hret hlk _ hP hS hl
  have hl : lv_has ls 2 [(0, .ref (ly_a y 5)), (1, .int i)] := hl
  refine lv_aload_n hK.1.1 hK.1.2.1 dX5_live_0 rfl (lv_at hl 0 rfl) ?_
  refine lv_iload_n hK.1.1 hK.1.2.1 dX5_live_1 rfl (lv_at hl 1 rfl) ?_
  refine gk_callS0 (n := 1) (As := [.int i]) (rest := [.ref (ly_a y 5)]) hK (c_X5_isFile l hR (i := i)) (gk_gS q_8_3 q_8_4 q_1_5 q_8_5) ⟨by decide +kernel, by decide +kernel, by decide +kernel⟩ ⟨(Nat.le_of_ble_eq_true rfl), (Nat.le_of_ble_eq_true rfl)⟩ hP hS rfl hl.1 rfl (Nat.le_of_ble_eq_true rfl) dX5_live_2 ⟨(Nat.le_of_ble_eq_true rfl), (Nat.le_of_ble_eq_true rfl)⟩ (fun v G1 H locs hw hP hS => ?_)
  obtain ⟨hw, hG9⟩ := hw
  rw [hG9] at hP
  rcases hw with ⟨f_1, hf_1, rfl, rfl⟩ | ⟨ho_2, rfl⟩
  · refine W.eq (g2 := F0 m 5 ls [.int 1, .ref (ly_a y 5)]) rfl ?_
    refine lv_iconst (v := 1) hK.1.1 hK.1.2.1 dX5_live_5 (by decide) ?_
    refine lv_iconst (v := 1) hK.1.1 hK.1.2.1 dX5_live_6 (by decide) ?_
    refine gk_callV0 (n := 3) (As := [.int 1, .int 1, .int 1]) (rest := []) hK (c_X5_goes l hR (a9 := 1) (b9 := 1) (c9 := 1) (m9 := 0) (x9 := 1) (by decide) (by decide)) (gk_gV q_6_9 q_6_10 q_6_11 q_1_5 q_6_12) ⟨rfl, by decide +kernel, by decide +kernel, by decide +kernel⟩ ⟨(Nat.le_of_ble_eq_true rfl), (Nat.le_of_ble_eq_true rfl)⟩ hP hS (gk_recv hK.2.2.1.1 hP hR.2.2.2.2.2.2.2.2.1 rfl) rfl hl.1 rfl (Nat.le_of_ble_eq_true rfl) dX5_live_7 ⟨(Nat.le_of_ble_eq_true rfl), (Nat.le_of_ble_eq_true rfl)⟩ (fun v G1 H locs hw hP hS => ?_)
    obtain ⟨rfl, hR⟩ := hw
    refine W.eq (g2 := F0 m 10 ls [.int 1]) rfl ?_
    refine lv_if_eq (tgt := 22) hK.1.1 hK.1.2.1 dX5_live_10 (by decide) (fun c => absurd c (by decide)) (fun _ => ?_)
    refine lv_aload_n hK.1.1 hK.1.2.1 dX5_live_13 rfl (lv_at hl 0 rfl) ?_
    refine mr_41 hK hP hR dX5_live_14 ?_
    refine lv_iload_n hK.1.1 hK.1.2.1 dX5_live_17 rfl (lv_at hl 1 rfl) ?_
    refine mr_ild hK hP hR 10 (by decide) rfl (j := f_1) hf_1 dX5_live_18 ?_
    refine lv_goto (tgt := 23) hK.1.1 hK.1.2.1 dX5_live_19 (by decide) ?_
    exact gk_iret0 hK.1 hret hlk hP hS (Nat.le_of_ble_eq_true rfl) (Nat.le_of_ble_eq_true rfl) dX5_live_23 (Or.inl ⟨f_1, hf_1, rfl, rfl, hR⟩)
  · refine W.eq (g2 := F0 m 5 ls [.int 0, .ref (ly_a y 5)]) rfl ?_
    refine lv_iconst (v := 1) hK.1.1 hK.1.2.1 dX5_live_5 (by decide) ?_
    refine lv_iconst (v := 1) hK.1.1 hK.1.2.1 dX5_live_6 (by decide) ?_
    refine gk_callV0 (n := 3) (As := [.int 0, .int 1, .int 1]) (rest := []) hK (c_X5_goes l hR (a9 := 0) (b9 := 1) (c9 := 1) (m9 := 1) (x9 := 0) (by decide) (by decide)) (gk_gV q_6_9 q_6_10 q_6_11 q_1_5 q_6_12) ⟨rfl, by decide +kernel, by decide +kernel, by decide +kernel⟩ ⟨(Nat.le_of_ble_eq_true rfl), (Nat.le_of_ble_eq_true rfl)⟩ hP hS (gk_recv hK.2.2.1.1 hP hR.2.2.2.2.2.2.2.2.1 rfl) rfl hl.1 rfl (Nat.le_of_ble_eq_true rfl) dX5_live_7 ⟨(Nat.le_of_ble_eq_true rfl), (Nat.le_of_ble_eq_true rfl)⟩ (fun v G1 H locs hw hP hS => ?_)
    obtain ⟨rfl, hR⟩ := hw
    refine W.eq (g2 := F0 m 10 ls [.int 0]) rfl ?_
    refine lv_if_eq (tgt := 22) hK.1.1 hK.1.2.1 dX5_live_10 (by decide) (fun _ => ?_) (fun c => absurd c (by decide))
    refine lv_iconst (v := 0) hK.1.1 hK.1.2.1 dX5_live_22 (by decide) ?_
    exact gk_iret0 hK.1 hret hlk hP hS (Nat.le_of_ble_eq_true rfl) (Nat.le_of_ble_eq_true rfl) dX5_live_23 (Or.inr ⟨ho_2, ⟨_, rfl⟩, hR⟩)
set_option maxHeartbeats 4000000 in
set_option maxRecDepth 100000 in
theorem c_X5_thrown_ (l : Launch) {y : ly_T} {A : Nat → Prop} {G : gk_G} {td : Int32} {ru : Nat → Nat → Int32} {fr lv : Nat → Nat} {lt et tl : Nat → Int32} {hf hp : Nat → Option Nat} {ol : Nat → List Nat} {PS : Nat → Prop} {pf : Nat → Nat → Int32} {ov : Int64} {md mq mt : Int32} {mv : Nat → Nat → Int32} {i : Int32}  (hR : rp y G td ru fr lv lt et tl hf hp ol PS pf ov md mq mt mv) : gk_M0 l yX5_thrown_ (Cond.code yX5_thrown_ cX5_thrown_ 2 (some .int)) 3 90 0 0 y A [.ref (ly_a y 5), .int i] G (fun v G1 => (∃ f, f < 5 ∧ i = nI f ∧ v = some (.int (mv 13 f)) ∧ rp y G1 td ru fr lv lt et tl hf hp ol PS pf ov md mq 0 mv) ∨ (rg_out i 5 ∧ (∃ x, v = some (.int x)) ∧ rp y G1 td ru fr lv lt et tl hf hp ol PS pf ov md mq 1 mv)) := by
  refine gk_of0 (cc := cX5_thrown_) (maxL := 2) (ret := (some .int)) (own := RX5) (by decide +kernel) rfl rfl (Nat.le_of_ble_eq_true rfl) ?_
  intro p e s m below meth c ls hK hret hlk _ hP hS hl
  have hl : lv_has ls 2 [(0, .ref (ly_a y 5)), (1, .int i)] := hl
  refine lv_aload_n hK.1.1 hK.1.2.1 dX5_thrown__0 rfl (lv_at hl 0 rfl) ?_
  refine lv_iload_n hK.1.1 hK.1.2.1 dX5_thrown__1 rfl (lv_at hl 1 rfl) ?_
  refine gk_callS0 (n := 1) (As := [.int i]) (rest := [.ref (ly_a y 5)]) hK (c_X5_isFile l hR (i := i)) (gk_gS q_8_3 q_8_4 q_1_5 q_8_5) ⟨by decide +kernel, by decide +kernel, by decide +kernel⟩ ⟨(Nat.le_of_ble_eq_true rfl), (Nat.le_of_ble_eq_true rfl)⟩ hP hS rfl hl.1 rfl (Nat.le_of_ble_eq_true rfl) dX5_thrown__2 ⟨(Nat.le_of_ble_eq_true rfl), (Nat.le_of_ble_eq_true rfl)⟩ (fun v G1 H locs hw hP hS => ?_)
  obtain ⟨hw, hG9⟩ := hw
  rw [hG9] at hP
  rcases hw with ⟨f_1, hf_1, rfl, rfl⟩ | ⟨ho_2, rfl⟩
  · refine W.eq (g2 := F0 m 5 ls [.int 1, .ref (ly_a y 5)]) rfl ?_
    refine lv_iconst (v := 1) hK.1.1 hK.1.2.1 dX5_thrown__5 (by decide) ?_
    refine lv_iconst (v := 1) hK.1.1 hK.1.2.1 dX5_thrown__6 (by decide) ?_
    refine gk_callV0 (n := 3) (As := [.int 1, .int 1, .int 1]) (rest := []) hK (c_X5_goes l hR (a9 := 1) (b9 := 1) (c9 := 1) (m9 := 0) (x9 := 1) (by decide) (by decide)) (gk_gV q_6_9 q_6_10 q_6_11 q_1_5 q_6_12) ⟨rfl, by decide +kernel, by decide +kernel, by decide +kernel⟩ ⟨(Nat.le_of_ble_eq_true rfl), (Nat.le_of_ble_eq_true rfl)⟩ hP hS (gk_recv hK.2.2.1.1 hP hR.2.2.2.2.2.2.2.2.1 rfl) rfl hl.1 rfl (Nat.le_of_ble_eq_true rfl) dX5_thrown__7 ⟨(Nat.le_of_ble_eq_true rfl), (Nat.le_of_ble_eq_true rfl)⟩ (fun v G1 H locs hw hP hS => ?_)
    obtain ⟨rfl, hR⟩ := hw
    refine W.eq (g2 := F0 m 10 ls [.int 1]) rfl ?_
    refine lv_if_eq (tgt := 22) hK.1.1 hK.1.2.1 dX5_thrown__10 (by decide) (fun c => absurd c (by decide)) (fun _ => ?_)
    refine lv_aload_n hK.1.1 hK.1.2.1 dX5_thrown__13 rfl (lv_at hl 0 rfl) ?_
    refine mr_50 hK hP hR dX5_thrown__14 ?_
    refine lv_iload_n hK.1.1 hK.1.2.1 dX5_thrown__17 rfl (lv_at hl 1 rfl) ?_
    refine mr_ild hK hP hR 13 (by decide) rfl (j := f_1) hf_1 dX5_thrown__18 ?_
    refine lv_goto (tgt := 23) hK.1.1 hK.1.2.1 dX5_thrown__19 (by decide) ?_
    exact gk_iret0 hK.1 hret hlk hP hS (Nat.le_of_ble_eq_true rfl) (Nat.le_of_ble_eq_true rfl) dX5_thrown__23 (Or.inl ⟨f_1, hf_1, rfl, rfl, hR⟩)
  · refine W.eq (g2 := F0 m 5 ls [.int 0, .ref (ly_a y 5)]) rfl ?_
    refine lv_iconst (v := 1) hK.1.1 hK.1.2.1 dX5_thrown__5 (by decide) ?_
    refine lv_iconst (v := 1) hK.1.1 hK.1.2.1 dX5_thrown__6 (by decide) ?_
    refine gk_callV0 (n := 3) (As := [.int 0, .int 1, .int 1]) (rest := []) hK (c_X5_goes l hR (a9 := 0) (b9 := 1) (c9 := 1) (m9 := 1) (x9 := 0) (by decide) (by decide)) (gk_gV q_6_9 q_6_10 q_6_11 q_1_5 q_6_12) ⟨rfl, by decide +kernel, by decide +kernel, by decide +kernel⟩ ⟨(Nat.le_of_ble_eq_true rfl), (Nat.le_of_ble_eq_true rfl)⟩ hP hS (gk_recv hK.2.2.1.1 hP hR.2.2.2.2.2.2.2.2.1 rfl) rfl hl.1 rfl (Nat.le_of_ble_eq_true rfl) dX5_thrown__7 ⟨(Nat.le_of_ble_eq_true rfl), (Nat.le_of_ble_eq_true rfl)⟩ (fun v G1 H locs hw hP hS => ?_)
    obtain ⟨rfl, hR⟩ := hw
    refine W.eq (g2 := F0 m 10 ls [.int 0]) rfl ?_
    refine lv_if_eq (tgt := 22) hK.1.1 hK.1.2.1 dX5_thrown__10 (by decide) (fun _ => ?_) (fun c => absurd c (by decide))
    refine lv_iconst (v := 0) hK.1.1 hK.1.2.1 dX5_thrown__22 (by decide) ?_
    exact gk_iret0 hK.1 hret hlk hP hS (Nat.le_of_ble_eq_true rfl) (Nat.le_of_ble_eq_true rfl) dX5_thrown__23 (Or.inr ⟨ho_2, ⟨_, rfl⟩, hR⟩)
set_option maxHeartbeats 4000000 in
set_option maxRecDepth 100000 in
theorem c_X5_day (l : Launch) {y : ly_T} {A : Nat → Prop} {G : gk_G} {td : Int32} {ru : Nat → Nat → Int32} {fr lv : Nat → Nat} {lt et tl : Nat → Int32} {hf hp : Nat → Option Nat} {ol : Nat → List Nat} {PS : Nat → Prop} {pf : Nat → Nat → Int32} {ov : Int64} {md mq mt : Int32} {mv : Nat → Nat → Int32}  (hR : rp y G td ru fr lv lt et tl hf hp ol PS pf ov md mq mt mv) : gk_M0 l yX5_day (Cond.code yX5_day cX5_day 1 (some .int)) 0 0 0 0 y A [.ref (ly_a y 5)] G (fun v G1 => v = some (.int md) ∧ rp y G1 td ru fr lv lt et tl hf hp ol PS pf ov md mq 0 mv) := by
  refine gk_of0 (cc := cX5_day) (maxL := 1) (ret := (some .int)) (own := RX5) (by decide +kernel) rfl rfl (Nat.le_of_ble_eq_true rfl) ?_
  intro p e s m below meth c ls hK hret hlk _ hP hS hl
  have hl : lv_has ls 1 [(0, .ref (ly_a y 5))] := hl
  refine lv_aload_n hK.1.1 hK.1.2.1 dX5_day_0 rfl (lv_at hl 0 rfl) ?_
  refine lv_iconst (v := 0) hK.1.1 hK.1.2.1 dX5_day_1 (by decide) ?_
  refine mw_71 hK hP hS hR dX5_day_2 (fun H locs G hP hS hR => ?_)
  refine lv_aload_n hK.1.1 hK.1.2.1 dX5_day_5 rfl (lv_at hl 0 rfl) ?_
  refine mr_93 hK hP hR dX5_day_6 ?_
  exact gk_iret0 hK.1 hret hlk hP hS (Nat.le_of_ble_eq_true rfl) (Nat.le_of_ble_eq_true rfl) dX5_day_9 (⟨rfl, hR⟩)
set_option maxHeartbeats 4000000 in
set_option maxRecDepth 100000 in
theorem c_X5_thrown (l : Launch) {y : ly_T} {A : Nat → Prop} {G : gk_G} {td : Int32} {ru : Nat → Nat → Int32} {fr lv : Nat → Nat} {lt et tl : Nat → Int32} {hf hp : Nat → Option Nat} {ol : Nat → List Nat} {PS : Nat → Prop} {pf : Nat → Nat → Int32} {ov : Int64} {md mq mt : Int32} {mv : Nat → Nat → Int32}  (hR : rp y G td ru fr lv lt et tl hf hp ol PS pf ov md mq mt mv) : gk_M0 l yX5_thrown (Cond.code yX5_thrown cX5_thrown 1 (some .int)) 0 0 0 0 y A [.ref (ly_a y 5)] G (fun v G1 => v = some (.int mt) ∧ G1 = G) := by
  refine gk_of0 (cc := cX5_thrown) (maxL := 1) (ret := (some .int)) (own := RX5) (by decide +kernel) rfl rfl (Nat.le_of_ble_eq_true rfl) ?_
  intro p e s m below meth c ls hK hret hlk _ hP hS hl
  have hl : lv_has ls 1 [(0, .ref (ly_a y 5))] := hl
  refine lv_aload_n hK.1.1 hK.1.2.1 dX5_thrown_0 rfl (lv_at hl 0 rfl) ?_
  refine mr_71 hK hP hR dX5_thrown_1 ?_
  exact gk_iret0 hK.1 hret hlk hP hS (Nat.le_of_ble_eq_true rfl) (Nat.le_of_ble_eq_true rfl) dX5_thrown_4 (⟨rfl, rfl⟩)
