/-! the library's list: add and remove -/
set_option maxHeartbeats 4000000 in
set_option maxRecDepth 100000 in
theorem c_Jx4a65c_grow_92f84 (l : Launch) {y : ly_T} {A : Nat → Prop} {G : gk_G} {mc : Int32} {la ed n : Nat} {g : Nat → Option Nat} (hL : G la = some (.inr (0, [.int mc, .ref ed, .int (nI n)]))) (hF : (n = 0 ∧ ed = ly_a y 6) ∨ (G ed = some (rp_r (ly_k y 6) n g) ∧ 0 < n)) (hn9 : n ≤ 999) (hel : ∀ i, i < n → ∀ t, g i = some t → gl_pt G t) : gk_M0 l yJx4a65c_grow_92f84 (Cond.code yJx4a65c_grow_92f84 cJx4a65c_grow_92f84 4 (some (.array (.object "java/lang/Object")))) 3 120 1 1500 y A [.ref la, .int (nI (n + 1))] G (fun v G1 => ∃ q cap2 g2, G q = none ∧ v = some (.ref q) ∧ G1 = gk_up (gk_up G q (rp_r (ly_k y 6) cap2 g2)) la (.inr (0, [.int mc, .ref q, .int (nI n)])) ∧ n < cap2 ∧ cap2 ≤ 1500 ∧ ∀ k, k < n → g2 k = g k) := by
  refine gk_of0 (cc := cJx4a65c_grow_92f84) (maxL := 4) (ret := (some (.array (.object "java/lang/Object")))) (own := RJx4a65c) (by decide +kernel) rfl rfl (Nat.le_of_ble_eq_true rfl) ?_
  intro p e s m below meth c ls hK hret hlk _ hP hS hl
  have hl : lv_has ls 4 [(0, .ref la), (1, .int (nI (n + 1)))] := hl
  rcases hF with ⟨rfl, rfl⟩ | ⟨hE, h0⟩
  · refine lv_aload_n hK.1.1 hK.1.2.1 dJx4a65c_grow_92f84_0 rfl (lv_at hl 0 rfl) ?_
    refine gk_get hK.1 hK.2.2.1.1 hP (k := 1) hL rfl inlJx4a65c (by decide) q_3_1 (fun _ h => h) rfl dJx4a65c_grow_92f84_1 ?_
    refine va_tlen (v := 0) hK.1.1 hK.1.2.1 hK.2.2.1.2.2.2.2.2.2 hS rfl dJx4a65c_grow_92f84_4 ?_
    refine lv_istore_n (lv' := [(2, .int 0), (0, .ref la), (1, .int (nI (0 + 1)))]) hK.1.1 hK.1.2.1 dJx4a65c_grow_92f84_5 rfl hl (by decide) rfl (fun ls hl => ?_)
    refine lv_iload_n hK.1.1 hK.1.2.1 dJx4a65c_grow_92f84_6 rfl (lv_at hl 0 rfl) ?_
    refine lv_if_gt (tgt := 20) hK.1.1 hK.1.2.1 dJx4a65c_grow_92f84_7 (by decide) (fun c => absurd c (by decide)) (fun _ => ?_)
    refine lv_aload_n hK.1.1 hK.1.2.1 dJx4a65c_grow_92f84_10 rfl (lv_at hl 1 rfl) ?_
    refine gk_get hK.1 hK.2.2.1.1 hP (k := 1) hL rfl inlJx4a65c (by decide) q_3_1 (fun _ h => h) rfl dJx4a65c_grow_92f84_11 ?_
    refine va_gets hK.1.1 hK.1.2.1 hK.2.2.1.2.2.2.2.2.1 hS hK.1.2.2.1 (hK.1.2.2.2 _ q_3_0) (fun _ h => h) dJx4a65c_grow_92f84_14 ?_
    refine lv_acmp_eq (rx := some (ly_a y 6)) (ry := some (ly_a y 6)) (tgt := 45) hK.1.1 hK.1.2.1 dJx4a65c_grow_92f84_17 (by decide) (fun _ => ?_) (fun c => absurd rfl c)
    refine lv_aload_n hK.1.1 hK.1.2.1 dJx4a65c_grow_92f84_45 rfl (lv_at hl 1 rfl) ?_
    refine lv_bipush (v := 10) hK.1.1 hK.1.2.1 dJx4a65c_grow_92f84_46 (by decide) ?_
    refine lv_iload_n hK.1.1 hK.1.2.1 dJx4a65c_grow_92f84_48 rfl (lv_at hl 2 rfl) ?_
    refine va_mmax hK.1.1 hK.1.2.1 (hK.2.1.trans hl.1.symm) hK.1.2.2.1 (hK.1.2.2.2 _ q_6_12) (hK.1.2.2.2 _ q_6_13) (hK.1.2.2.2 _ q_6_14) (hK.1.2.2.2 _ q_6_15) (Nat.le_of_ble_eq_true rfl) (Nat.le_of_ble_eq_true rfl) (Nat.le_of_ble_eq_true rfl) (Nat.le_of_ble_eq_true rfl) dJx4a65c_grow_92f84_49 ?_
    rw [show (if (10 : Int32) < nI (0 + 1) then nI (0 + 1) else 10) = nI 10 from by decide]
    refine gk_newq hK.1 hK.2.2.1.1 hP hS hK.2.2.2 q_6_16 hK.2.2.1.2.2.1.1.1 6 rfl (by decide) (nI_clamp (by decide)) (by decide) (Nat.le_of_ble_eq_true rfl) (Nat.le_of_ble_eq_true rfl) dJx4a65c_grow_92f84_52 (fun q9 H hn hP hS => ?_)
    obtain ⟨G_1, hG_1⟩ : ∃ z, z = gk_up G q9 (rp_r (ly_k y 6) 10 (fun _ => none)) := ⟨_, rfl⟩
    have hP : gk_P (ly_D y) A G_1 H := by rw [hG_1]; exact hP
    have f_2 : G_1 q9 = some (rp_r (ly_k y 6) 10 (fun _ => none)) := by rw [hG_1]; exact gk_us _ _ _
    have k_3 : G_1 la = some (.inr (0, [.int mc, .ref (ly_a y 6), .int (nI 0)])) := by rw [hG_1]; exact gk_keepN hn hL
    refine lv_dup_x1 hK.1.1 hK.1.2.1 dJx4a65c_grow_92f84_55 rfl rfl ?_
    refine gk_put hK.1 hK.2.2.1.1 hP hS (k := 1) k_3 rfl inlJx4a65c tyJx4a65c tyJx4a65c_ok nmJx4a65c (by decide) q_3_1 (fun _ h => h) rfl rfl rfl (Nat.le_of_ble_eq_true rfl) dJx4a65c_grow_92f84_56 (fun H locs hP hS => ?_)
    obtain ⟨G_4, hG_4⟩ : ∃ z, z = gk_up G_1 la (.inr (0, [.int mc, .ref q9, .int (nI 0)])) := ⟨_, rfl⟩
    have hP : gk_P (ly_D y) A G_4 H := by rw [hG_4]; exact hP
    have f_5 : G_4 la = some (.inr (0, [.int mc, .ref q9, .int (nI 0)])) := by rw [hG_4]; exact gk_us _ _ _
    exact gk_aret0 hK.1 hret (by first | exact Or.inl ⟨_, rfl⟩ | exact Or.inr ⟨_, rfl⟩) (by first | exact Or.inr ⟨_, rfl⟩ | exact Or.inl rfl | exact va_rf_or _) hlk hP hS (Nat.le_of_ble_eq_true rfl) (Nat.le_of_ble_eq_true rfl) dJx4a65c_grow_92f84_59 ⟨q9, 10, _, hn, rfl, by rw [hG_4, hG_1], by decide, by decide, fun k hk => absurd hk (Nat.not_lt_zero k)⟩
  · refine lv_aload_n hK.1.1 hK.1.2.1 dJx4a65c_grow_92f84_0 rfl (lv_at hl 0 rfl) ?_
    refine gk_get hK.1 hK.2.2.1.1 hP (k := 1) hL rfl inlJx4a65c (by decide) q_3_1 (fun _ h => h) rfl dJx4a65c_grow_92f84_1 ?_
    refine gk_alen hK.1 hK.2.2.1.1 hP 6 hE rfl dJx4a65c_grow_92f84_4 ?_
    refine lv_istore_n (lv' := [(2, .int (nI n)), (0, .ref la), (1, .int (nI (n + 1)))]) hK.1.1 hK.1.2.1 dJx4a65c_grow_92f84_5 rfl hl (by decide) rfl (fun ls hl => ?_)
    refine lv_iload_n hK.1.1 hK.1.2.1 dJx4a65c_grow_92f84_6 rfl (lv_at hl 0 rfl) ?_
    refine lv_if_gt (tgt := 20) hK.1.1 hK.1.2.1 dJx4a65c_grow_92f84_7 (by decide) (fun c7_6 => ?_) (fun c7_6 => ?_)
    · refine lv_iload_n hK.1.1 hK.1.2.1 dJx4a65c_grow_92f84_20 rfl (lv_at hl 0 rfl) ?_
      refine lv_iload_n hK.1.1 hK.1.2.1 dJx4a65c_grow_92f84_21 rfl (lv_at hl 2 rfl) ?_
      refine lv_iload_n hK.1.1 hK.1.2.1 dJx4a65c_grow_92f84_22 rfl (lv_at hl 0 rfl) ?_
      refine lv_isub hK.1.1 hK.1.2.1 dJx4a65c_grow_92f84_23 ?_
      rw [pk_sub (by omega), show n + 1 - n = 1 by omega]
      refine lv_iload_n hK.1.1 hK.1.2.1 dJx4a65c_grow_92f84_24 rfl (lv_at hl 0 rfl) ?_
      refine lv_iconst (v := 1) hK.1.1 hK.1.2.1 dJx4a65c_grow_92f84_25 (by decide) ?_
      refine lv_ishr hK.1.1 hK.1.2.1 dJx4a65c_grow_92f84_26 ?_
      rw [pk_shrN (by omega) _ 1 (by decide), Nat.pow_one]
      refine gk_callS0 (n := 3) (As := [.int (nI n), .int (nI 1), .int (nI (n / 2))]) (rest := []) hK (c_J8_newLength_cabcc l (by omega) (by omega)) (gk_gS q_6_17 q_6_18 q_6_19 q_6_20) ⟨by decide +kernel, by decide +kernel, by decide +kernel⟩ ⟨(Nat.le_of_ble_eq_true rfl), (Nat.le_of_ble_eq_true rfl)⟩ hP hS rfl hl.1 rfl (Nat.le_of_ble_eq_true rfl) dJx4a65c_grow_92f84_27 ⟨(Nat.le_of_ble_eq_true rfl), (Nat.le_of_ble_eq_true rfl)⟩ (fun v G1 H locs hw hP hS => ?_)
      obtain ⟨rfl, hG9⟩ := hw
      rw [hG9] at hP
      refine W.eq (g2 := F0 m 30 ls [.int (nI (n + max 1 (n / 2)))]) rfl ?_
      refine lv_istore_n (lv' := [(3, .int (nI (n + max 1 (n / 2)))), (2, .int (nI n)), (0, .ref la), (1, .int (nI (n + 1)))]) hK.1.1 hK.1.2.1 dJx4a65c_grow_92f84_30 rfl hl (by decide) rfl (fun ls hl => ?_)
      refine lv_aload_n hK.1.1 hK.1.2.1 dJx4a65c_grow_92f84_31 rfl (lv_at hl 2 rfl) ?_
      refine lv_aload_n hK.1.1 hK.1.2.1 dJx4a65c_grow_92f84_32 rfl (lv_at hl 2 rfl) ?_
      refine gk_get hK.1 hK.2.2.1.1 hP (k := 1) hL rfl inlJx4a65c (by decide) q_3_1 (fun _ h => h) rfl dJx4a65c_grow_92f84_33 ?_
      refine lv_iload_n hK.1.1 hK.1.2.1 dJx4a65c_grow_92f84_36 rfl (lv_at hl 0 rfl) ?_
      refine gk_callS0 (n := 2) (As := [.ref ed, .int (nI (n + max 1 (n / 2)))]) (rest := [.ref la]) hK (c_J7_copyOf_1904c l hE (Nat.le_add_right _ _) (by omega) hel) (gk_gS q_7_2 q_7_3 q_7_4 q_7_5) ⟨by decide +kernel, by decide +kernel, by decide +kernel⟩ ⟨(Nat.le_of_ble_eq_true rfl), (Nat.le_of_ble_eq_true rfl)⟩ hP hS rfl hl.1 rfl (Nat.le_of_ble_eq_true rfl) dJx4a65c_grow_92f84_37 ⟨(Nat.le_of_ble_eq_true rfl), (Nat.le_of_ble_eq_true rfl)⟩ (fun v G1 H locs hw hP hS => ?_)
      obtain ⟨q9, g2, hn, rfl, hG9, hg2⟩ := hw
      rw [hG9] at hP
      obtain ⟨G_7, hG_7⟩ : ∃ z, z = gk_up G q9 (rp_r (ly_k y 6) (n + max 1 (n / 2)) g2) := ⟨_, rfl⟩
      have hP : gk_P (ly_D y) A G_7 H := by rw [hG_7]; exact hP
      have f_8 : G_7 q9 = some (rp_r (ly_k y 6) (n + max 1 (n / 2)) g2) := by rw [hG_7]; exact gk_us _ _ _
      have k_9 : G_7 la = some (.inr (0, [.int mc, .ref ed, .int (nI n)])) := by rw [hG_7]; exact gk_keepN hn hL
      refine W.eq (g2 := F0 m 40 ls [.ref q9, .ref la]) rfl ?_
      refine lv_dup_x1 hK.1.1 hK.1.2.1 dJx4a65c_grow_92f84_40 rfl rfl ?_
      refine gk_put hK.1 hK.2.2.1.1 hP hS (k := 1) k_9 rfl inlJx4a65c tyJx4a65c tyJx4a65c_ok nmJx4a65c (by decide) q_3_1 (fun _ h => h) rfl rfl rfl (Nat.le_of_ble_eq_true rfl) dJx4a65c_grow_92f84_41 (fun H locs hP hS => ?_)
      obtain ⟨G_10, hG_10⟩ : ∃ z, z = gk_up G_7 la (.inr (0, [.int mc, .ref q9, .int (nI n)])) := ⟨_, rfl⟩
      have hP : gk_P (ly_D y) A G_10 H := by rw [hG_10]; exact hP
      have f_11 : G_10 la = some (.inr (0, [.int mc, .ref q9, .int (nI n)])) := by rw [hG_10]; exact gk_us _ _ _
      exact gk_aret0 hK.1 hret (by first | exact Or.inl ⟨_, rfl⟩ | exact Or.inr ⟨_, rfl⟩) (by first | exact Or.inr ⟨_, rfl⟩ | exact Or.inl rfl | exact va_rf_or _) hlk hP hS (Nat.le_of_ble_eq_true rfl) (Nat.le_of_ble_eq_true rfl) dJx4a65c_grow_92f84_44 ⟨q9, _, g2, hn, rfl, by rw [hG_10, hG_7], by omega, by omega, hg2⟩
    · exact absurd (nI_lt (a := 0) (b := n) h0 (by omega)) c7_6
set_option maxHeartbeats 4000000 in
set_option maxRecDepth 100000 in
theorem c_Jx4a65c_grow_d5877 (l : Launch) {y : ly_T} {A : Nat → Prop} {G : gk_G} {mc : Int32} {la ed n : Nat} {g : Nat → Option Nat} (hL : G la = some (.inr (0, [.int mc, .ref ed, .int (nI n)]))) (hF : (n = 0 ∧ ed = ly_a y 6) ∨ (G ed = some (rp_r (ly_k y 6) n g) ∧ 0 < n)) (hn9 : n ≤ 999) (hel : ∀ i, i < n → ∀ t, g i = some t → gl_pt G t) : gk_M0 l yJx4a65c_grow_d5877 (Cond.code yJx4a65c_grow_d5877 cJx4a65c_grow_d5877 1 (some (.array (.object "java/lang/Object")))) 4 150 1 1500 y A [.ref la] G (fun v G1 => ∃ q cap2 g2, G q = none ∧ v = some (.ref q) ∧ G1 = gk_up (gk_up G q (rp_r (ly_k y 6) cap2 g2)) la (.inr (0, [.int mc, .ref q, .int (nI n)])) ∧ n < cap2 ∧ cap2 ≤ 1500 ∧ ∀ k, k < n → g2 k = g k) := by
  refine gk_of0 (cc := cJx4a65c_grow_d5877) (maxL := 1) (ret := (some (.array (.object "java/lang/Object")))) (own := RJx4a65c) (by decide +kernel) rfl rfl (Nat.le_of_ble_eq_true rfl) ?_
  intro p e s m below meth c ls hK hret hlk _ hP hS hl
  have hl : lv_has ls 1 [(0, .ref la)] := hl
  refine lv_aload_n hK.1.1 hK.1.2.1 dJx4a65c_grow_d5877_0 rfl (lv_at hl 0 rfl) ?_
  refine lv_aload_n hK.1.1 hK.1.2.1 dJx4a65c_grow_d5877_1 rfl (lv_at hl 0 rfl) ?_
  refine gk_get hK.1 hK.2.2.1.1 hP (k := 2) hL rfl inlJx4a65c (by decide) q_5_17 (fun _ h => h) rfl dJx4a65c_grow_d5877_2 ?_
  refine lv_iconst (v := 1) hK.1.1 hK.1.2.1 dJx4a65c_grow_d5877_5 (by decide) ?_
  refine lv_iadd hK.1.1 hK.1.2.1 dJx4a65c_grow_d5877_6 ?_
  rw [nI_1]
  refine gk_callV0 (n := 1) (As := [.int (nI (n + 1))]) (rest := []) hK (c_Jx4a65c_grow_92f84 l hL hF hn9 hel) (gk_gV q_6_8 q_6_9 q_6_10 q_2_13 q_6_11) ⟨rfl, by decide +kernel, by decide +kernel, by decide +kernel⟩ ⟨(Nat.le_of_ble_eq_true rfl), (Nat.le_of_ble_eq_true rfl)⟩ hP hS (gk_recv hK.2.2.1.1 hP hL rfl) rfl hl.1 rfl (Nat.le_of_ble_eq_true rfl) dJx4a65c_grow_d5877_7 ⟨(Nat.le_of_ble_eq_true rfl), (Nat.le_of_ble_eq_true rfl)⟩ (fun v G1 H locs hw hP hS => ?_)
  obtain ⟨q9, cap2, g2, hn, rfl, hG9, hc1, hc2, hg2⟩ := hw
  rw [hG9] at hP
  refine W.eq (g2 := F0 m 10 ls [.ref q9]) rfl ?_
  exact gk_aret0 hK.1 hret (by first | exact Or.inl ⟨_, rfl⟩ | exact Or.inr ⟨_, rfl⟩) (by first | exact Or.inr ⟨_, rfl⟩ | exact Or.inl rfl | exact va_rf_or _) hlk hP hS (Nat.le_of_ble_eq_true rfl) (Nat.le_of_ble_eq_true rfl) dJx4a65c_grow_d5877_10 ⟨q9, cap2, g2, hn, rfl, rfl, hc1, hc2, hg2⟩
set_option maxHeartbeats 4000000 in
set_option maxRecDepth 100000 in
theorem c_Jx4a65c_add_72be8 (l : Launch) {y : ly_T} {A : Nat → Prop} {G : gk_G} {mc : Int32} {la ed n t : Nat} {g : Nat → Option Nat} (hL : G la = some (.inr (0, [.int mc, .ref ed, .int (nI n)]))) (hF : (n = 0 ∧ ed = ly_a y 6) ∨ ∃ cap, G ed = some (rp_r (ly_k y 6) cap g) ∧ n ≤ cap ∧ 0 < cap ∧ cap ≤ 1500) (hn9 : n ≤ 999) (hel : ∀ i, i < n → ∀ t, g i = some t → gl_pt G t) (ht : gl_pt G t) : gk_M0 l yJx4a65c_add_72be8 (Cond.code yJx4a65c_add_72be8 cJx4a65c_add_72be8 4 none) 5 180 1 1500 y A [.ref la, .ref t, .ref ed, .int (nI n)] G (fun v G1 => v = none ∧ ∃ ed2 cap2 g2, G1 la = some (.inr (0, [.int mc, .ref ed2, .int (nI (n + 1))])) ∧ G1 ed2 = some (rp_r (ly_k y 6) cap2 g2) ∧ n < cap2 ∧ cap2 ≤ 1500 ∧ g2 n = some t ∧ (∀ k, k < n → g2 k = g k) ∧ (ed2 = ed ∨ G ed2 = none) ∧ ∀ b e, b ≠ la → b ≠ ed2 → G b = some e → G1 b = some e) := by
  refine gk_of0 (cc := cJx4a65c_add_72be8) (maxL := 4) (ret := none) (own := RJx4a65c) (by decide +kernel) rfl rfl (Nat.le_of_ble_eq_true rfl) ?_
  intro p e s m below meth c ls hK hret hlk _ hP hS hl
  have hl : lv_has ls 4 [(0, .ref la), (1, .ref t), (2, .ref ed), (3, .int (nI n))] := hl
  obtain ⟨vt, hvt⟩ := ht
  rcases hF with ⟨rfl, rfl⟩ | ⟨cap, hE, hnc, h0, hcap⟩
  · refine lv_iload_n hK.1.1 hK.1.2.1 dJx4a65c_add_72be8_0 rfl (lv_at hl 3 rfl) ?_
    refine lv_aload_n hK.1.1 hK.1.2.1 dJx4a65c_add_72be8_1 rfl (lv_at hl 2 rfl) ?_
    refine va_tlen (v := 0) hK.1.1 hK.1.2.1 hK.2.2.1.2.2.2.2.2.2 hS rfl dJx4a65c_add_72be8_2 ?_
    refine lv_icmp_ne (tgt := 11) hK.1.1 hK.1.2.1 dJx4a65c_add_72be8_3 (by decide) (fun c => absurd (by decide) c) (fun _ => ?_)
    refine lv_aload_n hK.1.1 hK.1.2.1 dJx4a65c_add_72be8_6 rfl (lv_at hl 0 rfl) ?_
    refine gk_callV0 (n := 0) (As := []) (rest := []) hK (c_Jx4a65c_grow_d5877 l hL (Or.inl ⟨rfl, rfl⟩) hn9 hel) (gk_gV q_6_4 q_6_5 q_6_6 q_2_13 q_6_7) ⟨rfl, by decide +kernel, by decide +kernel, by decide +kernel⟩ ⟨(Nat.le_of_ble_eq_true rfl), (Nat.le_of_ble_eq_true rfl)⟩ hP hS (gk_recv hK.2.2.1.1 hP hL rfl) rfl hl.1 rfl (Nat.le_of_ble_eq_true rfl) dJx4a65c_add_72be8_7 ⟨(Nat.le_of_ble_eq_true rfl), (Nat.le_of_ble_eq_true rfl)⟩ (fun v G1 H locs hw hP hS => ?_)
    obtain ⟨q9, cap2, g2, hn, rfl, hG9, hc1, hc2, hg2⟩ := hw
    refine W.eq (g2 := F0 m 10 ls [.ref q9]) rfl ?_
    have hqla : q9 ≠ la := fun z => by rw [z, hL] at hn; cases hn
    have hqt : q9 ≠ t := fun z => by rw [z, hvt] at hn; cases hn
    have f1 : G1 la = some (.inr (0, [.int mc, .ref q9, .int (nI 0)])) := by rw [hG9]; exact gk_us _ _ _
    have f2 : G1 q9 = some (rp_r (ly_k y 6) cap2 g2) := by rw [hG9, gk_un _ _ hqla]; exact gk_us _ _ _
    have f3 : G1 t = some (.inr (3, vt)) := by rw [hG9, gk_un _ _ (gk_ne hvt hL (fun h => by cases h)), gk_un _ _ (Ne.symm hqt)]; exact hvt
    have f4 : ∀ b e, b ≠ la → G b = some e → G1 b = some e := fun b e h1 h2 => by rw [hG9, gk_un _ _ h1]; exact gk_keepN hn h2
    refine lv_astore_n (lv' := [(2, .ref q9), (0, .ref la), (1, .ref t), (3, .int (nI 0))]) hK.1.1 hK.1.2.1 dJx4a65c_add_72be8_10 rfl hl (by decide) rfl (fun ls hl => ?_)
    refine lv_aload_n hK.1.1 hK.1.2.1 dJx4a65c_add_72be8_11 rfl (lv_at hl 0 rfl) ?_
    refine lv_iload_n hK.1.1 hK.1.2.1 dJx4a65c_add_72be8_12 rfl (lv_at hl 3 rfl) ?_
    refine lv_aload_n hK.1.1 hK.1.2.1 dJx4a65c_add_72be8_13 rfl (lv_at hl 2 rfl) ?_
    refine gk_aastM hK.1 hK.2.2.1.1 hP hS 6 f2 rfl f3 rfl (gl_asg hK.2.2.1) (vp_in_nI hc1 (by omega)) dJx4a65c_add_72be8_14 (fun H locs hP hS => ?_)
    rw [nI_clamp (by omega)] at hP
    obtain ⟨G2, hG2⟩ : ∃ z, z = gk_up G1 q9 (rp_r (ly_k y 6) cap2 (va_up g2 0 (some t))) := ⟨_, rfl⟩
    have hP : gk_P (ly_D y) A G2 H := by rw [hG2]; exact hP
    have h1 : G2 la = some (.inr (0, [.int mc, .ref q9, .int (nI 0)])) := by rw [hG2]; exact gk_keep f2 f1 (fun h => by cases h)
    refine lv_aload_n hK.1.1 hK.1.2.1 dJx4a65c_add_72be8_15 rfl (lv_at hl 1 rfl) ?_
    refine lv_iload_n hK.1.1 hK.1.2.1 dJx4a65c_add_72be8_16 rfl (lv_at hl 3 rfl) ?_
    refine lv_iconst (v := 1) hK.1.1 hK.1.2.1 dJx4a65c_add_72be8_17 (by decide) ?_
    refine lv_iadd hK.1.1 hK.1.2.1 dJx4a65c_add_72be8_18 ?_
    rw [nI_1]
    refine gk_put hK.1 hK.2.2.1.1 hP hS (k := 2) h1 rfl inlJx4a65c tyJx4a65c tyJx4a65c_ok nmJx4a65c (by decide) q_5_17 (fun _ h => h) rfl rfl rfl (Nat.le_of_ble_eq_true rfl) dJx4a65c_add_72be8_19 (fun H locs hP hS => ?_)
    obtain ⟨G_1, hG_1⟩ : ∃ z, z = gk_up G2 la (.inr (0, [.int mc, .ref q9, .int (nI (0 + 1))])) := ⟨_, rfl⟩
    have hP : gk_P (ly_D y) A G_1 H := by rw [hG_1]; exact hP
    have f_2 : G_1 la = some (.inr (0, [.int mc, .ref q9, .int (nI (0 + 1))])) := by rw [hG_1]; exact gk_us _ _ _
    exact gk_vret0 hK.1 hret hlk hP hS (Nat.le_of_ble_eq_true rfl) (Nat.le_of_ble_eq_true rfl) dJx4a65c_add_72be8_22 ⟨rfl, q9, cap2, _, by rw [hG_1]; exact gk_us _ _ _, by rw [hG_1, gk_un _ _ (gk_ne f2 f1 (fun h => by cases h)), hG2]; exact gk_us _ _ _, hc1, hc2, va_up_self _ _ _, (fun k hk => by rw [va_up_ne _ _ (by omega)]; exact hg2 k hk), Or.inr hn, fun b e hb1 hb2 hb3 => by rw [hG_1, gk_un _ _ hb1, hG2, gk_un _ _ hb2]; exact f4 b e hb1 hb3⟩
  · rcases Nat.lt_or_ge n cap with hlt | hge
    · refine lv_iload_n hK.1.1 hK.1.2.1 dJx4a65c_add_72be8_0 rfl (lv_at hl 3 rfl) ?_
      refine lv_aload_n hK.1.1 hK.1.2.1 dJx4a65c_add_72be8_1 rfl (lv_at hl 2 rfl) ?_
      refine gk_alen hK.1 hK.2.2.1.1 hP 6 hE rfl dJx4a65c_add_72be8_2 ?_
      refine lv_icmp_ne (tgt := 11) hK.1.1 hK.1.2.1 dJx4a65c_add_72be8_3 (by decide) (fun _ => ?_) (fun c => absurd ((nI_eq (by omega) (by omega)).mp c) (by omega))
      refine lv_aload_n hK.1.1 hK.1.2.1 dJx4a65c_add_72be8_11 rfl (lv_at hl 2 rfl) ?_
      refine lv_iload_n hK.1.1 hK.1.2.1 dJx4a65c_add_72be8_12 rfl (lv_at hl 3 rfl) ?_
      refine lv_aload_n hK.1.1 hK.1.2.1 dJx4a65c_add_72be8_13 rfl (lv_at hl 1 rfl) ?_
      refine gk_aastM hK.1 hK.2.2.1.1 hP hS 6 hE rfl hvt rfl (gl_asg hK.2.2.1) (vp_in_nI hlt (by omega)) dJx4a65c_add_72be8_14 (fun H locs hP hS => ?_)
      rw [nI_clamp (by omega)] at hP
      obtain ⟨G2, hG2⟩ : ∃ z, z = gk_up G ed (rp_r (ly_k y 6) cap (va_up g n (some t))) := ⟨_, rfl⟩
      have hP : gk_P (ly_D y) A G2 H := by rw [hG2]; exact hP
      have h1 : G2 la = some (.inr (0, [.int mc, .ref ed, .int (nI n)])) := by rw [hG2]; exact gk_keep hE hL (fun h => by cases h)
      refine lv_aload_n hK.1.1 hK.1.2.1 dJx4a65c_add_72be8_15 rfl (lv_at hl 0 rfl) ?_
      refine lv_iload_n hK.1.1 hK.1.2.1 dJx4a65c_add_72be8_16 rfl (lv_at hl 3 rfl) ?_
      refine lv_iconst (v := 1) hK.1.1 hK.1.2.1 dJx4a65c_add_72be8_17 (by decide) ?_
      refine lv_iadd hK.1.1 hK.1.2.1 dJx4a65c_add_72be8_18 ?_
      rw [nI_1]
      refine gk_put hK.1 hK.2.2.1.1 hP hS (k := 2) h1 rfl inlJx4a65c tyJx4a65c tyJx4a65c_ok nmJx4a65c (by decide) q_5_17 (fun _ h => h) rfl rfl rfl (Nat.le_of_ble_eq_true rfl) dJx4a65c_add_72be8_19 (fun H locs hP hS => ?_)
      obtain ⟨G_3, hG_3⟩ : ∃ z, z = gk_up G2 la (.inr (0, [.int mc, .ref ed, .int (nI (n + 1))])) := ⟨_, rfl⟩
      have hP : gk_P (ly_D y) A G_3 H := by rw [hG_3]; exact hP
      have f_4 : G_3 la = some (.inr (0, [.int mc, .ref ed, .int (nI (n + 1))])) := by rw [hG_3]; exact gk_us _ _ _
      exact gk_vret0 hK.1 hret hlk hP hS (Nat.le_of_ble_eq_true rfl) (Nat.le_of_ble_eq_true rfl) dJx4a65c_add_72be8_22 ⟨rfl, ed, cap, _, by rw [hG_3]; exact gk_us _ _ _, by rw [hG_3, gk_un _ _ (gk_ne hE hL (fun h => by cases h)), hG2]; exact gk_us _ _ _, hlt, hcap, va_up_self _ _ _, (fun k hk => va_up_ne _ _ (by omega)), Or.inl rfl, fun b e hb1 hb2 hb3 => by rw [hG_3, gk_un _ _ hb1, hG2, gk_un _ _ hb2]; exact hb3⟩
    · have hcn : cap = n := Nat.le_antisymm hge hnc
      subst hcn
      refine lv_iload_n hK.1.1 hK.1.2.1 dJx4a65c_add_72be8_0 rfl (lv_at hl 3 rfl) ?_
      refine lv_aload_n hK.1.1 hK.1.2.1 dJx4a65c_add_72be8_1 rfl (lv_at hl 2 rfl) ?_
      refine gk_alen hK.1 hK.2.2.1.1 hP 6 hE rfl dJx4a65c_add_72be8_2 ?_
      refine lv_icmp_ne (tgt := 11) hK.1.1 hK.1.2.1 dJx4a65c_add_72be8_3 (by decide) (fun c => absurd rfl c) (fun _ => ?_)
      refine lv_aload_n hK.1.1 hK.1.2.1 dJx4a65c_add_72be8_6 rfl (lv_at hl 0 rfl) ?_
      refine gk_callV0 (n := 0) (As := []) (rest := []) hK (c_Jx4a65c_grow_d5877 l hL (Or.inr ⟨hE, h0⟩) hn9 hel) (gk_gV q_6_4 q_6_5 q_6_6 q_2_13 q_6_7) ⟨rfl, by decide +kernel, by decide +kernel, by decide +kernel⟩ ⟨(Nat.le_of_ble_eq_true rfl), (Nat.le_of_ble_eq_true rfl)⟩ hP hS (gk_recv hK.2.2.1.1 hP hL rfl) rfl hl.1 rfl (Nat.le_of_ble_eq_true rfl) dJx4a65c_add_72be8_7 ⟨(Nat.le_of_ble_eq_true rfl), (Nat.le_of_ble_eq_true rfl)⟩ (fun v G1 H locs hw hP hS => ?_)
      obtain ⟨q9, cap2, g2, hn, rfl, hG9, hc1, hc2, hg2⟩ := hw
      refine W.eq (g2 := F0 m 10 ls [.ref q9]) rfl ?_
      have hqla : q9 ≠ la := fun z => by rw [z, hL] at hn; cases hn
      have hqt : q9 ≠ t := fun z => by rw [z, hvt] at hn; cases hn
      have f1 : G1 la = some (.inr (0, [.int mc, .ref q9, .int (nI cap)])) := by rw [hG9]; exact gk_us _ _ _
      have f2 : G1 q9 = some (rp_r (ly_k y 6) cap2 g2) := by rw [hG9, gk_un _ _ hqla]; exact gk_us _ _ _
      have f3 : G1 t = some (.inr (3, vt)) := by rw [hG9, gk_un _ _ (gk_ne hvt hL (fun h => by cases h)), gk_un _ _ (Ne.symm hqt)]; exact hvt
      have f4 : ∀ b e, b ≠ la → G b = some e → G1 b = some e := fun b e h1 h2 => by rw [hG9, gk_un _ _ h1]; exact gk_keepN hn h2
      refine lv_astore_n (lv' := [(2, .ref q9), (0, .ref la), (1, .ref t), (3, .int (nI cap))]) hK.1.1 hK.1.2.1 dJx4a65c_add_72be8_10 rfl hl (by decide) rfl (fun ls hl => ?_)
      refine lv_aload_n hK.1.1 hK.1.2.1 dJx4a65c_add_72be8_11 rfl (lv_at hl 0 rfl) ?_
      refine lv_iload_n hK.1.1 hK.1.2.1 dJx4a65c_add_72be8_12 rfl (lv_at hl 3 rfl) ?_
      refine lv_aload_n hK.1.1 hK.1.2.1 dJx4a65c_add_72be8_13 rfl (lv_at hl 2 rfl) ?_
      refine gk_aastM hK.1 hK.2.2.1.1 hP hS 6 f2 rfl f3 rfl (gl_asg hK.2.2.1) (vp_in_nI hc1 (by omega)) dJx4a65c_add_72be8_14 (fun H locs hP hS => ?_)
      rw [nI_clamp (by omega)] at hP
      obtain ⟨G2, hG2⟩ : ∃ z, z = gk_up G1 q9 (rp_r (ly_k y 6) cap2 (va_up g2 cap (some t))) := ⟨_, rfl⟩
      have hP : gk_P (ly_D y) A G2 H := by rw [hG2]; exact hP
      have h1 : G2 la = some (.inr (0, [.int mc, .ref q9, .int (nI cap)])) := by rw [hG2]; exact gk_keep f2 f1 (fun h => by cases h)
      refine lv_aload_n hK.1.1 hK.1.2.1 dJx4a65c_add_72be8_15 rfl (lv_at hl 1 rfl) ?_
      refine lv_iload_n hK.1.1 hK.1.2.1 dJx4a65c_add_72be8_16 rfl (lv_at hl 3 rfl) ?_
      refine lv_iconst (v := 1) hK.1.1 hK.1.2.1 dJx4a65c_add_72be8_17 (by decide) ?_
      refine lv_iadd hK.1.1 hK.1.2.1 dJx4a65c_add_72be8_18 ?_
      rw [nI_1]
      refine gk_put hK.1 hK.2.2.1.1 hP hS (k := 2) h1 rfl inlJx4a65c tyJx4a65c tyJx4a65c_ok nmJx4a65c (by decide) q_5_17 (fun _ h => h) rfl rfl rfl (Nat.le_of_ble_eq_true rfl) dJx4a65c_add_72be8_19 (fun H locs hP hS => ?_)
      obtain ⟨G_5, hG_5⟩ : ∃ z, z = gk_up G2 la (.inr (0, [.int mc, .ref q9, .int (nI (cap + 1))])) := ⟨_, rfl⟩
      have hP : gk_P (ly_D y) A G_5 H := by rw [hG_5]; exact hP
      have f_6 : G_5 la = some (.inr (0, [.int mc, .ref q9, .int (nI (cap + 1))])) := by rw [hG_5]; exact gk_us _ _ _
      exact gk_vret0 hK.1 hret hlk hP hS (Nat.le_of_ble_eq_true rfl) (Nat.le_of_ble_eq_true rfl) dJx4a65c_add_72be8_22 ⟨rfl, q9, cap2, _, by rw [hG_5]; exact gk_us _ _ _, by rw [hG_5, gk_un _ _ (gk_ne f2 f1 (fun h => by cases h)), hG2]; exact gk_us _ _ _, hc1, hc2, va_up_self _ _ _, (fun k hk => by rw [va_up_ne _ _ (by omega)]; exact hg2 k hk), Or.inr hn, fun b e hb1 hb2 hb3 => by rw [hG_5, gk_un _ _ hb1, hG2, gk_un _ _ hb2]; exact f4 b e hb1 hb3⟩
