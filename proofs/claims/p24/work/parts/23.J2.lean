/-! the library's list: growing -/
set_option maxHeartbeats 4000000 in
set_option maxRecDepth 100000 in
theorem c_J8_newLength_cabcc (l : Launch) {y : ly_T} {A : Nat → Prop} {G : gk_G} {cap a b : Nat} (h : cap + max a b < 1000000) (h0 : 0 < cap + max a b) : gk_M0 l yJ8_newLength_cabcc (Cond.code yJ8_newLength_cabcc cJ8_newLength_cabcc 4 (some .int)) 1 30 0 0 y A [.int (nI cap), .int (nI a), .int (nI b)] G (fun v G1 => v = some (.int (nI (cap + max a b))) ∧ G1 = G) := by
  refine gk_of0 (cc := cJ8_newLength_cabcc) (maxL := 4) (ret := (some .int)) (own := RJ8) (by decide +kernel) rfl rfl (Nat.le_of_ble_eq_true rfl) ?_
  intro p e s m below meth c ls hK hret hlk _ hP hS hl
  have hl : lv_has ls 4 [(0, .int (nI cap)), (1, .int (nI a)), (2, .int (nI b))] := hl
  refine lv_iload_n hK.1.1 hK.1.2.1 dJ8_newLength_cabcc_0 rfl (lv_at hl 0 rfl) ?_
  refine lv_iload_n hK.1.1 hK.1.2.1 dJ8_newLength_cabcc_1 rfl (lv_at hl 1 rfl) ?_
  refine lv_iload_n hK.1.1 hK.1.2.1 dJ8_newLength_cabcc_2 rfl (lv_at hl 2 rfl) ?_
  refine va_mmax hK.1.1 hK.1.2.1 (hK.2.1.trans hl.1.symm) hK.1.2.2.1 (hK.1.2.2.2 _ q_6_21) (hK.1.2.2.2 _ q_6_13) (hK.1.2.2.2 _ q_6_14) (hK.1.2.2.2 _ q_6_15) (Nat.le_of_ble_eq_true rfl) (Nat.le_of_ble_eq_true rfl) (Nat.le_of_ble_eq_true rfl) (Nat.le_of_ble_eq_true rfl) dJ8_newLength_cabcc_3 ?_
  rw [gl_mm a b (by omega) (by omega)]
  refine lv_iadd hK.1.1 hK.1.2.1 dJ8_newLength_cabcc_6 ?_
  rw [nI_add]
  refine lv_istore_n (lv' := [(3, .int (nI (cap + max a b))), (0, .int (nI cap)), (1, .int (nI a)), (2, .int (nI b))]) hK.1.1 hK.1.2.1 dJ8_newLength_cabcc_7 rfl hl (by decide) rfl (fun ls hl => ?_)
  refine lv_iconst (v := 0) hK.1.1 hK.1.2.1 dJ8_newLength_cabcc_8 (by decide) ?_
  refine lv_iload_n hK.1.1 hK.1.2.1 dJ8_newLength_cabcc_9 rfl (lv_at hl 0 rfl) ?_
  refine lv_icmp_ge (tgt := 21) hK.1.1 hK.1.2.1 dJ8_newLength_cabcc_10 (by decide) (fun c10_1 => ?_) (fun c10_1 => ?_)
  · exact absurd c10_1 (nI_nle h0 (by omega))
  · refine lv_iload_n hK.1.1 hK.1.2.1 dJ8_newLength_cabcc_13 rfl (lv_at hl 0 rfl) ?_
    refine lv_ldc (v := 2147483639) hK.1.1 hK.1.2.1 hK.1.2.2.1 (hK.1.2.2.2 _ q_6_22) dJ8_newLength_cabcc_14 ?_
    refine lv_icmp_gt (tgt := 21) hK.1.1 hK.1.2.1 dJ8_newLength_cabcc_16 (by decide) (fun c16_2 => ?_) (fun c16_2 => ?_)
    · exact absurd c16_2 (nI_nlt (a := 2147483639) (b := cap + max a b) (by omega) (by decide))
    · refine lv_iload_n hK.1.1 hK.1.2.1 dJ8_newLength_cabcc_19 rfl (lv_at hl 0 rfl) ?_
      exact gk_iret0 hK.1 hret hlk hP hS (Nat.le_of_ble_eq_true rfl) (Nat.le_of_ble_eq_true rfl) dJ8_newLength_cabcc_20 ⟨rfl, rfl⟩
set_option maxHeartbeats 4000000 in
set_option maxRecDepth 100000 in
theorem c_J7_copyOf_6403c (l : Launch) {y : ly_T} {A : Nat → Prop} {G : gk_G} {ed cap cap2 : Nat} {g : Nat → Option Nat} (hE : G ed = some (rp_r (ly_k y 6) cap g)) (hle : cap ≤ cap2) (h2 : cap2 ≤ 1500) (hel : ∀ i, i < cap → ∀ t, g i = some t → gl_pt G t) : gk_M0 l yJ7_copyOf_6403c (Cond.code yJ7_copyOf_6403c cJ7_copyOf_6403c 4 (some (.array (.object "java/lang/Object")))) 1 60 1 1500 y A [.ref ed, .int (nI cap2), .ref (ly_a y 7)] G (fun v G1 => ∃ q g2, G q = none ∧ v = some (.ref q) ∧ G1 = gk_up G q (rp_r (ly_k y 6) cap2 g2) ∧ ∀ k, k < cap → g2 k = g k) := by
  refine gk_of0 (cc := cJ7_copyOf_6403c) (maxL := 4) (ret := (some (.array (.object "java/lang/Object")))) (own := RJ7) (by decide +kernel) rfl rfl (Nat.le_of_ble_eq_true rfl) ?_
  intro p e s m below meth c ls hK hret hlk _ hP hS hl
  have hl : lv_has ls 4 [(0, .ref ed), (1, .int (nI cap2)), (2, .ref (ly_a y 7))] := hl
  refine lv_aload_n hK.1.1 hK.1.2.1 dJ7_copyOf_6403c_0 rfl (lv_at hl 2 rfl) ?_
  refine va_ldcM hK.1.1 hK.1.2.1 hK.1.2.2.1 (hK.1.2.2.2 _ q_7_13) hK.2.2.1.2.2.1.2.1.1 dJ7_copyOf_6403c_1 ?_
  refine lv_acmp_ne (rx := some (ly_a y 7)) (ry := some (ly_a y 7)) (tgt := 13) hK.1.1 hK.1.2.1 dJ7_copyOf_6403c_3 (by decide) (fun c => absurd rfl c) (fun _ => ?_)
  refine lv_iload_n hK.1.1 hK.1.2.1 dJ7_copyOf_6403c_6 rfl (lv_at hl 1 rfl) ?_
  refine gk_newq hK.1 hK.2.2.1.1 hP hS hK.2.2.2 q_7_14 hK.2.2.1.2.2.1.1.1 6 rfl (nI_pos (by omega)) (nI_clamp (by omega)) (by omega) (Nat.le_of_ble_eq_true rfl) (by show 0 + cap2 ≤ 1500; omega) dJ7_copyOf_6403c_7 (fun q9 H hn hP hS => ?_)
  refine W.widen (k := 1) (n := 1500) (by omega) (by omega) ?_
  obtain ⟨G_1, hG_1⟩ : ∃ z, z = gk_up G q9 (rp_r (ly_k y 6) cap2 (fun _ => none)) := ⟨_, rfl⟩
  have hP : gk_P (ly_D y) A G_1 H := by rw [hG_1]; exact hP
  have f_2 : G_1 q9 = some (rp_r (ly_k y 6) cap2 (fun _ => none)) := by rw [hG_1]; exact gk_us _ _ _
  have k_3 : G_1 ed = some (rp_r (ly_k y 6) cap g) := by rw [hG_1]; exact gk_keepN hn hE
  refine lv_goto (tgt := 24) hK.1.1 hK.1.2.1 dJ7_copyOf_6403c_10 (by decide) ?_
  refine lv_astore_n (lv' := [(3, .ref q9), (0, .ref ed), (1, .int (nI cap2)), (2, .ref (ly_a y 7))]) hK.1.1 hK.1.2.1 dJ7_copyOf_6403c_24 rfl hl (by decide) rfl (fun ls hl => ?_)
  refine lv_aload_n hK.1.1 hK.1.2.1 dJ7_copyOf_6403c_25 rfl (lv_at hl 1 rfl) ?_
  refine lv_iconst (v := 0) hK.1.1 hK.1.2.1 dJ7_copyOf_6403c_26 (by decide) ?_
  refine lv_aload_n hK.1.1 hK.1.2.1 dJ7_copyOf_6403c_27 rfl (lv_at hl 0 rfl) ?_
  refine lv_iconst (v := 0) hK.1.1 hK.1.2.1 dJ7_copyOf_6403c_28 (by decide) ?_
  refine lv_aload_n hK.1.1 hK.1.2.1 dJ7_copyOf_6403c_29 rfl (lv_at hl 1 rfl) ?_
  refine gk_alen hK.1 hK.2.2.1.1 hP 6 k_3 rfl dJ7_copyOf_6403c_30 ?_
  refine lv_iload_n hK.1.1 hK.1.2.1 dJ7_copyOf_6403c_31 rfl (lv_at hl 2 rfl) ?_
  refine va_mmin hK.1.1 hK.1.2.1 (hK.2.1.trans hl.1.symm) hK.1.2.2.1 (hK.1.2.2.2 _ q_7_15) (hK.1.2.2.2 _ q_7_16) (hK.1.2.2.2 _ q_6_14) (hK.1.2.2.2 _ q_7_17) (Nat.le_of_ble_eq_true rfl) (Nat.le_of_ble_eq_true rfl) (Nat.le_of_ble_eq_true rfl) (Nat.le_of_ble_eq_true rfl) dJ7_copyOf_6403c_32 ?_
  rw [gl_mn cap cap2 (by omega) (by omega)]
  rw [show min cap cap2 = cap from Nat.min_eq_left hle]
  refine gk_copy hK.1 (hK.2.1.trans hl.1.symm) q_7_18 q_7_19 q_7_20 q_7_21 hK.2.2.1.1 hP hS 6 k_3 f_2 rfl (by decide) (by decide) (nI_pos (by omega)) (by rw [show (0 : Int32).toNatClampNeg = 0 from rfl, nI_clamp (by omega)]; omega) (by rw [show (0 : Int32).toNatClampNeg = 0 from rfl, nI_clamp (by omega)]; omega) (fun i hi y1 hy1 => ?_) (Nat.le_of_ble_eq_true rfl) (by first | decide | decide +kernel) dJ7_copyOf_6403c_35 (fun H locs hP hS => ?_)
  · rw [show (0 : Int32).toNatClampNeg = 0 from rfl, Nat.zero_add] at hy1
    rw [nI_clamp (by omega)] at hi
    obtain ⟨vs, hvs⟩ := hel i hi y1 hy1
    exact ⟨3, _, vs, by rw [hG_1]; exact gk_keepN hn hvs, rfl, gl_asg hK.2.2.1⟩
  rw [hG_1, gk_uu, show (0 : Int32).toNatClampNeg = 0 from rfl, nI_clamp (by omega)] at hP
  refine lv_aload_n hK.1.1 hK.1.2.1 dJ7_copyOf_6403c_38 rfl (lv_at hl 0 rfl) ?_
  exact gk_aret0 hK.1 hret (by first | exact Or.inl ⟨_, rfl⟩ | exact Or.inr ⟨_, rfl⟩) (by first | exact Or.inr ⟨_, rfl⟩ | exact Or.inl rfl | exact va_rf_or _) hlk hP hS (Nat.le_of_ble_eq_true rfl) (Nat.le_of_ble_eq_true rfl) dJ7_copyOf_6403c_39 ⟨q9, _, hn, rfl, rfl, fun k hk => by rw [pk_cpy_in (Nat.zero_le _) (by omega)]; congr 1; omega⟩
set_option maxHeartbeats 4000000 in
set_option maxRecDepth 100000 in
theorem c_J7_copyOf_1904c (l : Launch) {y : ly_T} {A : Nat → Prop} {G : gk_G} {ed cap cap2 : Nat} {g : Nat → Option Nat} (hE : G ed = some (rp_r (ly_k y 6) cap g)) (hle : cap ≤ cap2) (h2 : cap2 ≤ 1500) (hel : ∀ i, i < cap → ∀ t, g i = some t → gl_pt G t) : gk_M0 l yJ7_copyOf_1904c (Cond.code yJ7_copyOf_1904c cJ7_copyOf_1904c 2 (some (.array (.object "java/lang/Object")))) 2 90 1 1500 y A [.ref ed, .int (nI cap2)] G (fun v G1 => ∃ q g2, G q = none ∧ v = some (.ref q) ∧ G1 = gk_up G q (rp_r (ly_k y 6) cap2 g2) ∧ ∀ k, k < cap → g2 k = g k) := by
  refine gk_of0 (cc := cJ7_copyOf_1904c) (maxL := 2) (ret := (some (.array (.object "java/lang/Object")))) (own := RJ7) (by decide +kernel) rfl rfl (Nat.le_of_ble_eq_true rfl) ?_
  intro p e s m below meth c ls hK hret hlk _ hP hS hl
  have hl : lv_has ls 2 [(0, .ref ed), (1, .int (nI cap2))] := hl
  refine lv_aload_n hK.1.1 hK.1.2.1 dJ7_copyOf_1904c_0 rfl (lv_at hl 0 rfl) ?_
  refine lv_iload_n hK.1.1 hK.1.2.1 dJ7_copyOf_1904c_1 rfl (lv_at hl 1 rfl) ?_
  refine lv_aload_n hK.1.1 hK.1.2.1 dJ7_copyOf_1904c_2 rfl (lv_at hl 0 rfl) ?_
  refine va_getC (C := "[Ljava/lang/Object;") hK.1.1 hK.1.2.1 (hK.2.1.trans hl.1.symm) hK.1.2.2.1 (hK.1.2.2.2 _ q_7_6) (va_Dc.use hK.2.2.1.2.2.1.2.1.2) (hK.1.2.2.2 _ q_7_7) (hK.1.2.2.2 _ q_7_8) (hK.1.2.2.2 _ q_7_9) hK.2.2.1.2.2.1.2.1.1 ⟨_, (hP ed _ hE).2, rfl, va_nmO (hK.2.2.1.1.2 6 _ rfl).2 (by decide +kernel)⟩ (Nat.le_of_ble_eq_true rfl) (Nat.le_of_ble_eq_true rfl) dJ7_copyOf_1904c_3 ?_
  refine gk_callS0 (n := 3) (As := [.ref ed, .int (nI cap2), .ref (ly_a y 7)]) (rest := []) hK (c_J7_copyOf_6403c l hE hle h2 hel) (gk_gS q_7_10 q_7_11 q_7_4 q_7_12) ⟨by decide +kernel, by decide +kernel, by decide +kernel⟩ ⟨(Nat.le_of_ble_eq_true rfl), (Nat.le_of_ble_eq_true rfl)⟩ hP hS rfl hl.1 rfl (Nat.le_of_ble_eq_true rfl) dJ7_copyOf_1904c_6 ⟨(Nat.le_of_ble_eq_true rfl), (Nat.le_of_ble_eq_true rfl)⟩ (fun v G1 H locs hw hP hS => ?_)
  obtain ⟨q9, g2, hn, rfl, hG9, hg2⟩ := hw
  rw [hG9] at hP
  refine W.eq (g2 := F0 m 9 ls [.ref q9]) rfl ?_
  exact gk_aret0 hK.1 hret (by first | exact Or.inl ⟨_, rfl⟩ | exact Or.inr ⟨_, rfl⟩) (by first | exact Or.inr ⟨_, rfl⟩ | exact Or.inl rfl | exact va_rf_or _) hlk hP hS (Nat.le_of_ble_eq_true rfl) (Nat.le_of_ble_eq_true rfl) dJ7_copyOf_1904c_9 ⟨q9, g2, hn, rfl, rfl, hg2⟩
