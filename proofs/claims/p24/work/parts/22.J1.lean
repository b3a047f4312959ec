/-! the library's list -/
set_option maxHeartbeats 4000000 in
set_option maxRecDepth 100000 in
theorem c_Jx4a65c_size_8abf5 (l : Launch) {y : ly_T} {A : Nat → Prop} {G : gk_G} {mc n : Int32} {la ed : Nat} (hL : G la = some (.inr (0, [.int mc, .ref ed, .int n]))) : gk_M0 l yJx4a65c_size_8abf5 (Cond.code yJx4a65c_size_8abf5 cJx4a65c_size_8abf5 1 (some .int)) 0 0 0 0 y A [.ref la] G (fun v G1 => v = some (.int n) ∧ G1 = G) := by
  refine gk_of0 (cc := cJx4a65c_size_8abf5) (maxL := 1) (ret := (some .int)) (own := RJx4a65c) (by decide +kernel) rfl rfl (Nat.le_of_ble_eq_true rfl) ?_
  intro p e s m below meth c ls hK hret hlk _ hP hS hl
  have hl : lv_has ls 1 [(0, .ref la)] := hl
  refine lv_aload_n hK.1.1 hK.1.2.1 dJx4a65c_size_8abf5_0 rfl (lv_at hl 0 rfl) ?_
  refine gk_get hK.1 hK.2.2.1.1 hP (k := 2) hL rfl inlJx4a65c (by decide) q_5_17 (fun _ h => h) rfl dJx4a65c_size_8abf5_1 ?_
  exact gk_iret0 hK.1 hret hlk hP hS (Nat.le_of_ble_eq_true rfl) (Nat.le_of_ble_eq_true rfl) dJx4a65c_size_8abf5_4 ⟨rfl, rfl⟩
set_option maxHeartbeats 4000000 in
set_option maxRecDepth 100000 in
theorem c_J3_checkIndex_8e157 (l : Launch) {y : ly_T} {A : Nat → Prop} {G : gk_G} {i n : Int32} (h0 : ¬ i < 0) (h1 : i < n) : gk_M0 l yJ3_checkIndex_8e157 (Cond.code yJ3_checkIndex_8e157 cJ3_checkIndex_8e157 3 (some .int)) 0 0 0 0 y A [.int i, .int n, .null] G (fun v G1 => v = some (.int i) ∧ G1 = G) := by
  refine gk_of0 (cc := cJ3_checkIndex_8e157) (maxL := 3) (ret := (some .int)) (own := RJ3) (by decide +kernel) rfl rfl (Nat.le_of_ble_eq_true rfl) ?_
  intro p e s m below meth c ls hK hret hlk _ hP hS hl
  have hl : lv_has ls 3 [(0, .int i), (1, .int n), (2, .null)] := hl
  refine lv_iload_n hK.1.1 hK.1.2.1 dJ3_checkIndex_8e157_0 rfl (lv_at hl 0 rfl) ?_
  refine lv_if_lt (tgt := 9) hK.1.1 hK.1.2.1 dJ3_checkIndex_8e157_1 (by decide) (fun c1_1 => ?_) (fun c1_1 => ?_)
  · exact absurd c1_1 h0
  · refine lv_iload_n hK.1.1 hK.1.2.1 dJ3_checkIndex_8e157_4 rfl (lv_at hl 0 rfl) ?_
    refine lv_iload_n hK.1.1 hK.1.2.1 dJ3_checkIndex_8e157_5 rfl (lv_at hl 1 rfl) ?_
    refine lv_icmp_lt (tgt := 16) hK.1.1 hK.1.2.1 dJ3_checkIndex_8e157_6 (by decide) (fun c6_2 => ?_) (fun c6_2 => ?_)
    · refine lv_iload_n hK.1.1 hK.1.2.1 dJ3_checkIndex_8e157_16 rfl (lv_at hl 0 rfl) ?_
      exact gk_iret0 hK.1 hret hlk hP hS (Nat.le_of_ble_eq_true rfl) (Nat.le_of_ble_eq_true rfl) dJ3_checkIndex_8e157_17 ⟨rfl, rfl⟩
    · exact absurd h1 c6_2
set_option maxHeartbeats 4000000 in
set_option maxRecDepth 100000 in
theorem c_J15_checkIndex_7cf53 (l : Launch) {y : ly_T} {A : Nat → Prop} {G : gk_G} {i n : Int32} (h0 : ¬ i < 0) (h1 : i < n) : gk_M0 l yJ15_checkIndex_7cf53 (Cond.code yJ15_checkIndex_7cf53 cJ15_checkIndex_7cf53 2 (some .int)) 1 30 0 0 y A [.int i, .int n] G (fun v G1 => v = some (.int i) ∧ G1 = G) := by
  refine gk_of0 (cc := cJ15_checkIndex_7cf53) (maxL := 2) (ret := (some .int)) (own := RJ15) (by decide +kernel) rfl rfl (Nat.le_of_ble_eq_true rfl) ?_
  intro p e s m below meth c ls hK hret hlk _ hP hS hl
  have hl : lv_has ls 2 [(0, .int i), (1, .int n)] := hl
  refine lv_iload_n hK.1.1 hK.1.2.1 dJ15_checkIndex_7cf53_0 rfl (lv_at hl 0 rfl) ?_
  refine lv_iload_n hK.1.1 hK.1.2.1 dJ15_checkIndex_7cf53_1 rfl (lv_at hl 1 rfl) ?_
  refine lv_null hK.1.1 hK.1.2.1 dJ15_checkIndex_7cf53_2 ?_
  refine gk_callS0 (n := 3) (As := [.int i, .int n, .null]) (rest := []) hK (c_J3_checkIndex_8e157 l h0 h1) (gk_gS q_8_16 q_8_17 q_8_18 q_8_19) ⟨by decide +kernel, by decide +kernel, by decide +kernel⟩ ⟨(Nat.le_of_ble_eq_true rfl), (Nat.le_of_ble_eq_true rfl)⟩ hP hS rfl hl.1 rfl (Nat.le_of_ble_eq_true rfl) dJ15_checkIndex_7cf53_3 ⟨(Nat.le_of_ble_eq_true rfl), (Nat.le_of_ble_eq_true rfl)⟩ (fun v G1 H locs hw hP hS => ?_)
  obtain ⟨rfl, hG9⟩ := hw
  rw [hG9] at hP
  refine W.eq (g2 := F0 m 6 ls [.int i]) rfl ?_
  exact gk_iret0 hK.1 hret hlk hP hS (Nat.le_of_ble_eq_true rfl) (Nat.le_of_ble_eq_true rfl) dJ15_checkIndex_7cf53_6 ⟨rfl, rfl⟩
set_option maxHeartbeats 4000000 in
set_option maxRecDepth 100000 in
theorem c_Jx4a65c_elementData_915e3 (l : Launch) {y : ly_T} {A : Nat → Prop} {G : gk_G} {mc n : Int32} {la ed : Nat} (hL : G la = some (.inr (0, [.int mc, .ref ed, .int n]))) {cap k : Nat} {g : Nat → Option Nat} (hE : G ed = some (rp_r (ly_k y 6) cap g)) (hk : k < cap) (hcap : cap ≤ 1500) : gk_M0 l yJx4a65c_elementData_915e3 (Cond.code yJx4a65c_elementData_915e3 cJx4a65c_elementData_915e3 2 (some (.object "java/lang/Object"))) 0 0 0 0 y A [.ref la, .int (nI k)] G (fun v G1 => v = some (va_rf (g k)) ∧ G1 = G) := by
  refine gk_of0 (cc := cJx4a65c_elementData_915e3) (maxL := 2) (ret := (some (.object "java/lang/Object"))) (own := RJx4a65c) (by decide +kernel) rfl rfl (Nat.le_of_ble_eq_true rfl) ?_
  intro p e s m below meth c ls hK hret hlk _ hP hS hl
  have hl : lv_has ls 2 [(0, .ref la), (1, .int (nI k))] := hl
  refine lv_aload_n hK.1.1 hK.1.2.1 dJx4a65c_elementData_915e3_0 rfl (lv_at hl 0 rfl) ?_
  refine gk_get hK.1 hK.2.2.1.1 hP (k := 1) hL rfl inlJx4a65c (by decide) q_3_1 (fun _ h => h) rfl dJx4a65c_elementData_915e3_1 ?_
  refine lv_iload_n hK.1.1 hK.1.2.1 dJx4a65c_elementData_915e3_4 rfl (lv_at hl 1 rfl) ?_
  refine gk_aald hK.1 hK.2.2.1.1 hP 6 (C := "java/lang/Object") hE rfl (vp_in_nI hk (by omega)) dJx4a65c_elementData_915e3_5 ?_
  rw [nI_clamp (by omega)]
  exact gk_aret0 hK.1 hret (by first | exact Or.inl ⟨_, rfl⟩ | exact Or.inr ⟨_, rfl⟩) (by first | exact Or.inr ⟨_, rfl⟩ | exact Or.inl rfl | exact va_rf_or _) hlk hP hS (Nat.le_of_ble_eq_true rfl) (Nat.le_of_ble_eq_true rfl) dJx4a65c_elementData_915e3_6 ⟨rfl, rfl⟩
set_option maxHeartbeats 4000000 in
set_option maxRecDepth 100000 in
theorem c_Jx4a65c_get_915e3 (l : Launch) {y : ly_T} {A : Nat → Prop} {G : gk_G} {mc : Int32} {len : Nat} {la ed : Nat} (hL : G la = some (.inr (0, [.int mc, .ref ed, .int (nI len)]))) {cap k : Nat} {g : Nat → Option Nat} (hE : G ed = some (rp_r (ly_k y 6) cap g)) (hcap : cap ≤ 1500) (h0 : k < len) (hlen : len ≤ cap) : gk_M0 l yJx4a65c_get_915e3 (Cond.code yJx4a65c_get_915e3 cJx4a65c_get_915e3 2 (some (.object "java/lang/Object"))) 2 60 0 0 y A [.ref la, .int (nI k)] G (fun v G1 => v = some (va_rf (g k)) ∧ G1 = G) := by
  refine gk_of0 (cc := cJx4a65c_get_915e3) (maxL := 2) (ret := (some (.object "java/lang/Object"))) (own := RJx4a65c) (by decide +kernel) rfl rfl (Nat.le_of_ble_eq_true rfl) ?_
  intro p e s m below meth c ls hK hret hlk _ hP hS hl
  have hl : lv_has ls 2 [(0, .ref la), (1, .int (nI k))] := hl
  have hk : k < cap := Nat.lt_of_lt_of_le h0 hlen
  refine lv_iload_n hK.1.1 hK.1.2.1 dJx4a65c_get_915e3_0 rfl (lv_at hl 1 rfl) ?_
  refine lv_aload_n hK.1.1 hK.1.2.1 dJx4a65c_get_915e3_1 rfl (lv_at hl 0 rfl) ?_
  refine gk_get hK.1 hK.2.2.1.1 hP (k := 2) hL rfl inlJx4a65c (by decide) q_5_17 (fun _ h => h) rfl dJx4a65c_get_915e3_2 ?_
  refine gk_callS0 (n := 2) (As := [.int (nI k), .int (nI len)]) (rest := []) hK (c_J15_checkIndex_7cf53 l (nI_pos (by omega)) (nI_lt h0 (by omega))) (gk_gS q_8_12 q_8_13 q_8_14 q_8_15) ⟨by decide +kernel, by decide +kernel, by decide +kernel⟩ ⟨(Nat.le_of_ble_eq_true rfl), (Nat.le_of_ble_eq_true rfl)⟩ hP hS rfl hl.1 rfl (Nat.le_of_ble_eq_true rfl) dJx4a65c_get_915e3_5 ⟨(Nat.le_of_ble_eq_true rfl), (Nat.le_of_ble_eq_true rfl)⟩ (fun v G1 H locs hw hP hS => ?_)
  obtain ⟨rfl, hG9⟩ := hw
  rw [hG9] at hP
  refine W.eq (g2 := F0 m 8 ls [.int (nI k)]) rfl ?_
  refine lv_pop hK.1.1 hK.1.2.1 dJx4a65c_get_915e3_8 rfl ?_
  refine lv_aload_n hK.1.1 hK.1.2.1 dJx4a65c_get_915e3_9 rfl (lv_at hl 0 rfl) ?_
  refine lv_iload_n hK.1.1 hK.1.2.1 dJx4a65c_get_915e3_10 rfl (lv_at hl 1 rfl) ?_
  refine gk_callV0 (n := 1) (As := [.int (nI k)]) (rest := []) hK (c_Jx4a65c_elementData_915e3 l hL hE hk hcap) (gk_gV q_8_20 q_8_21 q_8_22 q_2_13 q_8_23) ⟨rfl, by decide +kernel, by decide +kernel, by decide +kernel⟩ ⟨(Nat.le_of_ble_eq_true rfl), (Nat.le_of_ble_eq_true rfl)⟩ hP hS (gk_recv hK.2.2.1.1 hP hL rfl) rfl hl.1 rfl (Nat.le_of_ble_eq_true rfl) dJx4a65c_get_915e3_11 ⟨(Nat.le_of_ble_eq_true rfl), (Nat.le_of_ble_eq_true rfl)⟩ (fun v G1 H locs hw hP hS => ?_)
  obtain ⟨rfl, hG9⟩ := hw
  rw [hG9] at hP
  refine W.eq (g2 := F0 m 14 ls [va_rf (g k)]) rfl ?_
  exact gk_aret0 hK.1 hret (by first | exact Or.inl ⟨_, rfl⟩ | exact Or.inr ⟨_, rfl⟩) (by first | exact Or.inr ⟨_, rfl⟩ | exact Or.inl rfl | exact va_rf_or _) hlk hP hS (Nat.le_of_ble_eq_true rfl) (Nat.le_of_ble_eq_true rfl) dJx4a65c_get_915e3_14 ⟨rfl, rfl⟩
