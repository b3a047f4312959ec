/-! the constructors: the small ones -/
set_option maxHeartbeats 4000000 in
set_option maxRecDepth 100000 in
theorem c_X0_init (l : Launch) {y : ly_T} {A : Nat → Prop} {G : gk_G} {q : Nat} : gk_M0 l yX0_init (Cond.code yX0_init cX0_init 1 none) 1 20 0 0 y A [.ref q] G (fun v G1 => v = none ∧ G1 = G) := by
  refine gk_of0 (cc := cX0_init) (maxL := 1) (ret := none) (own := RX0) (by decide +kernel) rfl rfl (Nat.le_of_ble_eq_true rfl) ?_
  intro p e s m below meth c ls hK hret hlk hnm hP hS hl
  have hl : lv_has ls 1 [(0, .ref q)] := hl
  refine lv_aload_n hK.1.1 hK.1.2.1 dX0_init_0 rfl (lv_at hl 0 rfl) ?_
  refine gk_obj hK q_3_17 hl.1 ⟨(Nat.le_of_ble_eq_true rfl), (Nat.le_of_ble_eq_true rfl)⟩ (Nat.le_of_ble_eq_true rfl) dX0_init_1 ?_
  exact gk_vret0 hK.1 hret hlk hP hS (Nat.le_of_ble_eq_true rfl) (Nat.le_of_ble_eq_true rfl) dX0_init_4 ⟨rfl, rfl⟩
set_option maxHeartbeats 4000000 in
set_option maxRecDepth 100000 in
theorem c_Jxa1e45_init_da8c8 (l : Launch) {y : ly_T} {A : Nat → Prop} {G : gk_G} {q : Nat} : gk_M0 l yJxa1e45_init_da8c8 (Cond.code yJxa1e45_init_da8c8 cJxa1e45_init_da8c8 1 none) 1 20 0 0 y A [.ref q] G (fun v G1 => v = none ∧ G1 = G) := by
  refine gk_of0 (cc := cJxa1e45_init_da8c8) (maxL := 1) (ret := none) (own := RJxa1e45) (by decide +kernel) rfl rfl (Nat.le_of_ble_eq_true rfl) ?_
  intro p e s m below meth c ls hK hret hlk hnm hP hS hl
  have hl : lv_has ls 1 [(0, .ref q)] := hl
  refine lv_aload_n hK.1.1 hK.1.2.1 dJxa1e45_init_da8c8_0 rfl (lv_at hl 0 rfl) ?_
  refine gk_obj hK q_3_11 hl.1 ⟨(Nat.le_of_ble_eq_true rfl), (Nat.le_of_ble_eq_true rfl)⟩ (Nat.le_of_ble_eq_true rfl) dJxa1e45_init_da8c8_1 ?_
  exact gk_vret0 hK.1 hret hlk hP hS (Nat.le_of_ble_eq_true rfl) (Nat.le_of_ble_eq_true rfl) dJxa1e45_init_da8c8_4 ⟨rfl, rfl⟩
set_option maxHeartbeats 4000000 in
set_option maxRecDepth 100000 in
theorem c_Jxc12de_init_da8c8 (l : Launch) {y : ly_T} {A : Nat → Prop} {G : gk_G} {q : Nat} {mc : Int32} {v1 v2 : Value} (hL : G q = some (.inr (0, [.int mc, v1, v2]))) : gk_M0 l yJxc12de_init_da8c8 (Cond.code yJxc12de_init_da8c8 cJxc12de_init_da8c8 1 none) 2 50 0 0 y A [.ref q] G (fun v G1 => v = none ∧ G1 = gk_up G q (.inr (0, [.int 0, v1, v2]))) := by
  refine gk_of0 (cc := cJxc12de_init_da8c8) (maxL := 1) (ret := none) (own := RJxc12de) (by decide +kernel) rfl rfl (Nat.le_of_ble_eq_true rfl) ?_
  intro p e s m below meth c ls hK hret hlk hnm hP hS hl
  have hl : lv_has ls 1 [(0, .ref q)] := hl
  refine lv_aload_n hK.1.1 hK.1.2.1 dJxc12de_init_da8c8_0 rfl (lv_at hl 0 rfl) ?_
  refine gk_callI (n := 0) (As := []) (rest := []) hK (c_Jxa1e45_init_da8c8 l) q_3_10 q_3_9 q_3_7 q_3_8 rfl ⟨by decide +kernel, by decide +kernel, by decide +kernel⟩ ⟨(Nat.le_of_ble_eq_true rfl), (Nat.le_of_ble_eq_true rfl)⟩ hP hS rfl hl.1 rfl (Nat.le_of_ble_eq_true rfl) dJxc12de_init_da8c8_1 ⟨(Nat.le_of_ble_eq_true rfl), (Nat.le_of_ble_eq_true rfl)⟩ (fun v G1 H locs hw hP hS => ?_)
  obtain ⟨rfl, hG9⟩ := hw
  rw [hG9] at hP
  refine W.eq (g2 := F0 m 4 ls []) rfl ?_
  refine lv_aload_n hK.1.1 hK.1.2.1 dJxc12de_init_da8c8_4 rfl (lv_at hl 0 rfl) ?_
  refine lv_iconst (v := 0) hK.1.1 hK.1.2.1 dJxc12de_init_da8c8_5 (by decide) ?_
  refine gk_put hK.1 hK.2.2.1.1 hP hS (k := 0) hL rfl inlJx4a65c tyJx4a65c tyJx4a65c_ok nmJx4a65c (by decide) q_3_6 (fun _ h => h) rfl rfl rfl (Nat.le_of_ble_eq_true rfl) dJxc12de_init_da8c8_6 (fun H locs hP hS => ?_)
  exact gk_vret0 hK.1 hret hlk hP hS (Nat.le_of_ble_eq_true rfl) (Nat.le_of_ble_eq_true rfl) dJxc12de_init_da8c8_9 ⟨rfl, rfl⟩
set_option maxHeartbeats 4000000 in
set_option maxRecDepth 100000 in
theorem c_Jx4a65c_init_da8c8 (l : Launch) {y : ly_T} {A : Nat → Prop} {G : gk_G} {q : Nat} {mc : Int32} {v1 v2 : Value} (hL : G q = some (.inr (0, [.int mc, v1, v2]))) : gk_M0 l yJx4a65c_init_da8c8 (Cond.code yJx4a65c_init_da8c8 cJx4a65c_init_da8c8 1 none) 3 80 0 0 y A [.ref q] G (fun v G1 => v = none ∧ G1 = gk_up G q (.inr (0, [.int 0, .ref (ly_a y 6), v2]))) := by
  refine gk_of0 (cc := cJx4a65c_init_da8c8) (maxL := 1) (ret := none) (own := RJx4a65c) (by decide +kernel) rfl rfl (Nat.le_of_ble_eq_true rfl) ?_
  intro p e s m below meth c ls hK hret hlk hnm hP hS hl
  have hl : lv_has ls 1 [(0, .ref q)] := hl
  refine lv_aload_n hK.1.1 hK.1.2.1 dJx4a65c_init_da8c8_0 rfl (lv_at hl 0 rfl) ?_
  refine gk_callI (n := 0) (As := []) (rest := []) hK (c_Jxc12de_init_da8c8 l hL) q_3_5 q_3_4 q_3_2 q_3_3 rfl ⟨by decide +kernel, by decide +kernel, by decide +kernel⟩ ⟨(Nat.le_of_ble_eq_true rfl), (Nat.le_of_ble_eq_true rfl)⟩ hP hS rfl hl.1 rfl (Nat.le_of_ble_eq_true rfl) dJx4a65c_init_da8c8_1 ⟨(Nat.le_of_ble_eq_true rfl), (Nat.le_of_ble_eq_true rfl)⟩ (fun v G1 H locs hw hP hS => ?_)
  obtain ⟨rfl, hG9⟩ := hw
  rw [hG9] at hP
  refine W.eq (g2 := F0 m 4 ls []) rfl ?_
  have hL2 : gk_up G q (.inr (0, [.int 0, v1, v2])) q = some (.inr (0, [.int 0, v1, v2])) := gk_us _ _ _
  refine lv_aload_n hK.1.1 hK.1.2.1 dJx4a65c_init_da8c8_4 rfl (lv_at hl 0 rfl) ?_
  refine va_gets hK.1.1 hK.1.2.1 hK.2.2.1.2.2.2.2.2.1 hS hK.1.2.2.1 (hK.1.2.2.2 _ q_3_0) (fun _ h => h) dJx4a65c_init_da8c8_5 ?_
  refine gk_put hK.1 hK.2.2.1.1 hP hS (k := 1) hL2 rfl inlJx4a65c tyJx4a65c tyJx4a65c_ok nmJx4a65c (by decide) q_3_1 (fun _ h => h) rfl rfl rfl (Nat.le_of_ble_eq_true rfl) dJx4a65c_init_da8c8_8 (fun H locs hP hS => ?_)
  exact gk_vret0 hK.1 hret hlk hP hS (Nat.le_of_ble_eq_true rfl) (Nat.le_of_ble_eq_true rfl) dJx4a65c_init_da8c8_11 ⟨rfl, gk_uu _ _ _ _⟩
set_option maxHeartbeats 4000000 in
set_option maxRecDepth 100000 in
theorem c_X3_init (l : Launch) {y : ly_T} {A : Nat → Prop} {G : gk_G} {q : Nat} {i : Int32} (hL : G q = some (.inr (4, [.int 0, .int 0, .int 0, .int 0, .int 0, .int 0, .int 0, .int 0, .int 0, .int 0]))) : gk_M0 l yX3_init (Cond.code yX3_init cX3_init 2 none) 1 20 0 0 y A [.ref q, .int i] G (fun v G1 => v = none ∧ G1 = gk_up G q (.inr (4, [.int i, .int 0, .int (-1), .int (-1), .int 0, .int 3, .int 0, .int 0, .int 0, .int 0]))) := by
  refine gk_of0 (cc := cX3_init) (maxL := 2) (ret := none) (own := RX3) (by decide +kernel) rfl rfl (Nat.le_of_ble_eq_true rfl) ?_
  intro p e s m below meth c ls hK hret hlk hnm hP hS hl
  have hl : lv_has ls 2 [(0, .ref q), (1, .int i)] := hl
  refine lv_aload_n hK.1.1 hK.1.2.1 dX3_init_0 rfl (lv_at hl 0 rfl) ?_
  refine gk_obj hK q_2_2 hl.1 ⟨(Nat.le_of_ble_eq_true rfl), (Nat.le_of_ble_eq_true rfl)⟩ (Nat.le_of_ble_eq_true rfl) dX3_init_1 ?_
  refine lv_aload_n hK.1.1 hK.1.2.1 dX3_init_4 rfl (lv_at hl 0 rfl) ?_
  refine lv_iconst (v := (-1)) hK.1.1 hK.1.2.1 dX3_init_5 (by decide) ?_
  refine gk_put hK.1 hK.2.2.1.1 hP hS (k := 2) hL rfl inlX3 tyX3 tyX3_ok nmX3 (by decide) q_2_3 (fun _ h => h) rfl rfl rfl (Nat.le_of_ble_eq_true rfl) dX3_init_6 (fun H locs hP hS => ?_)
  have hP : gk_P (ly_D y) A (gk_up G q (.inr (4, [.int 0, .int 0, .int (-1), .int 0, .int 0, .int 0, .int 0, .int 0, .int 0, .int 0]))) H := hP
  refine lv_aload_n hK.1.1 hK.1.2.1 dX3_init_9 rfl (lv_at hl 0 rfl) ?_
  refine lv_iconst (v := (-1)) hK.1.1 hK.1.2.1 dX3_init_10 (by decide) ?_
  refine gk_put hK.1 hK.2.2.1.1 hP hS (k := 3) (gk_us _ _ _ : (gk_up G q (.inr (4, [.int 0, .int 0, .int (-1), .int 0, .int 0, .int 0, .int 0, .int 0, .int 0, .int 0]))) q = some (.inr (4, [.int 0, .int 0, .int (-1), .int 0, .int 0, .int 0, .int 0, .int 0, .int 0, .int 0]))) rfl inlX3 tyX3 tyX3_ok nmX3 (by decide) q_2_4 (fun _ h => h) rfl rfl rfl (Nat.le_of_ble_eq_true rfl) dX3_init_11 (fun H locs hP hS => ?_)
  have hP : gk_P (ly_D y) A (gk_up (gk_up G q (.inr (4, [.int 0, .int 0, .int (-1), .int 0, .int 0, .int 0, .int 0, .int 0, .int 0, .int 0]))) q (.inr (4, [.int 0, .int 0, .int (-1), .int (-1), .int 0, .int 0, .int 0, .int 0, .int 0, .int 0]))) H := hP
  refine lv_aload_n hK.1.1 hK.1.2.1 dX3_init_14 rfl (lv_at hl 0 rfl) ?_
  refine lv_iconst (v := 3) hK.1.1 hK.1.2.1 dX3_init_15 (by decide) ?_
  refine gk_put hK.1 hK.2.2.1.1 hP hS (k := 5) (gk_us _ _ _ : (gk_up (gk_up G q (.inr (4, [.int 0, .int 0, .int (-1), .int 0, .int 0, .int 0, .int 0, .int 0, .int 0, .int 0]))) q (.inr (4, [.int 0, .int 0, .int (-1), .int (-1), .int 0, .int 0, .int 0, .int 0, .int 0, .int 0]))) q = some (.inr (4, [.int 0, .int 0, .int (-1), .int (-1), .int 0, .int 0, .int 0, .int 0, .int 0, .int 0]))) rfl inlX3 tyX3 tyX3_ok nmX3 (by decide) q_2_5 (fun _ h => h) rfl rfl rfl (Nat.le_of_ble_eq_true rfl) dX3_init_16 (fun H locs hP hS => ?_)
  have hP : gk_P (ly_D y) A (gk_up (gk_up (gk_up G q (.inr (4, [.int 0, .int 0, .int (-1), .int 0, .int 0, .int 0, .int 0, .int 0, .int 0, .int 0]))) q (.inr (4, [.int 0, .int 0, .int (-1), .int (-1), .int 0, .int 0, .int 0, .int 0, .int 0, .int 0]))) q (.inr (4, [.int 0, .int 0, .int (-1), .int (-1), .int 0, .int 3, .int 0, .int 0, .int 0, .int 0]))) H := hP
  refine lv_aload_n hK.1.1 hK.1.2.1 dX3_init_19 rfl (lv_at hl 0 rfl) ?_
  refine lv_iload_n hK.1.1 hK.1.2.1 dX3_init_20 rfl (lv_at hl 1 rfl) ?_
  refine gk_putF hK.1 hK.2.2.1.1 hP hS (k := 0) (gk_us _ _ _ : (gk_up (gk_up (gk_up G q (.inr (4, [.int 0, .int 0, .int (-1), .int 0, .int 0, .int 0, .int 0, .int 0, .int 0, .int 0]))) q (.inr (4, [.int 0, .int 0, .int (-1), .int (-1), .int 0, .int 0, .int 0, .int 0, .int 0, .int 0]))) q (.inr (4, [.int 0, .int 0, .int (-1), .int (-1), .int 0, .int 3, .int 0, .int 0, .int 0, .int 0]))) q = some (.inr (4, [.int 0, .int 0, .int (-1), .int (-1), .int 0, .int 3, .int 0, .int 0, .int 0, .int 0]))) rfl inlX3 tyX3 tyX3_ok nmX3 (by decide) q_2_6 (fun _ h => h) rfl hnm rfl rfl rfl (Nat.le_of_ble_eq_true rfl) dX3_init_21 (fun H locs hP hS => ?_)
  have hP : gk_P (ly_D y) A (gk_up (gk_up (gk_up (gk_up G q (.inr (4, [.int 0, .int 0, .int (-1), .int 0, .int 0, .int 0, .int 0, .int 0, .int 0, .int 0]))) q (.inr (4, [.int 0, .int 0, .int (-1), .int (-1), .int 0, .int 0, .int 0, .int 0, .int 0, .int 0]))) q (.inr (4, [.int 0, .int 0, .int (-1), .int (-1), .int 0, .int 3, .int 0, .int 0, .int 0, .int 0]))) q (.inr (4, [.int i, .int 0, .int (-1), .int (-1), .int 0, .int 3, .int 0, .int 0, .int 0, .int 0]))) H := hP
  exact gk_vret0 hK.1 hret hlk hP hS (Nat.le_of_ble_eq_true rfl) (Nat.le_of_ble_eq_true rfl) dX3_init_24 ⟨rfl, by rw [gk_uu, gk_uu, gk_uu]⟩
