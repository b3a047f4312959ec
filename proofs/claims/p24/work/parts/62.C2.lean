/-! the constructor of a file -/
set_option maxHeartbeats 4000000 in
set_option maxRecDepth 100000 in
theorem c_X1_init (l : Launch) {y : ly_T} {A : Nat → Prop} {G : gk_G} {q r : Nat} {i : Int32} (hL : G q = some (.inr (2, [.int 0, .null, .null, .null, .int 0, .int 0, .int 0]))) : gk_M0 l yX1_init (Cond.code yX1_init cX1_init 3 none) 4 120 2 6 y A [.ref q, .int i, .ref r] G (fun v G1 => v = none ∧ ∃ la t, G la = none ∧ G t = none ∧ la ≠ q ∧ t ≠ q ∧ la ≠ t ∧ G1 q = some (.inr (2, [.int i, .ref la, .ref r, .ref t, .int 0, .int 0, .int 0])) ∧ G1 la = some (.inr (0, [.int 0, .ref (ly_a y 6), .int 0])) ∧ G1 t = some (.inr (3, [.int 0, .int 0, .int 0])) ∧ ∀ b, b ≠ q → b ≠ la → b ≠ t → G1 b = G b) := by
  refine gk_of0 (cc := cX1_init) (maxL := 3) (ret := none) (own := RX1) (by decide +kernel) rfl rfl (Nat.le_of_ble_eq_true rfl) ?_
  intro p e s m below meth c ls hK hret hlk hnm hP hS hl
  have hl : lv_has ls 3 [(0, .ref q), (1, .int i), (2, .ref r)] := hl
  refine lv_aload_n hK.1.1 hK.1.2.1 dX1_init_0 rfl (lv_at hl 0 rfl) ?_
  refine gk_obj hK q_2_10 hl.1 ⟨(Nat.le_of_ble_eq_true rfl), (Nat.le_of_ble_eq_true rfl)⟩ (Nat.le_of_ble_eq_true rfl) dX1_init_1 ?_
  refine lv_aload_n hK.1.1 hK.1.2.1 dX1_init_4 rfl (lv_at hl 0 rfl) ?_
  refine gk_new hK.1 hK.2.2.1.1 hP hS hK.2.2.2 (ci := 0) (C := RJx4a65c) (T := TJx4a65c) (N := 3) rfl inlJx4a65c tyJx4a65c tyJx4a65c_ok q_2_11 q_2_12 q_2_13 (fs := [.int 0, .null, .int 0]) (by decide +kernel) (Nat.le_of_ble_eq_true rfl) (Nat.le_of_ble_eq_true rfl) dX1_init_5 (fun la H hn1 hP hS => ?_)
  have hqla : q ≠ la := fun z => by rw [z, hn1] at hL; cases hL
  refine lv_dup hK.1.1 hK.1.2.1 dX1_init_8 rfl ?_
  refine gk_callI (n := 0) (As := []) (rest := [.ref la, .ref q]) hK (c_Jx4a65c_init_da8c8 l (gk_us G la (.inr (0, [.int 0, .null, .int 0])))) q_2_23 q_2_13 q_2_21 q_2_22 rfl ⟨by decide +kernel, by decide +kernel, by decide +kernel⟩ ⟨(Nat.le_of_ble_eq_true rfl), (Nat.le_of_ble_eq_true rfl)⟩ hP hS rfl hl.1 rfl (Nat.le_of_ble_eq_true rfl) dX1_init_9 ⟨(Nat.le_of_ble_eq_true rfl), (Nat.le_of_ble_eq_true rfl)⟩ (fun v G1 H locs hw hP hS => ?_)
  obtain ⟨rfl, hG9⟩ := hw
  rw [hG9, gk_uu] at hP
  refine W.eq (g2 := F0 m 12 ls [.ref la, .ref q]) rfl ?_
  obtain ⟨G2, hG2⟩ : ∃ z, z = gk_up G la (.inr (0, [.int 0, .ref (ly_a y 6), .int 0])) := ⟨_, rfl⟩
  have hP : gk_P (ly_D y) A G2 H := by rw [hG2]; exact hP
  have q2 : G2 q = some (.inr (2, [.int 0, .null, .null, .null, .int 0, .int 0, .int 0])) := by rw [hG2, gk_un _ _ hqla]; exact hL
  refine gk_putF hK.1 hK.2.2.1.1 hP hS (k := 1) q2 rfl inlX1 tyX1 tyX1_ok nmX1 (by decide) q_2_14 (fun _ h => h) rfl hnm rfl rfl rfl (Nat.le_of_ble_eq_true rfl) dX1_init_12 (fun H locs hP hS => ?_)
  obtain ⟨G3, hG3⟩ : ∃ z, z = gk_up G2 q (.inr (2, [.int 0, .ref la, .null, .null, .int 0, .int 0, .int 0])) := ⟨_, rfl⟩
  have hP : gk_P (ly_D y) A G3 H := by rw [hG3]; exact hP
  have q3 : G3 q = some (.inr (2, [.int 0, .ref la, .null, .null, .int 0, .int 0, .int 0])) := by rw [hG3]; exact gk_us _ _ _
  have l3 : G3 la = some (.inr (0, [.int 0, .ref (ly_a y 6), .int 0])) := by rw [hG3, gk_un _ _ (Ne.symm hqla), hG2]; exact gk_us _ _ _
  refine lv_aload_n hK.1.1 hK.1.2.1 dX1_init_15 rfl (lv_at hl 0 rfl) ?_
  refine gk_new hK.1 hK.2.2.1.1 hP hS hK.2.2.2 (ci := 3) (C := RX2) (T := TX2) (N := 3) rfl inlX2 tyX2 tyX2_ok q_2_15 q_2_16 q_2_17 (fs := [.int 0, .int 0, .int 0]) (by decide +kernel) (Nat.le_of_ble_eq_true rfl) (Nat.le_of_ble_eq_true rfl) dX1_init_16 (fun t H hn2 hP hS => ?_)
  have hqt : q ≠ t := fun z => by rw [← z, q3] at hn2; cases hn2
  have hlt : la ≠ t := fun z => by rw [← z, l3] at hn2; cases hn2
  refine lv_dup hK.1.1 hK.1.2.1 dX1_init_19 rfl ?_
  refine gk_callIN (n := 0) (As := []) (rest := [.ref t, .ref q]) hK (c_X2_init l) q_3_13 q_2_17 hK.2.2.1.2.2.1.2.2.1.2.2 q_3_12 rfl ⟨by decide +kernel, by decide +kernel, by decide +kernel⟩ ⟨(Nat.le_of_ble_eq_true rfl), (Nat.le_of_ble_eq_true rfl)⟩ hP hS rfl hl.1 rfl (Nat.le_of_ble_eq_true rfl) dX1_init_20 ⟨(Nat.le_of_ble_eq_true rfl), (Nat.le_of_ble_eq_true rfl)⟩ (fun v G1 H locs hw hP hS => ?_)
  obtain ⟨rfl, hG9⟩ := hw
  rw [hG9] at hP
  refine W.eq (g2 := F0 m 23 ls [.ref t, .ref q]) rfl ?_
  obtain ⟨G4, hG4⟩ : ∃ z, z = gk_up G3 t (.inr (3, [.int 0, .int 0, .int 0])) := ⟨_, rfl⟩
  have hP : gk_P (ly_D y) A G4 H := by rw [hG4]; exact hP
  have q4 : G4 q = some (.inr (2, [.int 0, .ref la, .null, .null, .int 0, .int 0, .int 0])) := by rw [hG4, gk_un _ _ hqt]; exact q3
  refine gk_put hK.1 hK.2.2.1.1 hP hS (k := 3) q4 rfl inlX1 tyX1 tyX1_ok nmX1 (by decide) q_2_18 (fun _ h => h) rfl rfl rfl (Nat.le_of_ble_eq_true rfl) dX1_init_23 (fun H locs hP hS => ?_)
  refine lv_aload_n hK.1.1 hK.1.2.1 dX1_init_26 rfl (lv_at hl 0 rfl) ?_
  refine lv_iload_n hK.1.1 hK.1.2.1 dX1_init_27 rfl (lv_at hl 1 rfl) ?_
  refine gk_putF hK.1 hK.2.2.1.1 hP hS (k := 0) (gk_us G4 q (.inr (2, [.int 0, .ref la, .null, .ref t, .int 0, .int 0, .int 0]))) rfl inlX1 tyX1 tyX1_ok nmX1 (by decide) q_2_19 (fun _ h => h) rfl hnm rfl rfl rfl (Nat.le_of_ble_eq_true rfl) dX1_init_28 (fun H locs hP hS => ?_)
  refine lv_aload_n hK.1.1 hK.1.2.1 dX1_init_31 rfl (lv_at hl 0 rfl) ?_
  refine lv_aload_n hK.1.1 hK.1.2.1 dX1_init_32 rfl (lv_at hl 2 rfl) ?_
  refine gk_put hK.1 hK.2.2.1.1 hP hS (k := 2) (gk_us (gk_up G4 q (.inr (2, [.int 0, .ref la, .null, .ref t, .int 0, .int 0, .int 0]))) q (.inr (2, [.int i, .ref la, .null, .ref t, .int 0, .int 0, .int 0]))) rfl inlX1 tyX1 tyX1_ok nmX1 (by decide) q_2_20 (fun _ h => h) rfl rfl rfl (Nat.le_of_ble_eq_true rfl) dX1_init_33 (fun H locs hP hS => ?_)
  refine gk_vret0 hK.1 hret hlk hP hS (Nat.le_of_ble_eq_true rfl) (Nat.le_of_ble_eq_true rfl) dX1_init_36 ⟨rfl, la, t, hn1, by rw [hG3, gk_un _ _ (Ne.symm hqt), hG2, gk_un _ _ (Ne.symm hlt)] at hn2; exact hn2, Ne.symm hqla, Ne.symm hqt, hlt, gk_us _ _ _, ?_, ?_, fun b b1 b2 b3 => ?_⟩
  · rw [gk_un _ _ (Ne.symm hqla), gk_un _ _ (Ne.symm hqla), gk_un _ _ (Ne.symm hqla), hG4, gk_un _ _ hlt]; exact l3
  · rw [gk_un _ _ (Ne.symm hqt), gk_un _ _ (Ne.symm hqt), gk_un _ _ (Ne.symm hqt), hG4]; exact gk_us _ _ _
  · rw [gk_un _ _ b1, gk_un _ _ b1, gk_un _ _ b1, hG4, gk_un _ _ b3, hG3, gk_un _ _ b1, hG2, gk_un _ _ b2]
