/-! the library's list: the public add and remove -/
set_option maxHeartbeats 4000000 in
set_option maxRecDepth 100000 in
theorem c_Jx4a65c_add_9ea2d (l : Launch) {y : ly_T} {A : Nat → Prop} {G : gk_G} {mc : Int32} {la ed n t : Nat} {g : Nat → Option Nat} (hL : G la = some (.inr (0, [.int mc, .ref ed, .int (nI n)]))) (hF : (n = 0 ∧ ed = ly_a y 6) ∨ ∃ cap, G ed = some (rp_r (ly_k y 6) cap g) ∧ n ≤ cap ∧ 0 < cap ∧ cap ≤ 1500) (hn9 : n ≤ 999) (hel : ∀ i, i < n → ∀ t, g i = some t → gl_pt G t) (ht : gl_pt G t) : gk_M0 l yJx4a65c_add_9ea2d (Cond.code yJx4a65c_add_9ea2d cJx4a65c_add_9ea2d 2 (some .boolean)) 6 210 1 1500 y A [.ref la, .ref t] G (fun v G1 => v = some (.int 1) ∧ ∃ ed2 cap2 g2, G1 la = some (.inr (0, [.int (mc + 1), .ref ed2, .int (nI (n + 1))])) ∧ G1 ed2 = some (rp_r (ly_k y 6) cap2 g2) ∧ n < cap2 ∧ cap2 ≤ 1500 ∧ g2 n = some t ∧ (∀ k, k < n → g2 k = g k) ∧ (ed2 = ed ∨ G ed2 = none) ∧ ∀ b e, b ≠ la → b ≠ ed2 → G b = some e → G1 b = some e) := by
  refine gk_of0 (cc := cJx4a65c_add_9ea2d) (maxL := 2) (ret := (some .boolean)) (own := RJx4a65c) (by decide +kernel) rfl rfl (Nat.le_of_ble_eq_true rfl) ?_
  intro p e s m below meth c ls hK hret hlk _ hP hS hl
  have hl : lv_has ls 2 [(0, .ref la), (1, .ref t)] := hl
  refine lv_aload_n hK.1.1 hK.1.2.1 dJx4a65c_add_9ea2d_0 rfl (lv_at hl 0 rfl) ?_
  refine lv_dup hK.1.1 hK.1.2.1 dJx4a65c_add_9ea2d_1 rfl ?_
  refine gk_get hK.1 hK.2.2.1.1 hP (k := 0) hL rfl inlJx4a65c (by decide) q_5_22 (u_same (hK.1.2.2.2 _ q_5_23)) rfl dJx4a65c_add_9ea2d_2 ?_
  refine lv_iconst (v := 1) hK.1.1 hK.1.2.1 dJx4a65c_add_9ea2d_5 (by decide) ?_
  refine lv_iadd hK.1.1 hK.1.2.1 dJx4a65c_add_9ea2d_6 ?_
  refine gk_put hK.1 hK.2.2.1.1 hP hS (k := 0) hL rfl inlJx4a65c tyJx4a65c tyJx4a65c_ok nmJx4a65c (by decide) q_5_22 (u_same (hK.1.2.2.2 _ q_5_23)) rfl rfl rfl (Nat.le_of_ble_eq_true rfl) dJx4a65c_add_9ea2d_7 (fun H locs hP hS => ?_)
  obtain ⟨G_1, hG_1⟩ : ∃ z, z = gk_up G la (.inr (0, [.int (mc + 1), .ref ed, .int (nI n)])) := ⟨_, rfl⟩
  have hP : gk_P (ly_D y) A G_1 H := by rw [hG_1]; exact hP
  have f_2 : G_1 la = some (.inr (0, [.int (mc + 1), .ref ed, .int (nI n)])) := by rw [hG_1]; exact gk_us _ _ _
  refine lv_aload_n hK.1.1 hK.1.2.1 dJx4a65c_add_9ea2d_10 rfl (lv_at hl 0 rfl) ?_
  refine lv_aload_n hK.1.1 hK.1.2.1 dJx4a65c_add_9ea2d_11 rfl (lv_at hl 1 rfl) ?_
  refine lv_aload_n hK.1.1 hK.1.2.1 dJx4a65c_add_9ea2d_12 rfl (lv_at hl 0 rfl) ?_
  refine gk_get hK.1 hK.2.2.1.1 hP (k := 1) f_2 rfl inlJx4a65c (by decide) q_3_1 (fun _ h => h) rfl dJx4a65c_add_9ea2d_13 ?_
  refine lv_aload_n hK.1.1 hK.1.2.1 dJx4a65c_add_9ea2d_16 rfl (lv_at hl 0 rfl) ?_
  refine gk_get hK.1 hK.2.2.1.1 hP (k := 2) f_2 rfl inlJx4a65c (by decide) q_5_17 (fun _ h => h) rfl dJx4a65c_add_9ea2d_17 ?_
  refine gk_callV0 (n := 3) (As := [.ref t, .ref ed, .int (nI n)]) (rest := []) hK (c_Jx4a65c_add_72be8 l (mc := mc + 1) f_2 (hF.imp (fun h => h) (fun ⟨cap, z, z2⟩ => ⟨cap, by rw [hG_1]; exact gk_keep hL z (fun h => by cases h), z2⟩)) hn9 (fun i hi t hg => by obtain ⟨vs, hvs⟩ := hel i hi t hg; exact ⟨vs, by rw [hG_1]; exact gk_keep hL hvs (fun h => by cases h)⟩) (by obtain ⟨vs, hvs⟩ := ht; exact ⟨vs, by rw [hG_1]; exact gk_keep hL hvs (fun h => by cases h)⟩)) (gk_gV q_6_0 q_6_1 q_6_2 q_2_13 q_6_3) ⟨rfl, by decide +kernel, by decide +kernel, by decide +kernel⟩ ⟨(Nat.le_of_ble_eq_true rfl), (Nat.le_of_ble_eq_true rfl)⟩ hP hS (gk_recv hK.2.2.1.1 hP f_2 rfl) rfl hl.1 rfl (Nat.le_of_ble_eq_true rfl) dJx4a65c_add_9ea2d_20 ⟨(Nat.le_of_ble_eq_true rfl), (Nat.le_of_ble_eq_true rfl)⟩ (fun v G1 H locs hw hP hS => ?_)
  obtain ⟨rfl, ed2, cap2, g2, a1, a2, a3, a4, a5, a6, a7, a8⟩ := hw
  refine W.eq (g2 := F0 m 23 ls []) rfl ?_
  refine lv_iconst (v := 1) hK.1.1 hK.1.2.1 dJx4a65c_add_9ea2d_23 (by decide) ?_
  exact gk_zret0 hK.1 hret (by first | decide | exact (rp_nz (by first | assumption | (simp; done))).1) hlk hP hS (Nat.le_of_ble_eq_true rfl) (Nat.le_of_ble_eq_true rfl) dJx4a65c_add_9ea2d_24 ⟨rfl, ed2, cap2, g2, a1, a2, a3, a4, a5, a6, a7.imp (fun h => h) (fun h => by by_cases hla : ed2 = la; (rw [hla, hG_1, gk_us] at h; cases h); (rw [hG_1, gk_un _ _ hla] at h; exact h)), fun b e hb1 hb2 hb3 => a8 b e hb1 hb2 (by rw [hG_1, gk_un _ _ hb1]; exact hb3)⟩
set_option maxHeartbeats 4000000 in
set_option maxRecDepth 100000 in
theorem c_Jx4a65c_fastRemove_b59b0 (l : Launch) {y : ly_T} {A : Nat → Prop} {G : gk_G} {mc : Int32} {la ed n k cap : Nat} {g : Nat → Option Nat} (hL : G la = some (.inr (0, [.int mc, .ref ed, .int (nI (n + 1))]))) (hE : G ed = some (rp_r (ly_k y 6) cap g)) (hk : k ≤ n) (hnc : n + 1 ≤ cap) (hcap : cap ≤ 1500) (hel : ∀ i, i < n + 1 → ∀ t, g i = some t → gl_pt G t) : gk_M0 l yJx4a65c_fastRemove_b59b0 (Cond.code yJx4a65c_fastRemove_b59b0 cJx4a65c_fastRemove_b59b0 4 none) 1 60 0 0 y A [.ref la, .ref ed, .int (nI k)] G (fun v G1 => v = none ∧ ∃ g2, G1 la = some (.inr (0, [.int (mc + 1), .ref ed, .int (nI n)])) ∧ G1 ed = some (rp_r (ly_k y 6) cap g2) ∧ (∀ j, j < n → g2 j = if j < k then g j else g (j + 1)) ∧ ∀ b e, b ≠ la → b ≠ ed → G b = some e → G1 b = some e) := by
  refine gk_of0 (cc := cJx4a65c_fastRemove_b59b0) (maxL := 4) (ret := none) (own := RJx4a65c) (by decide +kernel) rfl rfl (Nat.le_of_ble_eq_true rfl) ?_
  intro p e s m below meth c ls hK hret hlk _ hP hS hl
  have hl : lv_has ls 4 [(0, .ref la), (1, .ref ed), (2, .int (nI k))] := hl
  refine lv_aload_n hK.1.1 hK.1.2.1 dJx4a65c_fastRemove_b59b0_0 rfl (lv_at hl 0 rfl) ?_
  refine lv_dup hK.1.1 hK.1.2.1 dJx4a65c_fastRemove_b59b0_1 rfl ?_
  refine gk_get hK.1 hK.2.2.1.1 hP (k := 0) hL rfl inlJx4a65c (by decide) q_5_22 (u_same (hK.1.2.2.2 _ q_5_23)) rfl dJx4a65c_fastRemove_b59b0_2 ?_
  refine lv_iconst (v := 1) hK.1.1 hK.1.2.1 dJx4a65c_fastRemove_b59b0_5 (by decide) ?_
  refine lv_iadd hK.1.1 hK.1.2.1 dJx4a65c_fastRemove_b59b0_6 ?_
  refine gk_put hK.1 hK.2.2.1.1 hP hS (k := 0) hL rfl inlJx4a65c tyJx4a65c tyJx4a65c_ok nmJx4a65c (by decide) q_5_22 (u_same (hK.1.2.2.2 _ q_5_23)) rfl rfl rfl (Nat.le_of_ble_eq_true rfl) dJx4a65c_fastRemove_b59b0_7 (fun H locs hP hS => ?_)
  obtain ⟨G_1, hG_1⟩ : ∃ z, z = gk_up G la (.inr (0, [.int (mc + 1), .ref ed, .int (nI (n + 1))])) := ⟨_, rfl⟩
  have hP : gk_P (ly_D y) A G_1 H := by rw [hG_1]; exact hP
  have f_2 : G_1 la = some (.inr (0, [.int (mc + 1), .ref ed, .int (nI (n + 1))])) := by rw [hG_1]; exact gk_us _ _ _
  have k_3 : G_1 ed = some (rp_r (ly_k y 6) cap g) := by rw [hG_1]; exact gk_keep hL hE (fun h => by cases h)
  refine lv_aload_n hK.1.1 hK.1.2.1 dJx4a65c_fastRemove_b59b0_10 rfl (lv_at hl 0 rfl) ?_
  refine gk_get hK.1 hK.2.2.1.1 hP (k := 2) f_2 rfl inlJx4a65c (by decide) q_5_17 (fun _ h => h) rfl dJx4a65c_fastRemove_b59b0_11 ?_
  refine lv_iconst (v := 1) hK.1.1 hK.1.2.1 dJx4a65c_fastRemove_b59b0_14 (by decide) ?_
  refine lv_isub hK.1.1 hK.1.2.1 dJx4a65c_fastRemove_b59b0_15 ?_
  rw [nI_pred]
  refine lv_dup hK.1.1 hK.1.2.1 dJx4a65c_fastRemove_b59b0_16 rfl ?_
  refine lv_istore_n (lv' := [(3, .int (nI n)), (0, .ref la), (1, .ref ed), (2, .int (nI k))]) hK.1.1 hK.1.2.1 dJx4a65c_fastRemove_b59b0_17 rfl hl (by decide) rfl (fun ls hl => ?_)
  refine lv_iload_n hK.1.1 hK.1.2.1 dJx4a65c_fastRemove_b59b0_18 rfl (lv_at hl 3 rfl) ?_
  refine lv_icmp_le (tgt := 34) hK.1.1 hK.1.2.1 dJx4a65c_fastRemove_b59b0_19 (by decide) (fun c19_4 => ?_) (fun c19_4 => ?_)
  · refine lv_aload_n hK.1.1 hK.1.2.1 dJx4a65c_fastRemove_b59b0_34 rfl (lv_at hl 2 rfl) ?_
    refine lv_aload_n hK.1.1 hK.1.2.1 dJx4a65c_fastRemove_b59b0_35 rfl (lv_at hl 1 rfl) ?_
    refine lv_iload_n hK.1.1 hK.1.2.1 dJx4a65c_fastRemove_b59b0_36 rfl (lv_at hl 0 rfl) ?_
    refine lv_dup_x1 hK.1.1 hK.1.2.1 dJx4a65c_fastRemove_b59b0_37 rfl rfl ?_
    refine gk_put hK.1 hK.2.2.1.1 hP hS (k := 2) f_2 rfl inlJx4a65c tyJx4a65c tyJx4a65c_ok nmJx4a65c (by decide) q_5_17 (fun _ h => h) rfl rfl rfl (Nat.le_of_ble_eq_true rfl) dJx4a65c_fastRemove_b59b0_38 (fun H locs hP hS => ?_)
    obtain ⟨G_5, hG_5⟩ : ∃ z, z = gk_up G_1 la (.inr (0, [.int (mc + 1), .ref ed, .int (nI n)])) := ⟨_, rfl⟩
    have hP : gk_P (ly_D y) A G_5 H := by rw [hG_5]; exact hP
    have f_6 : G_5 la = some (.inr (0, [.int (mc + 1), .ref ed, .int (nI n)])) := by rw [hG_5]; exact gk_us _ _ _
    have k_7 : G_5 ed = some (rp_r (ly_k y 6) cap g) := by rw [hG_5]; exact gk_keep f_2 k_3 (fun h => by cases h)
    refine lv_null hK.1.1 hK.1.2.1 dJx4a65c_fastRemove_b59b0_41 ?_
    refine gk_aastN hK.1 hK.2.2.1.1 hP hS 6 (C := "java/lang/Object") k_7 rfl (vp_in_nI (show n < cap by omega) (by omega)) dJx4a65c_fastRemove_b59b0_42 (fun H locs hP hS => ?_)
    rw [nI_clamp (by omega)] at hP
    obtain ⟨G_8, hG_8⟩ : ∃ z, z = gk_up G_5 ed (rp_r (ly_k y 6) cap (va_up g n none)) := ⟨_, rfl⟩
    have hP : gk_P (ly_D y) A G_8 H := by rw [hG_8]; exact hP
    have f_9 : G_8 ed = some (rp_r (ly_k y 6) cap (va_up g n none)) := by rw [hG_8]; exact gk_us _ _ _
    have k_10 : G_8 la = some (.inr (0, [.int (mc + 1), .ref ed, .int (nI n)])) := by rw [hG_8]; exact gk_keep k_7 f_6 (fun h => by cases h)
    exact gk_vret0 hK.1 hret hlk hP hS (Nat.le_of_ble_eq_true rfl) (Nat.le_of_ble_eq_true rfl) dJx4a65c_fastRemove_b59b0_43 ⟨rfl, _, k_10, f_9, fun j hj => by rw [va_up_ne _ _ (by omega), if_pos (by have := (nI_leI (by omega) (by omega)).mp c19_4; omega)], fun b e hb1 hb2 hb3 => by rw [hG_8, gk_un _ _ hb2]; rw [hG_5, gk_un _ _ hb1]; rw [hG_1, gk_un _ _ hb1]; exact hb3⟩
  · refine lv_aload_n hK.1.1 hK.1.2.1 dJx4a65c_fastRemove_b59b0_22 rfl (lv_at hl 2 rfl) ?_
    refine lv_iload_n hK.1.1 hK.1.2.1 dJx4a65c_fastRemove_b59b0_23 rfl (lv_at hl 3 rfl) ?_
    refine lv_iconst (v := 1) hK.1.1 hK.1.2.1 dJx4a65c_fastRemove_b59b0_24 (by decide) ?_
    refine lv_iadd hK.1.1 hK.1.2.1 dJx4a65c_fastRemove_b59b0_25 ?_
    rw [nI_1]
    refine lv_aload_n hK.1.1 hK.1.2.1 dJx4a65c_fastRemove_b59b0_26 rfl (lv_at hl 2 rfl) ?_
    refine lv_iload_n hK.1.1 hK.1.2.1 dJx4a65c_fastRemove_b59b0_27 rfl (lv_at hl 3 rfl) ?_
    refine lv_iload_n hK.1.1 hK.1.2.1 dJx4a65c_fastRemove_b59b0_28 rfl (lv_at hl 0 rfl) ?_
    refine lv_iload_n hK.1.1 hK.1.2.1 dJx4a65c_fastRemove_b59b0_29 rfl (lv_at hl 3 rfl) ?_
    refine lv_isub hK.1.1 hK.1.2.1 dJx4a65c_fastRemove_b59b0_30 ?_
    rw [pk_sub hk]
    have hkn : k < n := Nat.lt_of_not_le (fun h => c19_4 (nI_le h (by omega)))
    refine gk_copy hK.1 (hK.2.1.trans hl.1.symm) q_10_0 q_7_19 q_7_20 q_7_21 hK.2.2.1.1 hP hS 6 k_3 k_3 rfl (nI_pos (by omega)) (nI_pos (by omega)) (nI_pos (by omega)) (by rw [nI_clamp (by omega), nI_clamp (by omega)]; omega) (by rw [nI_clamp (by omega), nI_clamp (by omega)]; omega) (fun i hi y1 hy1 => ?_) (Nat.le_of_ble_eq_true rfl) (by first | decide | decide +kernel) dJx4a65c_fastRemove_b59b0_31 (fun H locs hP hS => ?_)
    · rw [nI_clamp (by omega)] at hy1
      rw [nI_clamp (by omega)] at hi
      obtain ⟨vs, hvs⟩ := hel (k + 1 + i) (by omega) y1 hy1
      exact ⟨3, _, vs, by rw [hG_1]; exact gk_keep hL hvs (fun h => by cases h), rfl, gl_asg hK.2.2.1⟩
    rw [nI_clamp (by omega), nI_clamp (by omega), nI_clamp (by omega)] at hP
    obtain ⟨G_11, hG_11⟩ : ∃ z, z = gk_up G_1 ed (rp_r (ly_k y 6) cap (va_cpy g g (k + 1) k (n - k))) := ⟨_, rfl⟩
    have hP : gk_P (ly_D y) A G_11 H := by rw [hG_11]; exact hP
    have f_12 : G_11 ed = some (rp_r (ly_k y 6) cap (va_cpy g g (k + 1) k (n - k))) := by rw [hG_11]; exact gk_us _ _ _
    have k_13 : G_11 la = some (.inr (0, [.int (mc + 1), .ref ed, .int (nI (n + 1))])) := by rw [hG_11]; exact gk_keep k_3 f_2 (fun h => by cases h)
    refine lv_aload_n hK.1.1 hK.1.2.1 dJx4a65c_fastRemove_b59b0_34 rfl (lv_at hl 2 rfl) ?_
    refine lv_aload_n hK.1.1 hK.1.2.1 dJx4a65c_fastRemove_b59b0_35 rfl (lv_at hl 1 rfl) ?_
    refine lv_iload_n hK.1.1 hK.1.2.1 dJx4a65c_fastRemove_b59b0_36 rfl (lv_at hl 0 rfl) ?_
    refine lv_dup_x1 hK.1.1 hK.1.2.1 dJx4a65c_fastRemove_b59b0_37 rfl rfl ?_
    refine gk_put hK.1 hK.2.2.1.1 hP hS (k := 2) k_13 rfl inlJx4a65c tyJx4a65c tyJx4a65c_ok nmJx4a65c (by decide) q_5_17 (fun _ h => h) rfl rfl rfl (Nat.le_of_ble_eq_true rfl) dJx4a65c_fastRemove_b59b0_38 (fun H locs hP hS => ?_)
    obtain ⟨G_14, hG_14⟩ : ∃ z, z = gk_up G_11 la (.inr (0, [.int (mc + 1), .ref ed, .int (nI n)])) := ⟨_, rfl⟩
    have hP : gk_P (ly_D y) A G_14 H := by rw [hG_14]; exact hP
    have f_15 : G_14 la = some (.inr (0, [.int (mc + 1), .ref ed, .int (nI n)])) := by rw [hG_14]; exact gk_us _ _ _
    have k_16 : G_14 ed = some (rp_r (ly_k y 6) cap (va_cpy g g (k + 1) k (n - k))) := by rw [hG_14]; exact gk_keep k_13 f_12 (fun h => by cases h)
    refine lv_null hK.1.1 hK.1.2.1 dJx4a65c_fastRemove_b59b0_41 ?_
    refine gk_aastN hK.1 hK.2.2.1.1 hP hS 6 (C := "java/lang/Object") k_16 rfl (vp_in_nI (show n < cap by omega) (by omega)) dJx4a65c_fastRemove_b59b0_42 (fun H locs hP hS => ?_)
    rw [nI_clamp (by omega)] at hP
    obtain ⟨G_17, hG_17⟩ : ∃ z, z = gk_up G_14 ed (rp_r (ly_k y 6) cap (va_up (va_cpy g g (k + 1) k (n - k)) n none)) := ⟨_, rfl⟩
    have hP : gk_P (ly_D y) A G_17 H := by rw [hG_17]; exact hP
    have f_18 : G_17 ed = some (rp_r (ly_k y 6) cap (va_up (va_cpy g g (k + 1) k (n - k)) n none)) := by rw [hG_17]; exact gk_us _ _ _
    have k_19 : G_17 la = some (.inr (0, [.int (mc + 1), .ref ed, .int (nI n)])) := by rw [hG_17]; exact gk_keep k_16 f_15 (fun h => by cases h)
    exact gk_vret0 hK.1 hret hlk hP hS (Nat.le_of_ble_eq_true rfl) (Nat.le_of_ble_eq_true rfl) dJx4a65c_fastRemove_b59b0_43 ⟨rfl, _, k_19, f_18, fun j hj => by rw [va_up_ne _ _ (by omega)]; split; exact pk_cpy_out (Or.inl (by omega)); (rw [pk_cpy_in (by omega) (by omega)]; congr 1; omega), fun b e hb1 hb2 hb3 => by rw [hG_17, gk_un _ _ hb2]; rw [hG_14, gk_un _ _ hb1]; rw [hG_11, gk_un _ _ hb2]; rw [hG_1, gk_un _ _ hb1]; exact hb3⟩
set_option maxHeartbeats 4000000 in
set_option maxRecDepth 100000 in
theorem c_Jx4a65c_remove_915e3 (l : Launch) {y : ly_T} {A : Nat → Prop} {G : gk_G} {mc : Int32} {la ed n k cap t : Nat} {g : Nat → Option Nat} (hL : G la = some (.inr (0, [.int mc, .ref ed, .int (nI (n + 1))]))) (hE : G ed = some (rp_r (ly_k y 6) cap g)) (hk : k ≤ n) (hnc : n + 1 ≤ cap) (hcap : cap ≤ 1500) (hel : ∀ i, i < n + 1 → ∀ t, g i = some t → gl_pt G t) (hgk : g k = some t) : gk_M0 l yJx4a65c_remove_915e3 (Cond.code yJx4a65c_remove_915e3 cJx4a65c_remove_915e3 4 (some (.object "java/lang/Object"))) 2 90 0 0 y A [.ref la, .int (nI k)] G (fun v G1 => v = some (.ref t) ∧ ∃ g2, G1 la = some (.inr (0, [.int (mc + 1), .ref ed, .int (nI n)])) ∧ G1 ed = some (rp_r (ly_k y 6) cap g2) ∧ (∀ j, j < n → g2 j = if j < k then g j else g (j + 1)) ∧ ∀ b e, b ≠ la → b ≠ ed → G b = some e → G1 b = some e) := by
  refine gk_of0 (cc := cJx4a65c_remove_915e3) (maxL := 4) (ret := (some (.object "java/lang/Object"))) (own := RJx4a65c) (by decide +kernel) rfl rfl (Nat.le_of_ble_eq_true rfl) ?_
  intro p e s m below meth c ls hK hret hlk _ hP hS hl
  have hl : lv_has ls 4 [(0, .ref la), (1, .int (nI k))] := hl
  refine lv_iload_n hK.1.1 hK.1.2.1 dJx4a65c_remove_915e3_0 rfl (lv_at hl 1 rfl) ?_
  refine lv_aload_n hK.1.1 hK.1.2.1 dJx4a65c_remove_915e3_1 rfl (lv_at hl 0 rfl) ?_
  refine gk_get hK.1 hK.2.2.1.1 hP (k := 2) hL rfl inlJx4a65c (by decide) q_5_17 (fun _ h => h) rfl dJx4a65c_remove_915e3_2 ?_
  refine gk_callS0 (n := 2) (As := [.int (nI k), .int (nI (n + 1))]) (rest := []) hK (c_J15_checkIndex_7cf53 l (nI_pos (by omega)) (nI_lt (show k < n + 1 by omega) (by omega))) (gk_gS q_8_12 q_8_13 q_8_14 q_8_15) ⟨by decide +kernel, by decide +kernel, by decide +kernel⟩ ⟨(Nat.le_of_ble_eq_true rfl), (Nat.le_of_ble_eq_true rfl)⟩ hP hS rfl hl.1 rfl (Nat.le_of_ble_eq_true rfl) dJx4a65c_remove_915e3_5 ⟨(Nat.le_of_ble_eq_true rfl), (Nat.le_of_ble_eq_true rfl)⟩ (fun v G1 H locs hw hP hS => ?_)
  obtain ⟨rfl, hG9⟩ := hw
  rw [hG9] at hP
  refine W.eq (g2 := F0 m 8 ls [.int (nI k)]) rfl ?_
  refine lv_pop hK.1.1 hK.1.2.1 dJx4a65c_remove_915e3_8 rfl ?_
  refine lv_aload_n hK.1.1 hK.1.2.1 dJx4a65c_remove_915e3_9 rfl (lv_at hl 0 rfl) ?_
  refine gk_get hK.1 hK.2.2.1.1 hP (k := 1) hL rfl inlJx4a65c (by decide) q_3_1 (fun _ h => h) rfl dJx4a65c_remove_915e3_10 ?_
  refine lv_astore_n (lv' := [(2, .ref ed), (0, .ref la), (1, .int (nI k))]) hK.1.1 hK.1.2.1 dJx4a65c_remove_915e3_13 rfl hl (by decide) rfl (fun ls hl => ?_)
  refine lv_aload_n hK.1.1 hK.1.2.1 dJx4a65c_remove_915e3_14 rfl (lv_at hl 0 rfl) ?_
  refine lv_iload_n hK.1.1 hK.1.2.1 dJx4a65c_remove_915e3_15 rfl (lv_at hl 2 rfl) ?_
  refine gk_aald hK.1 hK.2.2.1.1 hP 6 (C := "java/lang/Object") hE rfl (vp_in_nI (show k < cap by omega) (by omega)) dJx4a65c_remove_915e3_16 ?_
  rw [nI_clamp (by omega)]
  rw [hgk]
  refine W.eq (g2 := F0 m 17 ls [.ref t]) rfl ?_
  refine lv_astore_n (lv' := [(3, .ref t), (2, .ref ed), (0, .ref la), (1, .int (nI k))]) hK.1.1 hK.1.2.1 dJx4a65c_remove_915e3_17 rfl hl (by decide) rfl (fun ls hl => ?_)
  refine lv_aload_n hK.1.1 hK.1.2.1 dJx4a65c_remove_915e3_18 rfl (lv_at hl 2 rfl) ?_
  refine lv_aload_n hK.1.1 hK.1.2.1 dJx4a65c_remove_915e3_19 rfl (lv_at hl 1 rfl) ?_
  refine lv_iload_n hK.1.1 hK.1.2.1 dJx4a65c_remove_915e3_20 rfl (lv_at hl 3 rfl) ?_
  refine gk_callV0 (n := 2) (As := [.ref ed, .int (nI k)]) (rest := []) hK (c_Jx4a65c_fastRemove_b59b0 l hL hE hk hnc hcap hel) (gk_gV q_9_20 q_9_21 q_9_22 q_2_13 q_9_23) ⟨rfl, by decide +kernel, by decide +kernel, by decide +kernel⟩ ⟨(Nat.le_of_ble_eq_true rfl), (Nat.le_of_ble_eq_true rfl)⟩ hP hS (gk_recv hK.2.2.1.1 hP hL rfl) rfl hl.1 rfl (Nat.le_of_ble_eq_true rfl) dJx4a65c_remove_915e3_21 ⟨(Nat.le_of_ble_eq_true rfl), (Nat.le_of_ble_eq_true rfl)⟩ (fun v G1 H locs hw hP hS => ?_)
  obtain ⟨rfl, g2, a1, a2, a3, a4⟩ := hw
  refine W.eq (g2 := F0 m 24 ls []) rfl ?_
  refine lv_aload_n hK.1.1 hK.1.2.1 dJx4a65c_remove_915e3_24 rfl (lv_at hl 0 rfl) ?_
  exact gk_aret0 hK.1 hret (by first | exact Or.inl ⟨_, rfl⟩ | exact Or.inr ⟨_, rfl⟩) (by first | exact Or.inr ⟨_, rfl⟩ | exact Or.inl rfl | exact va_rf_or _) hlk hP hS (Nat.le_of_ble_eq_true rfl) (Nat.le_of_ble_eq_true rfl) dJx4a65c_remove_915e3_25 ⟨rfl, g2, a1, a2, a3, a4⟩
