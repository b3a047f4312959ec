/-! the constructor of the reference -/
/-- the first k rows are made, at the addresses fam; V: what they hold; G: the map ahead; fs: the fields of the object at q -/
def mN (y : ly_T) (q : Nat) (G G1 : gk_G) (fam : Nat → Nat) (k : Nat) (V : Nat → Nat → Int32) (fs : List Value) : Prop := G1 q = some (.inr (6, fs)) ∧ (∀ j, j < k → G1 (fam j) = some (rp_i (mv_c y j) (mv_n j) (V j)) ∧ G (fam j) = none ∧ fam j ≠ q) ∧ (∀ i j, i < k → j < k → fam i = fam j → i = j) ∧ ∀ b, b ≠ q → (∀ j, j < k → b ≠ fam j) → G1 b = G b
theorem mN_s {y : ly_T} {q a k : Nat} {G G1 : gk_G} {fam : Nat → Nat} {fs fs2 : List Value} (h : mN y q G G1 fam k (fun _ _ => 0) fs) (hn : G1 a = none) : mN y q G (gk_up (gk_up G1 a (rp_i (mv_c y k) (mv_n k) (fun _ => 0))) q (.inr (6, fs2))) (va_up fam k a) (k + 1) (fun _ _ => 0) fs2 := by
  obtain ⟨h1, h2, h3, h4⟩ := h
  have haq : a ≠ q := fun z => by rw [z, h1] at hn; cases hn
  have haf : ∀ j, j < k → a ≠ fam j := fun j hj z => by rw [z, (h2 j hj).1] at hn; cases hn
  refine ⟨gk_us _ _ _, fun j hj => ?_, fun i j hi hj hij => ?_, fun b hb hbf => ?_⟩
  · by_cases hjk : j = k
    · rw [hjk, va_up_self, gk_un _ _ haq, gk_us]
      exact ⟨rfl, by rw [← h4 a haq haf]; exact hn, haq⟩
    · rw [va_up_ne _ _ hjk, gk_un _ _ (h2 j (by omega)).2.2, gk_un _ _ (fun z => haf j (by omega) z.symm)]
      exact h2 j (by omega)
  · by_cases hik : i = k
    · by_cases hjk : j = k
      · rw [hik, hjk]
      · rw [hik, va_up_self, va_up_ne _ _ hjk] at hij
        exact absurd hij (haf j (by omega))
    · by_cases hjk : j = k
      · rw [hjk, va_up_self, va_up_ne _ _ hik] at hij
        exact absurd hij.symm (haf i (by omega))
      · rw [va_up_ne _ _ hik, va_up_ne _ _ hjk] at hij
        exact h3 i j (by omega) (by omega) hij
  · have hba : b ≠ a := by
      have := hbf k (Nat.lt_succ_self k)
      rw [va_up_self] at this
      exact this
    rw [gk_un _ _ hb, gk_un _ _ hba]
    refine h4 b hb (fun j hj => ?_)
    have := hbf j (by omega)
    rw [va_up_ne _ _ (by omega)] at this
    exact this
theorem mN_w {y : ly_T} {q k j i : Nat} {x : Int32} {G G1 : gk_G} {fam : Nat → Nat} {V : Nat → Nat → Int32} {fs : List Value} (h : mN y q G G1 fam k V fs) (hj : j < k) : mN y q G (gk_up G1 (fam j) (rp_i (mv_c y j) (mv_n j) (upd (V j) i x))) fam k (rp_u2 V j i x) fs := by
  obtain ⟨h1, h2, h3, h4⟩ := h
  refine ⟨by rw [gk_un _ _ (Ne.symm (h2 j hj).2.2)]; exact h1, fun m hm => ⟨?_, (h2 m hm).2⟩, h3, fun b hb hbf => ?_⟩
  · by_cases hmj : m = j
    · subst hmj
      rw [gk_us]
      have e : upd (V m) i x = rp_u2 V m i x m := by
        funext z
        simp [upd, rp_u2]
      rw [e]
    · rw [gk_un _ _ (fun z => hmj (h3 m j hm hj z))]
      have e : rp_u2 V j i x m = V m := by
        funext z
        simp [rp_u2, hmj]
      rw [e]
      exact (h2 m hm).1
  · rw [gk_un _ _ (hbf j hj)]
    exact h4 b hb hbf
set_option maxHeartbeats 4000000 in
set_option maxRecDepth 100000 in
theorem c_X5_init (l : Launch) {y : ly_T} {A : Nat → Prop} {G : gk_G} {q : Nat} (hL : G q = some (.inr (6, [.int 0, .null, .null, .null, .null, .null, .null, .null, .null, .null, .null, .null, .null, .null, .null, .int 0, .null, .null, .null, .null, .null, .null, .int 0]))) : gk_M0 l yX5_init (Cond.code yX5_init cX5_init 2 none) 1 20 20 16444 y A [.ref q] G (fun v G1 => v = none ∧ ∃ fam V, mN y q G G1 fam 20 V [.int 0, .ref (fam 0), .ref (fam 1), .ref (fam 2), .ref (fam 3), .ref (fam 4), .ref (fam 5), .ref (fam 6), .ref (fam 7), .ref (fam 8), .ref (fam 9), .ref (fam 10), .ref (fam 11), .ref (fam 12), .ref (fam 13), .int 0, .ref (fam 14), .ref (fam 15), .ref (fam 16), .ref (fam 17), .ref (fam 18), .ref (fam 19), .int 0] ∧ (∀ r, r < 3 → V 1 r = -1 ∧ V 2 r = -1 ∧ V 4 r = 3) ∧ (∀ h, h < 4 → V 18 h = -1 ∧ V 19 h = -1) ∧ ∀ i j, i ≠ 1 → i ≠ 2 → i ≠ 4 → i ≠ 18 → i ≠ 19 → V i j = 0) := by
  refine gk_of0 (cc := cX5_init) (maxL := 2) (ret := none) (own := RX5) (by decide +kernel) rfl rfl (Nat.le_of_ble_eq_true rfl) ?_
  intro p e s m below meth c ls hK hret hlk hnm hP hS hl
  have hl : lv_has ls 2 [(0, .ref q)] := hl
  refine lv_aload_n hK.1.1 hK.1.2.1 dX5_init_0 rfl (lv_at hl 0 rfl) ?_
  refine gk_obj hK q_3_23 hl.1 ⟨(Nat.le_of_ble_eq_true rfl), (Nat.le_of_ble_eq_true rfl)⟩ (Nat.le_of_ble_eq_true rfl) dX5_init_1 ?_
  have hI : mN y q G G (fun _ => 0) 0 (fun _ _ => 0) [.int 0, .null, .null, .null, .null, .null, .null, .null, .null, .null, .null, .null, .null, .null, .null, .int 0, .null, .null, .null, .null, .null, .null, .int 0] := ⟨hL, fun j hj => absurd hj (Nat.not_lt_zero j), fun i j hi => absurd hi (Nat.not_lt_zero i), fun b _ _ => rfl⟩
  obtain ⟨M0, hM0⟩ : ∃ z, z = G := ⟨_, rfl⟩
  rw [← hM0] at hP
  have hI : mN y q G M0 (fun _ => 0) 0 (fun _ _ => 0) [.int 0, .null, .null, .null, .null, .null, .null, .null, .null, .null, .null, .null, .null, .null, .null, .int 0, .null, .null, .null, .null, .null, .null, .int 0] := by rw [hM0]; exact hI
  refine lv_aload_n hK.1.1 hK.1.2.1 dX5_init_4 rfl (lv_at hl 0 rfl) ?_
  refine lv_iconst (v := 3) hK.1.1 hK.1.2.1 dX5_init_5 (by decide) ?_
  refine gk_newa hK.1 hK.2.2.1.1 hP hS hK.2.2.2 (atype := .int) q_4_0 rfl 0 (ty := .int) rfl (a0 := (3, .inl (fun _ => 0))) (fun _ => rfl) (by decide) (by decide) (by decide) (Nat.le_of_ble_eq_true rfl) (Nat.le_of_ble_eq_true rfl) dX5_init_6 (fun a0 H hn hP hS => ?_)
  refine gk_putF hK.1 hK.2.2.1.1 hP hS (k := 1) (gk_keepN hn hI.1) rfl inlX5 tyX5 tyX5_ok nmX5 (by decide) q_4_1 (fun _ h => h) rfl hnm rfl rfl rfl (Nat.le_of_ble_eq_true rfl) dX5_init_8 (fun H locs hP hS => ?_)
  obtain ⟨M1, hM1⟩ : ∃ z, z = gk_up (gk_up M0 a0 (rp_i (mv_c y 0) (mv_n 0) (fun _ => 0))) q (.inr (6, [.int 0, .ref a0, .null, .null, .null, .null, .null, .null, .null, .null, .null, .null, .null, .null, .null, .int 0, .null, .null, .null, .null, .null, .null, .int 0])) := ⟨_, rfl⟩
  have hP : gk_P (ly_D y) A M1 H := by rw [hM1]; exact hP
  have hI := mN_s (fs2 := [.int 0, .ref a0, .null, .null, .null, .null, .null, .null, .null, .null, .null, .null, .null, .null, .null, .int 0, .null, .null, .null, .null, .null, .null, .int 0]) hI hn
  rw [← hM1] at hI
  refine lv_aload_n hK.1.1 hK.1.2.1 dX5_init_11 rfl (lv_at hl 0 rfl) ?_
  refine lv_iconst (v := 3) hK.1.1 hK.1.2.1 dX5_init_12 (by decide) ?_
  refine gk_newa hK.1 hK.2.2.1.1 hP hS hK.2.2.2 (atype := .int) q_4_0 rfl 0 (ty := .int) rfl (a0 := (3, .inl (fun _ => 0))) (fun _ => rfl) (by decide) (by decide) (by decide) (Nat.le_of_ble_eq_true rfl) (Nat.le_of_ble_eq_true rfl) dX5_init_13 (fun a1 H hn hP hS => ?_)
  refine gk_putF hK.1 hK.2.2.1.1 hP hS (k := 2) (gk_keepN hn hI.1) rfl inlX5 tyX5 tyX5_ok nmX5 (by decide) q_4_2 (fun _ h => h) rfl hnm rfl rfl rfl (Nat.le_of_ble_eq_true rfl) dX5_init_15 (fun H locs hP hS => ?_)
  obtain ⟨M2, hM2⟩ : ∃ z, z = gk_up (gk_up M1 a1 (rp_i (mv_c y 1) (mv_n 1) (fun _ => 0))) q (.inr (6, [.int 0, .ref a0, .ref a1, .null, .null, .null, .null, .null, .null, .null, .null, .null, .null, .null, .null, .int 0, .null, .null, .null, .null, .null, .null, .int 0])) := ⟨_, rfl⟩
  have hP : gk_P (ly_D y) A M2 H := by rw [hM2]; exact hP
  have hI := mN_s (fs2 := [.int 0, .ref a0, .ref a1, .null, .null, .null, .null, .null, .null, .null, .null, .null, .null, .null, .null, .int 0, .null, .null, .null, .null, .null, .null, .int 0]) hI hn
  rw [← hM2] at hI
  refine lv_aload_n hK.1.1 hK.1.2.1 dX5_init_18 rfl (lv_at hl 0 rfl) ?_
  refine lv_iconst (v := 3) hK.1.1 hK.1.2.1 dX5_init_19 (by decide) ?_
  refine gk_newa hK.1 hK.2.2.1.1 hP hS hK.2.2.2 (atype := .int) q_4_0 rfl 0 (ty := .int) rfl (a0 := (3, .inl (fun _ => 0))) (fun _ => rfl) (by decide) (by decide) (by decide) (Nat.le_of_ble_eq_true rfl) (Nat.le_of_ble_eq_true rfl) dX5_init_20 (fun a2 H hn hP hS => ?_)
  refine gk_putF hK.1 hK.2.2.1.1 hP hS (k := 3) (gk_keepN hn hI.1) rfl inlX5 tyX5 tyX5_ok nmX5 (by decide) q_4_3 (fun _ h => h) rfl hnm rfl rfl rfl (Nat.le_of_ble_eq_true rfl) dX5_init_22 (fun H locs hP hS => ?_)
  obtain ⟨M3, hM3⟩ : ∃ z, z = gk_up (gk_up M2 a2 (rp_i (mv_c y 2) (mv_n 2) (fun _ => 0))) q (.inr (6, [.int 0, .ref a0, .ref a1, .ref a2, .null, .null, .null, .null, .null, .null, .null, .null, .null, .null, .null, .int 0, .null, .null, .null, .null, .null, .null, .int 0])) := ⟨_, rfl⟩
  have hP : gk_P (ly_D y) A M3 H := by rw [hM3]; exact hP
  have hI := mN_s (fs2 := [.int 0, .ref a0, .ref a1, .ref a2, .null, .null, .null, .null, .null, .null, .null, .null, .null, .null, .null, .int 0, .null, .null, .null, .null, .null, .null, .int 0]) hI hn
  rw [← hM3] at hI
  refine lv_aload_n hK.1.1 hK.1.2.1 dX5_init_25 rfl (lv_at hl 0 rfl) ?_
  refine lv_iconst (v := 3) hK.1.1 hK.1.2.1 dX5_init_26 (by decide) ?_
  refine gk_newa hK.1 hK.2.2.1.1 hP hS hK.2.2.2 (atype := .int) q_4_0 rfl 0 (ty := .int) rfl (a0 := (3, .inl (fun _ => 0))) (fun _ => rfl) (by decide) (by decide) (by decide) (Nat.le_of_ble_eq_true rfl) (Nat.le_of_ble_eq_true rfl) dX5_init_27 (fun a3 H hn hP hS => ?_)
  refine gk_putF hK.1 hK.2.2.1.1 hP hS (k := 4) (gk_keepN hn hI.1) rfl inlX5 tyX5 tyX5_ok nmX5 (by decide) q_4_4 (fun _ h => h) rfl hnm rfl rfl rfl (Nat.le_of_ble_eq_true rfl) dX5_init_29 (fun H locs hP hS => ?_)
  obtain ⟨M4, hM4⟩ : ∃ z, z = gk_up (gk_up M3 a3 (rp_i (mv_c y 3) (mv_n 3) (fun _ => 0))) q (.inr (6, [.int 0, .ref a0, .ref a1, .ref a2, .ref a3, .null, .null, .null, .null, .null, .null, .null, .null, .null, .null, .int 0, .null, .null, .null, .null, .null, .null, .int 0])) := ⟨_, rfl⟩
  have hP : gk_P (ly_D y) A M4 H := by rw [hM4]; exact hP
  have hI := mN_s (fs2 := [.int 0, .ref a0, .ref a1, .ref a2, .ref a3, .null, .null, .null, .null, .null, .null, .null, .null, .null, .null, .int 0, .null, .null, .null, .null, .null, .null, .int 0]) hI hn
  rw [← hM4] at hI
  refine lv_aload_n hK.1.1 hK.1.2.1 dX5_init_32 rfl (lv_at hl 0 rfl) ?_
  refine lv_iconst (v := 3) hK.1.1 hK.1.2.1 dX5_init_33 (by decide) ?_
  refine gk_newa hK.1 hK.2.2.1.1 hP hS hK.2.2.2 (atype := .int) q_4_0 rfl 0 (ty := .int) rfl (a0 := (3, .inl (fun _ => 0))) (fun _ => rfl) (by decide) (by decide) (by decide) (Nat.le_of_ble_eq_true rfl) (Nat.le_of_ble_eq_true rfl) dX5_init_34 (fun a4 H hn hP hS => ?_)
  refine gk_putF hK.1 hK.2.2.1.1 hP hS (k := 5) (gk_keepN hn hI.1) rfl inlX5 tyX5 tyX5_ok nmX5 (by decide) q_4_5 (fun _ h => h) rfl hnm rfl rfl rfl (Nat.le_of_ble_eq_true rfl) dX5_init_36 (fun H locs hP hS => ?_)
  obtain ⟨M5, hM5⟩ : ∃ z, z = gk_up (gk_up M4 a4 (rp_i (mv_c y 4) (mv_n 4) (fun _ => 0))) q (.inr (6, [.int 0, .ref a0, .ref a1, .ref a2, .ref a3, .ref a4, .null, .null, .null, .null, .null, .null, .null, .null, .null, .int 0, .null, .null, .null, .null, .null, .null, .int 0])) := ⟨_, rfl⟩
  have hP : gk_P (ly_D y) A M5 H := by rw [hM5]; exact hP
  have hI := mN_s (fs2 := [.int 0, .ref a0, .ref a1, .ref a2, .ref a3, .ref a4, .null, .null, .null, .null, .null, .null, .null, .null, .null, .int 0, .null, .null, .null, .null, .null, .null, .int 0]) hI hn
  rw [← hM5] at hI
  refine lv_aload_n hK.1.1 hK.1.2.1 dX5_init_39 rfl (lv_at hl 0 rfl) ?_
  refine lv_iconst (v := 3) hK.1.1 hK.1.2.1 dX5_init_40 (by decide) ?_
  refine gk_newa hK.1 hK.2.2.1.1 hP hS hK.2.2.2 (atype := .int) q_4_0 rfl 0 (ty := .int) rfl (a0 := (3, .inl (fun _ => 0))) (fun _ => rfl) (by decide) (by decide) (by decide) (Nat.le_of_ble_eq_true rfl) (Nat.le_of_ble_eq_true rfl) dX5_init_41 (fun a5 H hn hP hS => ?_)
  refine gk_putF hK.1 hK.2.2.1.1 hP hS (k := 6) (gk_keepN hn hI.1) rfl inlX5 tyX5 tyX5_ok nmX5 (by decide) q_4_6 (fun _ h => h) rfl hnm rfl rfl rfl (Nat.le_of_ble_eq_true rfl) dX5_init_43 (fun H locs hP hS => ?_)
  obtain ⟨M6, hM6⟩ : ∃ z, z = gk_up (gk_up M5 a5 (rp_i (mv_c y 5) (mv_n 5) (fun _ => 0))) q (.inr (6, [.int 0, .ref a0, .ref a1, .ref a2, .ref a3, .ref a4, .ref a5, .null, .null, .null, .null, .null, .null, .null, .null, .int 0, .null, .null, .null, .null, .null, .null, .int 0])) := ⟨_, rfl⟩
  have hP : gk_P (ly_D y) A M6 H := by rw [hM6]; exact hP
  have hI := mN_s (fs2 := [.int 0, .ref a0, .ref a1, .ref a2, .ref a3, .ref a4, .ref a5, .null, .null, .null, .null, .null, .null, .null, .null, .int 0, .null, .null, .null, .null, .null, .null, .int 0]) hI hn
  rw [← hM6] at hI
  refine lv_aload_n hK.1.1 hK.1.2.1 dX5_init_46 rfl (lv_at hl 0 rfl) ?_
  refine lv_iconst (v := 3) hK.1.1 hK.1.2.1 dX5_init_47 (by decide) ?_
  refine gk_newa hK.1 hK.2.2.1.1 hP hS hK.2.2.2 (atype := .boolean) q_4_7 rfl 1 (ty := .boolean) rfl (a0 := (3, .inl (fun _ => 0))) (fun _ => rfl) (by decide) (by decide) (by decide) (Nat.le_of_ble_eq_true rfl) (Nat.le_of_ble_eq_true rfl) dX5_init_48 (fun a6 H hn hP hS => ?_)
  refine gk_putF hK.1 hK.2.2.1.1 hP hS (k := 7) (gk_keepN hn hI.1) rfl inlX5 tyX5 tyX5_ok nmX5 (by decide) q_4_8 (fun _ h => h) rfl hnm rfl rfl rfl (Nat.le_of_ble_eq_true rfl) dX5_init_50 (fun H locs hP hS => ?_)
  obtain ⟨M7, hM7⟩ : ∃ z, z = gk_up (gk_up M6 a6 (rp_i (mv_c y 6) (mv_n 6) (fun _ => 0))) q (.inr (6, [.int 0, .ref a0, .ref a1, .ref a2, .ref a3, .ref a4, .ref a5, .ref a6, .null, .null, .null, .null, .null, .null, .null, .int 0, .null, .null, .null, .null, .null, .null, .int 0])) := ⟨_, rfl⟩
  have hP : gk_P (ly_D y) A M7 H := by rw [hM7]; exact hP
  have hI := mN_s (fs2 := [.int 0, .ref a0, .ref a1, .ref a2, .ref a3, .ref a4, .ref a5, .ref a6, .null, .null, .null, .null, .null, .null, .null, .int 0, .null, .null, .null, .null, .null, .null, .int 0]) hI hn
  rw [← hM7] at hI
  refine lv_aload_n hK.1.1 hK.1.2.1 dX5_init_53 rfl (lv_at hl 0 rfl) ?_
  refine lv_iconst (v := 3) hK.1.1 hK.1.2.1 dX5_init_54 (by decide) ?_
  refine gk_newa hK.1 hK.2.2.1.1 hP hS hK.2.2.2 (atype := .boolean) q_4_7 rfl 1 (ty := .boolean) rfl (a0 := (3, .inl (fun _ => 0))) (fun _ => rfl) (by decide) (by decide) (by decide) (Nat.le_of_ble_eq_true rfl) (Nat.le_of_ble_eq_true rfl) dX5_init_55 (fun a7 H hn hP hS => ?_)
  refine gk_putF hK.1 hK.2.2.1.1 hP hS (k := 8) (gk_keepN hn hI.1) rfl inlX5 tyX5 tyX5_ok nmX5 (by decide) q_4_9 (fun _ h => h) rfl hnm rfl rfl rfl (Nat.le_of_ble_eq_true rfl) dX5_init_57 (fun H locs hP hS => ?_)
  obtain ⟨M8, hM8⟩ : ∃ z, z = gk_up (gk_up M7 a7 (rp_i (mv_c y 7) (mv_n 7) (fun _ => 0))) q (.inr (6, [.int 0, .ref a0, .ref a1, .ref a2, .ref a3, .ref a4, .ref a5, .ref a6, .ref a7, .null, .null, .null, .null, .null, .null, .int 0, .null, .null, .null, .null, .null, .null, .int 0])) := ⟨_, rfl⟩
  have hP : gk_P (ly_D y) A M8 H := by rw [hM8]; exact hP
  have hI := mN_s (fs2 := [.int 0, .ref a0, .ref a1, .ref a2, .ref a3, .ref a4, .ref a5, .ref a6, .ref a7, .null, .null, .null, .null, .null, .null, .int 0, .null, .null, .null, .null, .null, .null, .int 0]) hI hn
  rw [← hM8] at hI
  refine lv_aload_n hK.1.1 hK.1.2.1 dX5_init_60 rfl (lv_at hl 0 rfl) ?_
  refine lv_iconst (v := 3) hK.1.1 hK.1.2.1 dX5_init_61 (by decide) ?_
  refine gk_newa hK.1 hK.2.2.1.1 hP hS hK.2.2.2 (atype := .boolean) q_4_7 rfl 1 (ty := .boolean) rfl (a0 := (3, .inl (fun _ => 0))) (fun _ => rfl) (by decide) (by decide) (by decide) (Nat.le_of_ble_eq_true rfl) (Nat.le_of_ble_eq_true rfl) dX5_init_62 (fun a8 H hn hP hS => ?_)
  refine gk_putF hK.1 hK.2.2.1.1 hP hS (k := 9) (gk_keepN hn hI.1) rfl inlX5 tyX5 tyX5_ok nmX5 (by decide) q_4_10 (fun _ h => h) rfl hnm rfl rfl rfl (Nat.le_of_ble_eq_true rfl) dX5_init_64 (fun H locs hP hS => ?_)
  obtain ⟨M9, hM9⟩ : ∃ z, z = gk_up (gk_up M8 a8 (rp_i (mv_c y 8) (mv_n 8) (fun _ => 0))) q (.inr (6, [.int 0, .ref a0, .ref a1, .ref a2, .ref a3, .ref a4, .ref a5, .ref a6, .ref a7, .ref a8, .null, .null, .null, .null, .null, .int 0, .null, .null, .null, .null, .null, .null, .int 0])) := ⟨_, rfl⟩
  have hP : gk_P (ly_D y) A M9 H := by rw [hM9]; exact hP
  have hI := mN_s (fs2 := [.int 0, .ref a0, .ref a1, .ref a2, .ref a3, .ref a4, .ref a5, .ref a6, .ref a7, .ref a8, .null, .null, .null, .null, .null, .int 0, .null, .null, .null, .null, .null, .null, .int 0]) hI hn
  rw [← hM9] at hI
  refine lv_aload_n hK.1.1 hK.1.2.1 dX5_init_67 rfl (lv_at hl 0 rfl) ?_
  refine lv_iconst (v := 5) hK.1.1 hK.1.2.1 dX5_init_68 (by decide) ?_
  refine gk_newa hK.1 hK.2.2.1.1 hP hS hK.2.2.2 (atype := .int) q_4_0 rfl 0 (ty := .int) rfl (a0 := (5, .inl (fun _ => 0))) (fun _ => rfl) (by decide) (by decide) (by decide) (Nat.le_of_ble_eq_true rfl) (Nat.le_of_ble_eq_true rfl) dX5_init_69 (fun a9 H hn hP hS => ?_)
  refine gk_putF hK.1 hK.2.2.1.1 hP hS (k := 10) (gk_keepN hn hI.1) rfl inlX5 tyX5 tyX5_ok nmX5 (by decide) q_4_11 (fun _ h => h) rfl hnm rfl rfl rfl (Nat.le_of_ble_eq_true rfl) dX5_init_71 (fun H locs hP hS => ?_)
  obtain ⟨M10, hM10⟩ : ∃ z, z = gk_up (gk_up M9 a9 (rp_i (mv_c y 9) (mv_n 9) (fun _ => 0))) q (.inr (6, [.int 0, .ref a0, .ref a1, .ref a2, .ref a3, .ref a4, .ref a5, .ref a6, .ref a7, .ref a8, .ref a9, .null, .null, .null, .null, .int 0, .null, .null, .null, .null, .null, .null, .int 0])) := ⟨_, rfl⟩
  have hP : gk_P (ly_D y) A M10 H := by rw [hM10]; exact hP
  have hI := mN_s (fs2 := [.int 0, .ref a0, .ref a1, .ref a2, .ref a3, .ref a4, .ref a5, .ref a6, .ref a7, .ref a8, .ref a9, .null, .null, .null, .null, .int 0, .null, .null, .null, .null, .null, .null, .int 0]) hI hn
  rw [← hM10] at hI
  refine lv_aload_n hK.1.1 hK.1.2.1 dX5_init_74 rfl (lv_at hl 0 rfl) ?_
  refine lv_iconst (v := 5) hK.1.1 hK.1.2.1 dX5_init_75 (by decide) ?_
  refine gk_newa hK.1 hK.2.2.1.1 hP hS hK.2.2.2 (atype := .int) q_4_0 rfl 0 (ty := .int) rfl (a0 := (5, .inl (fun _ => 0))) (fun _ => rfl) (by decide) (by decide) (by decide) (Nat.le_of_ble_eq_true rfl) (Nat.le_of_ble_eq_true rfl) dX5_init_76 (fun a10 H hn hP hS => ?_)
  refine gk_putF hK.1 hK.2.2.1.1 hP hS (k := 11) (gk_keepN hn hI.1) rfl inlX5 tyX5 tyX5_ok nmX5 (by decide) q_4_12 (fun _ h => h) rfl hnm rfl rfl rfl (Nat.le_of_ble_eq_true rfl) dX5_init_78 (fun H locs hP hS => ?_)
  obtain ⟨M11, hM11⟩ : ∃ z, z = gk_up (gk_up M10 a10 (rp_i (mv_c y 10) (mv_n 10) (fun _ => 0))) q (.inr (6, [.int 0, .ref a0, .ref a1, .ref a2, .ref a3, .ref a4, .ref a5, .ref a6, .ref a7, .ref a8, .ref a9, .ref a10, .null, .null, .null, .int 0, .null, .null, .null, .null, .null, .null, .int 0])) := ⟨_, rfl⟩
  have hP : gk_P (ly_D y) A M11 H := by rw [hM11]; exact hP
  have hI := mN_s (fs2 := [.int 0, .ref a0, .ref a1, .ref a2, .ref a3, .ref a4, .ref a5, .ref a6, .ref a7, .ref a8, .ref a9, .ref a10, .null, .null, .null, .int 0, .null, .null, .null, .null, .null, .null, .int 0]) hI hn
  rw [← hM11] at hI
  refine lv_aload_n hK.1.1 hK.1.2.1 dX5_init_81 rfl (lv_at hl 0 rfl) ?_
  refine lv_iconst (v := 5) hK.1.1 hK.1.2.1 dX5_init_82 (by decide) ?_
  refine gk_newa hK.1 hK.2.2.1.1 hP hS hK.2.2.2 (atype := .int) q_4_0 rfl 0 (ty := .int) rfl (a0 := (5, .inl (fun _ => 0))) (fun _ => rfl) (by decide) (by decide) (by decide) (Nat.le_of_ble_eq_true rfl) (Nat.le_of_ble_eq_true rfl) dX5_init_83 (fun a11 H hn hP hS => ?_)
  refine gk_putF hK.1 hK.2.2.1.1 hP hS (k := 12) (gk_keepN hn hI.1) rfl inlX5 tyX5 tyX5_ok nmX5 (by decide) q_4_13 (fun _ h => h) rfl hnm rfl rfl rfl (Nat.le_of_ble_eq_true rfl) dX5_init_85 (fun H locs hP hS => ?_)
  obtain ⟨M12, hM12⟩ : ∃ z, z = gk_up (gk_up M11 a11 (rp_i (mv_c y 11) (mv_n 11) (fun _ => 0))) q (.inr (6, [.int 0, .ref a0, .ref a1, .ref a2, .ref a3, .ref a4, .ref a5, .ref a6, .ref a7, .ref a8, .ref a9, .ref a10, .ref a11, .null, .null, .int 0, .null, .null, .null, .null, .null, .null, .int 0])) := ⟨_, rfl⟩
  have hP : gk_P (ly_D y) A M12 H := by rw [hM12]; exact hP
  have hI := mN_s (fs2 := [.int 0, .ref a0, .ref a1, .ref a2, .ref a3, .ref a4, .ref a5, .ref a6, .ref a7, .ref a8, .ref a9, .ref a10, .ref a11, .null, .null, .int 0, .null, .null, .null, .null, .null, .null, .int 0]) hI hn
  rw [← hM12] at hI
  refine lv_aload_n hK.1.1 hK.1.2.1 dX5_init_88 rfl (lv_at hl 0 rfl) ?_
  refine lv_iconst (v := 5) hK.1.1 hK.1.2.1 dX5_init_89 (by decide) ?_
  refine gk_newa hK.1 hK.2.2.1.1 hP hS hK.2.2.2 (atype := .boolean) q_4_7 rfl 1 (ty := .boolean) rfl (a0 := (5, .inl (fun _ => 0))) (fun _ => rfl) (by decide) (by decide) (by decide) (Nat.le_of_ble_eq_true rfl) (Nat.le_of_ble_eq_true rfl) dX5_init_90 (fun a12 H hn hP hS => ?_)
  refine gk_putF hK.1 hK.2.2.1.1 hP hS (k := 13) (gk_keepN hn hI.1) rfl inlX5 tyX5 tyX5_ok nmX5 (by decide) q_4_14 (fun _ h => h) rfl hnm rfl rfl rfl (Nat.le_of_ble_eq_true rfl) dX5_init_92 (fun H locs hP hS => ?_)
  obtain ⟨M13, hM13⟩ : ∃ z, z = gk_up (gk_up M12 a12 (rp_i (mv_c y 12) (mv_n 12) (fun _ => 0))) q (.inr (6, [.int 0, .ref a0, .ref a1, .ref a2, .ref a3, .ref a4, .ref a5, .ref a6, .ref a7, .ref a8, .ref a9, .ref a10, .ref a11, .ref a12, .null, .int 0, .null, .null, .null, .null, .null, .null, .int 0])) := ⟨_, rfl⟩
  have hP : gk_P (ly_D y) A M13 H := by rw [hM13]; exact hP
  have hI := mN_s (fs2 := [.int 0, .ref a0, .ref a1, .ref a2, .ref a3, .ref a4, .ref a5, .ref a6, .ref a7, .ref a8, .ref a9, .ref a10, .ref a11, .ref a12, .null, .int 0, .null, .null, .null, .null, .null, .null, .int 0]) hI hn
  rw [← hM13] at hI
  refine lv_aload_n hK.1.1 hK.1.2.1 dX5_init_95 rfl (lv_at hl 0 rfl) ?_
  refine lv_iconst (v := 5) hK.1.1 hK.1.2.1 dX5_init_96 (by decide) ?_
  refine gk_newa hK.1 hK.2.2.1.1 hP hS hK.2.2.2 (atype := .int) q_4_0 rfl 0 (ty := .int) rfl (a0 := (5, .inl (fun _ => 0))) (fun _ => rfl) (by decide) (by decide) (by decide) (Nat.le_of_ble_eq_true rfl) (Nat.le_of_ble_eq_true rfl) dX5_init_97 (fun a13 H hn hP hS => ?_)
  refine gk_putF hK.1 hK.2.2.1.1 hP hS (k := 14) (gk_keepN hn hI.1) rfl inlX5 tyX5 tyX5_ok nmX5 (by decide) q_4_15 (fun _ h => h) rfl hnm rfl rfl rfl (Nat.le_of_ble_eq_true rfl) dX5_init_99 (fun H locs hP hS => ?_)
  obtain ⟨M14, hM14⟩ : ∃ z, z = gk_up (gk_up M13 a13 (rp_i (mv_c y 13) (mv_n 13) (fun _ => 0))) q (.inr (6, [.int 0, .ref a0, .ref a1, .ref a2, .ref a3, .ref a4, .ref a5, .ref a6, .ref a7, .ref a8, .ref a9, .ref a10, .ref a11, .ref a12, .ref a13, .int 0, .null, .null, .null, .null, .null, .null, .int 0])) := ⟨_, rfl⟩
  have hP : gk_P (ly_D y) A M14 H := by rw [hM14]; exact hP
  have hI := mN_s (fs2 := [.int 0, .ref a0, .ref a1, .ref a2, .ref a3, .ref a4, .ref a5, .ref a6, .ref a7, .ref a8, .ref a9, .ref a10, .ref a11, .ref a12, .ref a13, .int 0, .null, .null, .null, .null, .null, .null, .int 0]) hI hn
  rw [← hM14] at hI
  refine lv_aload_n hK.1.1 hK.1.2.1 dX5_init_102 rfl (lv_at hl 0 rfl) ?_
  refine lv_sipush (v := 4096) hK.1.1 hK.1.2.1 dX5_init_103 (by decide) ?_
  refine gk_newa hK.1 hK.2.2.1.1 hP hS hK.2.2.2 (atype := .int) q_4_0 rfl 0 (ty := .int) rfl (a0 := (4096, .inl (fun _ => 0))) (fun _ => rfl) (by decide) (by decide) (by decide) (Nat.le_of_ble_eq_true rfl) (Nat.le_of_ble_eq_true rfl) dX5_init_106 (fun a14 H hn hP hS => ?_)
  refine gk_putF hK.1 hK.2.2.1.1 hP hS (k := 16) (gk_keepN hn hI.1) rfl inlX5 tyX5 tyX5_ok nmX5 (by decide) q_4_16 (fun _ h => h) rfl hnm rfl rfl rfl (Nat.le_of_ble_eq_true rfl) dX5_init_108 (fun H locs hP hS => ?_)
  obtain ⟨M15, hM15⟩ : ∃ z, z = gk_up (gk_up M14 a14 (rp_i (mv_c y 14) (mv_n 14) (fun _ => 0))) q (.inr (6, [.int 0, .ref a0, .ref a1, .ref a2, .ref a3, .ref a4, .ref a5, .ref a6, .ref a7, .ref a8, .ref a9, .ref a10, .ref a11, .ref a12, .ref a13, .int 0, .ref a14, .null, .null, .null, .null, .null, .int 0])) := ⟨_, rfl⟩
  have hP : gk_P (ly_D y) A M15 H := by rw [hM15]; exact hP
  have hI := mN_s (fs2 := [.int 0, .ref a0, .ref a1, .ref a2, .ref a3, .ref a4, .ref a5, .ref a6, .ref a7, .ref a8, .ref a9, .ref a10, .ref a11, .ref a12, .ref a13, .int 0, .ref a14, .null, .null, .null, .null, .null, .int 0]) hI hn
  rw [← hM15] at hI
  refine lv_aload_n hK.1.1 hK.1.2.1 dX5_init_111 rfl (lv_at hl 0 rfl) ?_
  refine lv_sipush (v := 4096) hK.1.1 hK.1.2.1 dX5_init_112 (by decide) ?_
  refine gk_newa hK.1 hK.2.2.1.1 hP hS hK.2.2.2 (atype := .int) q_4_0 rfl 0 (ty := .int) rfl (a0 := (4096, .inl (fun _ => 0))) (fun _ => rfl) (by decide) (by decide) (by decide) (Nat.le_of_ble_eq_true rfl) (Nat.le_of_ble_eq_true rfl) dX5_init_115 (fun a15 H hn hP hS => ?_)
  refine gk_putF hK.1 hK.2.2.1.1 hP hS (k := 17) (gk_keepN hn hI.1) rfl inlX5 tyX5 tyX5_ok nmX5 (by decide) q_4_17 (fun _ h => h) rfl hnm rfl rfl rfl (Nat.le_of_ble_eq_true rfl) dX5_init_117 (fun H locs hP hS => ?_)
  obtain ⟨M16, hM16⟩ : ∃ z, z = gk_up (gk_up M15 a15 (rp_i (mv_c y 15) (mv_n 15) (fun _ => 0))) q (.inr (6, [.int 0, .ref a0, .ref a1, .ref a2, .ref a3, .ref a4, .ref a5, .ref a6, .ref a7, .ref a8, .ref a9, .ref a10, .ref a11, .ref a12, .ref a13, .int 0, .ref a14, .ref a15, .null, .null, .null, .null, .int 0])) := ⟨_, rfl⟩
  have hP : gk_P (ly_D y) A M16 H := by rw [hM16]; exact hP
  have hI := mN_s (fs2 := [.int 0, .ref a0, .ref a1, .ref a2, .ref a3, .ref a4, .ref a5, .ref a6, .ref a7, .ref a8, .ref a9, .ref a10, .ref a11, .ref a12, .ref a13, .int 0, .ref a14, .ref a15, .null, .null, .null, .null, .int 0]) hI hn
  rw [← hM16] at hI
  refine lv_aload_n hK.1.1 hK.1.2.1 dX5_init_120 rfl (lv_at hl 0 rfl) ?_
  refine lv_sipush (v := 4096) hK.1.1 hK.1.2.1 dX5_init_121 (by decide) ?_
  refine gk_newa hK.1 hK.2.2.1.1 hP hS hK.2.2.2 (atype := .int) q_4_0 rfl 0 (ty := .int) rfl (a0 := (4096, .inl (fun _ => 0))) (fun _ => rfl) (by decide) (by decide) (by decide) (Nat.le_of_ble_eq_true rfl) (Nat.le_of_ble_eq_true rfl) dX5_init_124 (fun a16 H hn hP hS => ?_)
  refine gk_putF hK.1 hK.2.2.1.1 hP hS (k := 18) (gk_keepN hn hI.1) rfl inlX5 tyX5 tyX5_ok nmX5 (by decide) q_4_18 (fun _ h => h) rfl hnm rfl rfl rfl (Nat.le_of_ble_eq_true rfl) dX5_init_126 (fun H locs hP hS => ?_)
  obtain ⟨M17, hM17⟩ : ∃ z, z = gk_up (gk_up M16 a16 (rp_i (mv_c y 16) (mv_n 16) (fun _ => 0))) q (.inr (6, [.int 0, .ref a0, .ref a1, .ref a2, .ref a3, .ref a4, .ref a5, .ref a6, .ref a7, .ref a8, .ref a9, .ref a10, .ref a11, .ref a12, .ref a13, .int 0, .ref a14, .ref a15, .ref a16, .null, .null, .null, .int 0])) := ⟨_, rfl⟩
  have hP : gk_P (ly_D y) A M17 H := by rw [hM17]; exact hP
  have hI := mN_s (fs2 := [.int 0, .ref a0, .ref a1, .ref a2, .ref a3, .ref a4, .ref a5, .ref a6, .ref a7, .ref a8, .ref a9, .ref a10, .ref a11, .ref a12, .ref a13, .int 0, .ref a14, .ref a15, .ref a16, .null, .null, .null, .int 0]) hI hn
  rw [← hM17] at hI
  refine lv_aload_n hK.1.1 hK.1.2.1 dX5_init_129 rfl (lv_at hl 0 rfl) ?_
  refine lv_sipush (v := 4096) hK.1.1 hK.1.2.1 dX5_init_130 (by decide) ?_
  refine gk_newa hK.1 hK.2.2.1.1 hP hS hK.2.2.2 (atype := .boolean) q_4_7 rfl 1 (ty := .boolean) rfl (a0 := (4096, .inl (fun _ => 0))) (fun _ => rfl) (by decide) (by decide) (by decide) (Nat.le_of_ble_eq_true rfl) (Nat.le_of_ble_eq_true rfl) dX5_init_133 (fun a17 H hn hP hS => ?_)
  refine gk_putF hK.1 hK.2.2.1.1 hP hS (k := 19) (gk_keepN hn hI.1) rfl inlX5 tyX5 tyX5_ok nmX5 (by decide) q_4_19 (fun _ h => h) rfl hnm rfl rfl rfl (Nat.le_of_ble_eq_true rfl) dX5_init_135 (fun H locs hP hS => ?_)
  obtain ⟨M18, hM18⟩ : ∃ z, z = gk_up (gk_up M17 a17 (rp_i (mv_c y 17) (mv_n 17) (fun _ => 0))) q (.inr (6, [.int 0, .ref a0, .ref a1, .ref a2, .ref a3, .ref a4, .ref a5, .ref a6, .ref a7, .ref a8, .ref a9, .ref a10, .ref a11, .ref a12, .ref a13, .int 0, .ref a14, .ref a15, .ref a16, .ref a17, .null, .null, .int 0])) := ⟨_, rfl⟩
  have hP : gk_P (ly_D y) A M18 H := by rw [hM18]; exact hP
  have hI := mN_s (fs2 := [.int 0, .ref a0, .ref a1, .ref a2, .ref a3, .ref a4, .ref a5, .ref a6, .ref a7, .ref a8, .ref a9, .ref a10, .ref a11, .ref a12, .ref a13, .int 0, .ref a14, .ref a15, .ref a16, .ref a17, .null, .null, .int 0]) hI hn
  rw [← hM18] at hI
  refine lv_aload_n hK.1.1 hK.1.2.1 dX5_init_138 rfl (lv_at hl 0 rfl) ?_
  refine lv_iconst (v := 4) hK.1.1 hK.1.2.1 dX5_init_139 (by decide) ?_
  refine gk_newa hK.1 hK.2.2.1.1 hP hS hK.2.2.2 (atype := .int) q_4_0 rfl 0 (ty := .int) rfl (a0 := (4, .inl (fun _ => 0))) (fun _ => rfl) (by decide) (by decide) (by decide) (Nat.le_of_ble_eq_true rfl) (Nat.le_of_ble_eq_true rfl) dX5_init_140 (fun a18 H hn hP hS => ?_)
  refine gk_putF hK.1 hK.2.2.1.1 hP hS (k := 20) (gk_keepN hn hI.1) rfl inlX5 tyX5 tyX5_ok nmX5 (by decide) q_4_20 (fun _ h => h) rfl hnm rfl rfl rfl (Nat.le_of_ble_eq_true rfl) dX5_init_142 (fun H locs hP hS => ?_)
  obtain ⟨M19, hM19⟩ : ∃ z, z = gk_up (gk_up M18 a18 (rp_i (mv_c y 18) (mv_n 18) (fun _ => 0))) q (.inr (6, [.int 0, .ref a0, .ref a1, .ref a2, .ref a3, .ref a4, .ref a5, .ref a6, .ref a7, .ref a8, .ref a9, .ref a10, .ref a11, .ref a12, .ref a13, .int 0, .ref a14, .ref a15, .ref a16, .ref a17, .ref a18, .null, .int 0])) := ⟨_, rfl⟩
  have hP : gk_P (ly_D y) A M19 H := by rw [hM19]; exact hP
  have hI := mN_s (fs2 := [.int 0, .ref a0, .ref a1, .ref a2, .ref a3, .ref a4, .ref a5, .ref a6, .ref a7, .ref a8, .ref a9, .ref a10, .ref a11, .ref a12, .ref a13, .int 0, .ref a14, .ref a15, .ref a16, .ref a17, .ref a18, .null, .int 0]) hI hn
  rw [← hM19] at hI
  refine lv_aload_n hK.1.1 hK.1.2.1 dX5_init_145 rfl (lv_at hl 0 rfl) ?_
  refine lv_iconst (v := 4) hK.1.1 hK.1.2.1 dX5_init_146 (by decide) ?_
  refine gk_newa hK.1 hK.2.2.1.1 hP hS hK.2.2.2 (atype := .int) q_4_0 rfl 0 (ty := .int) rfl (a0 := (4, .inl (fun _ => 0))) (fun _ => rfl) (by decide) (by decide) (by decide) (Nat.le_of_ble_eq_true rfl) (Nat.le_of_ble_eq_true rfl) dX5_init_147 (fun a19 H hn hP hS => ?_)
  refine gk_putF hK.1 hK.2.2.1.1 hP hS (k := 21) (gk_keepN hn hI.1) rfl inlX5 tyX5 tyX5_ok nmX5 (by decide) q_4_21 (fun _ h => h) rfl hnm rfl rfl rfl (Nat.le_of_ble_eq_true rfl) dX5_init_149 (fun H locs hP hS => ?_)
  obtain ⟨M20, hM20⟩ : ∃ z, z = gk_up (gk_up M19 a19 (rp_i (mv_c y 19) (mv_n 19) (fun _ => 0))) q (.inr (6, [.int 0, .ref a0, .ref a1, .ref a2, .ref a3, .ref a4, .ref a5, .ref a6, .ref a7, .ref a8, .ref a9, .ref a10, .ref a11, .ref a12, .ref a13, .int 0, .ref a14, .ref a15, .ref a16, .ref a17, .ref a18, .ref a19, .int 0])) := ⟨_, rfl⟩
  have hP : gk_P (ly_D y) A M20 H := by rw [hM20]; exact hP
  have hI := mN_s (fs2 := [.int 0, .ref a0, .ref a1, .ref a2, .ref a3, .ref a4, .ref a5, .ref a6, .ref a7, .ref a8, .ref a9, .ref a10, .ref a11, .ref a12, .ref a13, .int 0, .ref a14, .ref a15, .ref a16, .ref a17, .ref a18, .ref a19, .int 0]) hI hn
  rw [← hM20] at hI
  obtain ⟨V, hV⟩ : ∃ z : Nat → Nat → Int32, z = fun _ _ => 0 := ⟨_, rfl⟩
  rw [← hV] at hI
  refine lv_iconst (v := 0) hK.1.1 hK.1.2.1 dX5_init_152 (by decide) ?_
  refine lv_istore_n (lv' := [(1, .int (nI 0)), (0, .ref q)]) hK.1.1 hK.1.2.1 dX5_init_153 rfl hl (by decide) rfl (fun ls hl => ?_)
  refine lv_iload_n hK.1.1 hK.1.2.1 dX5_init_154 rfl (lv_at hl 0 rfl) ?_
  refine lv_iconst (v := 3) hK.1.1 hK.1.2.1 dX5_init_155 (by decide) ?_
  refine lv_icmp_ge (tgt := 186) hK.1.1 hK.1.2.1 dX5_init_156 (by decide) (fun c => absurd c (by decide)) (fun _ => ?_)
  refine lv_aload_n hK.1.1 hK.1.2.1 dX5_init_159 rfl (lv_at hl 1 rfl) ?_
  refine gk_get hK.1 hK.2.2.1.1 hP (k := 2) hI.1 rfl inlX5 (by decide) q_4_2 (fun _ h => h) rfl dX5_init_160 ?_
  refine lv_iload_n hK.1.1 hK.1.2.1 dX5_init_163 rfl (lv_at hl 0 rfl) ?_
  refine lv_iconst (v := (-1)) hK.1.1 hK.1.2.1 dX5_init_164 (by decide) ?_
  refine gk_iast hK.1 hK.2.2.1.1 hP hS 0 (a := a1) (hI.2.1 1 (by decide)).1 rfl (i := nI 0) (vp_in_nI (by decide) (by decide)) dX5_init_165 (fun H locs hP hS => ?_)
  rw [nI_clamp (by decide)] at hP
  have hI := mN_w (j := 1) (i := 0) (x := (-1)) hI (by decide)
  obtain ⟨M21, hM21⟩ : ∃ z, z = gk_up M20 a1 (rp_i (mv_c y 1) (mv_n 1) (upd (V 1) 0 (-1))) := ⟨_, rfl⟩
  have hP : gk_P (ly_D y) A M21 H := by rw [hM21]; exact hP
  have hI : mN y q G M21 (va_up (va_up (va_up (va_up (va_up (va_up (va_up (va_up (va_up (va_up (va_up (va_up (va_up (va_up (va_up (va_up (va_up (va_up (va_up (va_up (fun _ => 0) 0 a0) 1 a1) 2 a2) 3 a3) 4 a4) 5 a5) 6 a6) 7 a7) 8 a8) 9 a9) 10 a10) 11 a11) 12 a12) 13 a13) 14 a14) 15 a15) 16 a16) 17 a17) 18 a18) 19 a19) 20 (rp_u2 V 1 0 (-1)) [.int 0, .ref a0, .ref a1, .ref a2, .ref a3, .ref a4, .ref a5, .ref a6, .ref a7, .ref a8, .ref a9, .ref a10, .ref a11, .ref a12, .ref a13, .int 0, .ref a14, .ref a15, .ref a16, .ref a17, .ref a18, .ref a19, .int 0] := by rw [hM21]; exact hI
  refine lv_aload_n hK.1.1 hK.1.2.1 dX5_init_166 rfl (lv_at hl 1 rfl) ?_
  refine gk_get hK.1 hK.2.2.1.1 hP (k := 3) hI.1 rfl inlX5 (by decide) q_4_3 (fun _ h => h) rfl dX5_init_167 ?_
  refine lv_iload_n hK.1.1 hK.1.2.1 dX5_init_170 rfl (lv_at hl 0 rfl) ?_
  refine lv_iconst (v := (-1)) hK.1.1 hK.1.2.1 dX5_init_171 (by decide) ?_
  refine gk_iast hK.1 hK.2.2.1.1 hP hS 0 (a := a2) (hI.2.1 2 (by decide)).1 rfl (i := nI 0) (vp_in_nI (by decide) (by decide)) dX5_init_172 (fun H locs hP hS => ?_)
  rw [nI_clamp (by decide)] at hP
  have hI := mN_w (j := 2) (i := 0) (x := (-1)) hI (by decide)
  obtain ⟨M22, hM22⟩ : ∃ z, z = gk_up M21 a2 (rp_i (mv_c y 2) (mv_n 2) (upd ((rp_u2 V 1 0 (-1)) 2) 0 (-1))) := ⟨_, rfl⟩
  have hP : gk_P (ly_D y) A M22 H := by rw [hM22]; exact hP
  have hI : mN y q G M22 (va_up (va_up (va_up (va_up (va_up (va_up (va_up (va_up (va_up (va_up (va_up (va_up (va_up (va_up (va_up (va_up (va_up (va_up (va_up (va_up (fun _ => 0) 0 a0) 1 a1) 2 a2) 3 a3) 4 a4) 5 a5) 6 a6) 7 a7) 8 a8) 9 a9) 10 a10) 11 a11) 12 a12) 13 a13) 14 a14) 15 a15) 16 a16) 17 a17) 18 a18) 19 a19) 20 (rp_u2 (rp_u2 V 1 0 (-1)) 2 0 (-1)) [.int 0, .ref a0, .ref a1, .ref a2, .ref a3, .ref a4, .ref a5, .ref a6, .ref a7, .ref a8, .ref a9, .ref a10, .ref a11, .ref a12, .ref a13, .int 0, .ref a14, .ref a15, .ref a16, .ref a17, .ref a18, .ref a19, .int 0] := by rw [hM22]; exact hI
  refine lv_aload_n hK.1.1 hK.1.2.1 dX5_init_173 rfl (lv_at hl 1 rfl) ?_
  refine gk_get hK.1 hK.2.2.1.1 hP (k := 5) hI.1 rfl inlX5 (by decide) q_4_5 (fun _ h => h) rfl dX5_init_174 ?_
  refine lv_iload_n hK.1.1 hK.1.2.1 dX5_init_177 rfl (lv_at hl 0 rfl) ?_
  refine lv_iconst (v := 3) hK.1.1 hK.1.2.1 dX5_init_178 (by decide) ?_
  refine gk_iast hK.1 hK.2.2.1.1 hP hS 0 (a := a4) (hI.2.1 4 (by decide)).1 rfl (i := nI 0) (vp_in_nI (by decide) (by decide)) dX5_init_179 (fun H locs hP hS => ?_)
  rw [nI_clamp (by decide)] at hP
  have hI := mN_w (j := 4) (i := 0) (x := 3) hI (by decide)
  obtain ⟨M23, hM23⟩ : ∃ z, z = gk_up M22 a4 (rp_i (mv_c y 4) (mv_n 4) (upd ((rp_u2 (rp_u2 V 1 0 (-1)) 2 0 (-1)) 4) 0 3)) := ⟨_, rfl⟩
  have hP : gk_P (ly_D y) A M23 H := by rw [hM23]; exact hP
  have hI : mN y q G M23 (va_up (va_up (va_up (va_up (va_up (va_up (va_up (va_up (va_up (va_up (va_up (va_up (va_up (va_up (va_up (va_up (va_up (va_up (va_up (va_up (fun _ => 0) 0 a0) 1 a1) 2 a2) 3 a3) 4 a4) 5 a5) 6 a6) 7 a7) 8 a8) 9 a9) 10 a10) 11 a11) 12 a12) 13 a13) 14 a14) 15 a15) 16 a16) 17 a17) 18 a18) 19 a19) 20 (rp_u2 (rp_u2 (rp_u2 V 1 0 (-1)) 2 0 (-1)) 4 0 3) [.int 0, .ref a0, .ref a1, .ref a2, .ref a3, .ref a4, .ref a5, .ref a6, .ref a7, .ref a8, .ref a9, .ref a10, .ref a11, .ref a12, .ref a13, .int 0, .ref a14, .ref a15, .ref a16, .ref a17, .ref a18, .ref a19, .int 0] := by rw [hM23]; exact hI
  refine lv_iinc (v := nI 1) (lv' := [(1, .int (nI 1)), (0, .ref q)]) hK.1.1 hK.1.2.1 dX5_init_180 hl (k := 0) rfl (by decide) (by decide) rfl (fun ls hl => ?_)
  refine lv_goto (tgt := 154) hK.1.1 hK.1.2.1 dX5_init_183 (by decide) ?_
  refine lv_iload_n hK.1.1 hK.1.2.1 dX5_init_154 rfl (lv_at hl 0 rfl) ?_
  refine lv_iconst (v := 3) hK.1.1 hK.1.2.1 dX5_init_155 (by decide) ?_
  refine lv_icmp_ge (tgt := 186) hK.1.1 hK.1.2.1 dX5_init_156 (by decide) (fun c => absurd c (by decide)) (fun _ => ?_)
  refine lv_aload_n hK.1.1 hK.1.2.1 dX5_init_159 rfl (lv_at hl 1 rfl) ?_
  refine gk_get hK.1 hK.2.2.1.1 hP (k := 2) hI.1 rfl inlX5 (by decide) q_4_2 (fun _ h => h) rfl dX5_init_160 ?_
  refine lv_iload_n hK.1.1 hK.1.2.1 dX5_init_163 rfl (lv_at hl 0 rfl) ?_
  refine lv_iconst (v := (-1)) hK.1.1 hK.1.2.1 dX5_init_164 (by decide) ?_
  refine gk_iast hK.1 hK.2.2.1.1 hP hS 0 (a := a1) (hI.2.1 1 (by decide)).1 rfl (i := nI 1) (vp_in_nI (by decide) (by decide)) dX5_init_165 (fun H locs hP hS => ?_)
  rw [nI_clamp (by decide)] at hP
  have hI := mN_w (j := 1) (i := 1) (x := (-1)) hI (by decide)
  obtain ⟨M24, hM24⟩ : ∃ z, z = gk_up M23 a1 (rp_i (mv_c y 1) (mv_n 1) (upd ((rp_u2 (rp_u2 (rp_u2 V 1 0 (-1)) 2 0 (-1)) 4 0 3) 1) 1 (-1))) := ⟨_, rfl⟩
  have hP : gk_P (ly_D y) A M24 H := by rw [hM24]; exact hP
  have hI : mN y q G M24 (va_up (va_up (va_up (va_up (va_up (va_up (va_up (va_up (va_up (va_up (va_up (va_up (va_up (va_up (va_up (va_up (va_up (va_up (va_up (va_up (fun _ => 0) 0 a0) 1 a1) 2 a2) 3 a3) 4 a4) 5 a5) 6 a6) 7 a7) 8 a8) 9 a9) 10 a10) 11 a11) 12 a12) 13 a13) 14 a14) 15 a15) 16 a16) 17 a17) 18 a18) 19 a19) 20 (rp_u2 (rp_u2 (rp_u2 (rp_u2 V 1 0 (-1)) 2 0 (-1)) 4 0 3) 1 1 (-1)) [.int 0, .ref a0, .ref a1, .ref a2, .ref a3, .ref a4, .ref a5, .ref a6, .ref a7, .ref a8, .ref a9, .ref a10, .ref a11, .ref a12, .ref a13, .int 0, .ref a14, .ref a15, .ref a16, .ref a17, .ref a18, .ref a19, .int 0] := by rw [hM24]; exact hI
  refine lv_aload_n hK.1.1 hK.1.2.1 dX5_init_166 rfl (lv_at hl 1 rfl) ?_
  refine gk_get hK.1 hK.2.2.1.1 hP (k := 3) hI.1 rfl inlX5 (by decide) q_4_3 (fun _ h => h) rfl dX5_init_167 ?_
  refine lv_iload_n hK.1.1 hK.1.2.1 dX5_init_170 rfl (lv_at hl 0 rfl) ?_
  refine lv_iconst (v := (-1)) hK.1.1 hK.1.2.1 dX5_init_171 (by decide) ?_
  refine gk_iast hK.1 hK.2.2.1.1 hP hS 0 (a := a2) (hI.2.1 2 (by decide)).1 rfl (i := nI 1) (vp_in_nI (by decide) (by decide)) dX5_init_172 (fun H locs hP hS => ?_)
  rw [nI_clamp (by decide)] at hP
  have hI := mN_w (j := 2) (i := 1) (x := (-1)) hI (by decide)
  obtain ⟨M25, hM25⟩ : ∃ z, z = gk_up M24 a2 (rp_i (mv_c y 2) (mv_n 2) (upd ((rp_u2 (rp_u2 (rp_u2 (rp_u2 V 1 0 (-1)) 2 0 (-1)) 4 0 3) 1 1 (-1)) 2) 1 (-1))) := ⟨_, rfl⟩
  have hP : gk_P (ly_D y) A M25 H := by rw [hM25]; exact hP
  have hI : mN y q G M25 (va_up (va_up (va_up (va_up (va_up (va_up (va_up (va_up (va_up (va_up (va_up (va_up (va_up (va_up (va_up (va_up (va_up (va_up (va_up (va_up (fun _ => 0) 0 a0) 1 a1) 2 a2) 3 a3) 4 a4) 5 a5) 6 a6) 7 a7) 8 a8) 9 a9) 10 a10) 11 a11) 12 a12) 13 a13) 14 a14) 15 a15) 16 a16) 17 a17) 18 a18) 19 a19) 20 (rp_u2 (rp_u2 (rp_u2 (rp_u2 (rp_u2 V 1 0 (-1)) 2 0 (-1)) 4 0 3) 1 1 (-1)) 2 1 (-1)) [.int 0, .ref a0, .ref a1, .ref a2, .ref a3, .ref a4, .ref a5, .ref a6, .ref a7, .ref a8, .ref a9, .ref a10, .ref a11, .ref a12, .ref a13, .int 0, .ref a14, .ref a15, .ref a16, .ref a17, .ref a18, .ref a19, .int 0] := by rw [hM25]; exact hI
  refine lv_aload_n hK.1.1 hK.1.2.1 dX5_init_173 rfl (lv_at hl 1 rfl) ?_
  refine gk_get hK.1 hK.2.2.1.1 hP (k := 5) hI.1 rfl inlX5 (by decide) q_4_5 (fun _ h => h) rfl dX5_init_174 ?_
  refine lv_iload_n hK.1.1 hK.1.2.1 dX5_init_177 rfl (lv_at hl 0 rfl) ?_
  refine lv_iconst (v := 3) hK.1.1 hK.1.2.1 dX5_init_178 (by decide) ?_
  refine gk_iast hK.1 hK.2.2.1.1 hP hS 0 (a := a4) (hI.2.1 4 (by decide)).1 rfl (i := nI 1) (vp_in_nI (by decide) (by decide)) dX5_init_179 (fun H locs hP hS => ?_)
  rw [nI_clamp (by decide)] at hP
  have hI := mN_w (j := 4) (i := 1) (x := 3) hI (by decide)
  obtain ⟨M26, hM26⟩ : ∃ z, z = gk_up M25 a4 (rp_i (mv_c y 4) (mv_n 4) (upd ((rp_u2 (rp_u2 (rp_u2 (rp_u2 (rp_u2 V 1 0 (-1)) 2 0 (-1)) 4 0 3) 1 1 (-1)) 2 1 (-1)) 4) 1 3)) := ⟨_, rfl⟩
  have hP : gk_P (ly_D y) A M26 H := by rw [hM26]; exact hP
  have hI : mN y q G M26 (va_up (va_up (va_up (va_up (va_up (va_up (va_up (va_up (va_up (va_up (va_up (va_up (va_up (va_up (va_up (va_up (va_up (va_up (va_up (va_up (fun _ => 0) 0 a0) 1 a1) 2 a2) 3 a3) 4 a4) 5 a5) 6 a6) 7 a7) 8 a8) 9 a9) 10 a10) 11 a11) 12 a12) 13 a13) 14 a14) 15 a15) 16 a16) 17 a17) 18 a18) 19 a19) 20 (rp_u2 (rp_u2 (rp_u2 (rp_u2 (rp_u2 (rp_u2 V 1 0 (-1)) 2 0 (-1)) 4 0 3) 1 1 (-1)) 2 1 (-1)) 4 1 3) [.int 0, .ref a0, .ref a1, .ref a2, .ref a3, .ref a4, .ref a5, .ref a6, .ref a7, .ref a8, .ref a9, .ref a10, .ref a11, .ref a12, .ref a13, .int 0, .ref a14, .ref a15, .ref a16, .ref a17, .ref a18, .ref a19, .int 0] := by rw [hM26]; exact hI
  refine lv_iinc (v := nI 2) (lv' := [(1, .int (nI 2)), (0, .ref q)]) hK.1.1 hK.1.2.1 dX5_init_180 hl (k := 0) rfl (by decide) (by decide) rfl (fun ls hl => ?_)
  refine lv_goto (tgt := 154) hK.1.1 hK.1.2.1 dX5_init_183 (by decide) ?_
  refine lv_iload_n hK.1.1 hK.1.2.1 dX5_init_154 rfl (lv_at hl 0 rfl) ?_
  refine lv_iconst (v := 3) hK.1.1 hK.1.2.1 dX5_init_155 (by decide) ?_
  refine lv_icmp_ge (tgt := 186) hK.1.1 hK.1.2.1 dX5_init_156 (by decide) (fun c => absurd c (by decide)) (fun _ => ?_)
  refine lv_aload_n hK.1.1 hK.1.2.1 dX5_init_159 rfl (lv_at hl 1 rfl) ?_
  refine gk_get hK.1 hK.2.2.1.1 hP (k := 2) hI.1 rfl inlX5 (by decide) q_4_2 (fun _ h => h) rfl dX5_init_160 ?_
  refine lv_iload_n hK.1.1 hK.1.2.1 dX5_init_163 rfl (lv_at hl 0 rfl) ?_
  refine lv_iconst (v := (-1)) hK.1.1 hK.1.2.1 dX5_init_164 (by decide) ?_
  refine gk_iast hK.1 hK.2.2.1.1 hP hS 0 (a := a1) (hI.2.1 1 (by decide)).1 rfl (i := nI 2) (vp_in_nI (by decide) (by decide)) dX5_init_165 (fun H locs hP hS => ?_)
  rw [nI_clamp (by decide)] at hP
  have hI := mN_w (j := 1) (i := 2) (x := (-1)) hI (by decide)
  obtain ⟨M27, hM27⟩ : ∃ z, z = gk_up M26 a1 (rp_i (mv_c y 1) (mv_n 1) (upd ((rp_u2 (rp_u2 (rp_u2 (rp_u2 (rp_u2 (rp_u2 V 1 0 (-1)) 2 0 (-1)) 4 0 3) 1 1 (-1)) 2 1 (-1)) 4 1 3) 1) 2 (-1))) := ⟨_, rfl⟩
  have hP : gk_P (ly_D y) A M27 H := by rw [hM27]; exact hP
  have hI : mN y q G M27 (va_up (va_up (va_up (va_up (va_up (va_up (va_up (va_up (va_up (va_up (va_up (va_up (va_up (va_up (va_up (va_up (va_up (va_up (va_up (va_up (fun _ => 0) 0 a0) 1 a1) 2 a2) 3 a3) 4 a4) 5 a5) 6 a6) 7 a7) 8 a8) 9 a9) 10 a10) 11 a11) 12 a12) 13 a13) 14 a14) 15 a15) 16 a16) 17 a17) 18 a18) 19 a19) 20 (rp_u2 (rp_u2 (rp_u2 (rp_u2 (rp_u2 (rp_u2 (rp_u2 V 1 0 (-1)) 2 0 (-1)) 4 0 3) 1 1 (-1)) 2 1 (-1)) 4 1 3) 1 2 (-1)) [.int 0, .ref a0, .ref a1, .ref a2, .ref a3, .ref a4, .ref a5, .ref a6, .ref a7, .ref a8, .ref a9, .ref a10, .ref a11, .ref a12, .ref a13, .int 0, .ref a14, .ref a15, .ref a16, .ref a17, .ref a18, .ref a19, .int 0] := by rw [hM27]; exact hI
  refine lv_aload_n hK.1.1 hK.1.2.1 dX5_init_166 rfl (lv_at hl 1 rfl) ?_
  refine gk_get hK.1 hK.2.2.1.1 hP (k := 3) hI.1 rfl inlX5 (by decide) q_4_3 (fun _ h => h) rfl dX5_init_167 ?_
  refine lv_iload_n hK.1.1 hK.1.2.1 dX5_init_170 rfl (lv_at hl 0 rfl) ?_
  refine lv_iconst (v := (-1)) hK.1.1 hK.1.2.1 dX5_init_171 (by decide) ?_
  refine gk_iast hK.1 hK.2.2.1.1 hP hS 0 (a := a2) (hI.2.1 2 (by decide)).1 rfl (i := nI 2) (vp_in_nI (by decide) (by decide)) dX5_init_172 (fun H locs hP hS => ?_)
  rw [nI_clamp (by decide)] at hP
  have hI := mN_w (j := 2) (i := 2) (x := (-1)) hI (by decide)
  obtain ⟨M28, hM28⟩ : ∃ z, z = gk_up M27 a2 (rp_i (mv_c y 2) (mv_n 2) (upd ((rp_u2 (rp_u2 (rp_u2 (rp_u2 (rp_u2 (rp_u2 (rp_u2 V 1 0 (-1)) 2 0 (-1)) 4 0 3) 1 1 (-1)) 2 1 (-1)) 4 1 3) 1 2 (-1)) 2) 2 (-1))) := ⟨_, rfl⟩
  have hP : gk_P (ly_D y) A M28 H := by rw [hM28]; exact hP
  have hI : mN y q G M28 (va_up (va_up (va_up (va_up (va_up (va_up (va_up (va_up (va_up (va_up (va_up (va_up (va_up (va_up (va_up (va_up (va_up (va_up (va_up (va_up (fun _ => 0) 0 a0) 1 a1) 2 a2) 3 a3) 4 a4) 5 a5) 6 a6) 7 a7) 8 a8) 9 a9) 10 a10) 11 a11) 12 a12) 13 a13) 14 a14) 15 a15) 16 a16) 17 a17) 18 a18) 19 a19) 20 (rp_u2 (rp_u2 (rp_u2 (rp_u2 (rp_u2 (rp_u2 (rp_u2 (rp_u2 V 1 0 (-1)) 2 0 (-1)) 4 0 3) 1 1 (-1)) 2 1 (-1)) 4 1 3) 1 2 (-1)) 2 2 (-1)) [.int 0, .ref a0, .ref a1, .ref a2, .ref a3, .ref a4, .ref a5, .ref a6, .ref a7, .ref a8, .ref a9, .ref a10, .ref a11, .ref a12, .ref a13, .int 0, .ref a14, .ref a15, .ref a16, .ref a17, .ref a18, .ref a19, .int 0] := by rw [hM28]; exact hI
  refine lv_aload_n hK.1.1 hK.1.2.1 dX5_init_173 rfl (lv_at hl 1 rfl) ?_
  refine gk_get hK.1 hK.2.2.1.1 hP (k := 5) hI.1 rfl inlX5 (by decide) q_4_5 (fun _ h => h) rfl dX5_init_174 ?_
  refine lv_iload_n hK.1.1 hK.1.2.1 dX5_init_177 rfl (lv_at hl 0 rfl) ?_
  refine lv_iconst (v := 3) hK.1.1 hK.1.2.1 dX5_init_178 (by decide) ?_
  refine gk_iast hK.1 hK.2.2.1.1 hP hS 0 (a := a4) (hI.2.1 4 (by decide)).1 rfl (i := nI 2) (vp_in_nI (by decide) (by decide)) dX5_init_179 (fun H locs hP hS => ?_)
  rw [nI_clamp (by decide)] at hP
  have hI := mN_w (j := 4) (i := 2) (x := 3) hI (by decide)
  obtain ⟨M29, hM29⟩ : ∃ z, z = gk_up M28 a4 (rp_i (mv_c y 4) (mv_n 4) (upd ((rp_u2 (rp_u2 (rp_u2 (rp_u2 (rp_u2 (rp_u2 (rp_u2 (rp_u2 V 1 0 (-1)) 2 0 (-1)) 4 0 3) 1 1 (-1)) 2 1 (-1)) 4 1 3) 1 2 (-1)) 2 2 (-1)) 4) 2 3)) := ⟨_, rfl⟩
  have hP : gk_P (ly_D y) A M29 H := by rw [hM29]; exact hP
  have hI : mN y q G M29 (va_up (va_up (va_up (va_up (va_up (va_up (va_up (va_up (va_up (va_up (va_up (va_up (va_up (va_up (va_up (va_up (va_up (va_up (va_up (va_up (fun _ => 0) 0 a0) 1 a1) 2 a2) 3 a3) 4 a4) 5 a5) 6 a6) 7 a7) 8 a8) 9 a9) 10 a10) 11 a11) 12 a12) 13 a13) 14 a14) 15 a15) 16 a16) 17 a17) 18 a18) 19 a19) 20 (rp_u2 (rp_u2 (rp_u2 (rp_u2 (rp_u2 (rp_u2 (rp_u2 (rp_u2 (rp_u2 V 1 0 (-1)) 2 0 (-1)) 4 0 3) 1 1 (-1)) 2 1 (-1)) 4 1 3) 1 2 (-1)) 2 2 (-1)) 4 2 3) [.int 0, .ref a0, .ref a1, .ref a2, .ref a3, .ref a4, .ref a5, .ref a6, .ref a7, .ref a8, .ref a9, .ref a10, .ref a11, .ref a12, .ref a13, .int 0, .ref a14, .ref a15, .ref a16, .ref a17, .ref a18, .ref a19, .int 0] := by rw [hM29]; exact hI
  refine lv_iinc (v := nI 3) (lv' := [(1, .int (nI 3)), (0, .ref q)]) hK.1.1 hK.1.2.1 dX5_init_180 hl (k := 0) rfl (by decide) (by decide) rfl (fun ls hl => ?_)
  refine lv_goto (tgt := 154) hK.1.1 hK.1.2.1 dX5_init_183 (by decide) ?_
  refine lv_iload_n hK.1.1 hK.1.2.1 dX5_init_154 rfl (lv_at hl 0 rfl) ?_
  refine lv_iconst (v := 3) hK.1.1 hK.1.2.1 dX5_init_155 (by decide) ?_
  refine lv_icmp_ge (tgt := 186) hK.1.1 hK.1.2.1 dX5_init_156 (by decide) (fun _ => ?_) (fun c => absurd (by decide) c)
  refine lv_iconst (v := 0) hK.1.1 hK.1.2.1 dX5_init_186 (by decide) ?_
  refine lv_istore_n (lv' := [(1, .int (nI 0)), (0, .ref q)]) hK.1.1 hK.1.2.1 dX5_init_187 rfl hl (by decide) rfl (fun ls hl => ?_)
  refine lv_iload_n hK.1.1 hK.1.2.1 dX5_init_188 rfl (lv_at hl 0 rfl) ?_
  refine lv_iconst (v := 4) hK.1.1 hK.1.2.1 dX5_init_189 (by decide) ?_
  refine lv_icmp_ge (tgt := 213) hK.1.1 hK.1.2.1 dX5_init_190 (by decide) (fun c => absurd c (by decide)) (fun _ => ?_)
  refine lv_aload_n hK.1.1 hK.1.2.1 dX5_init_193 rfl (lv_at hl 1 rfl) ?_
  refine gk_get hK.1 hK.2.2.1.1 hP (k := 20) hI.1 rfl inlX5 (by decide) q_4_20 (fun _ h => h) rfl dX5_init_194 ?_
  refine lv_iload_n hK.1.1 hK.1.2.1 dX5_init_197 rfl (lv_at hl 0 rfl) ?_
  refine lv_iconst (v := (-1)) hK.1.1 hK.1.2.1 dX5_init_198 (by decide) ?_
  refine gk_iast hK.1 hK.2.2.1.1 hP hS 0 (a := a18) (hI.2.1 18 (by decide)).1 rfl (i := nI 0) (vp_in_nI (by decide) (by decide)) dX5_init_199 (fun H locs hP hS => ?_)
  rw [nI_clamp (by decide)] at hP
  have hI := mN_w (j := 18) (i := 0) (x := (-1)) hI (by decide)
  obtain ⟨M30, hM30⟩ : ∃ z, z = gk_up M29 a18 (rp_i (mv_c y 18) (mv_n 18) (upd ((rp_u2 (rp_u2 (rp_u2 (rp_u2 (rp_u2 (rp_u2 (rp_u2 (rp_u2 (rp_u2 V 1 0 (-1)) 2 0 (-1)) 4 0 3) 1 1 (-1)) 2 1 (-1)) 4 1 3) 1 2 (-1)) 2 2 (-1)) 4 2 3) 18) 0 (-1))) := ⟨_, rfl⟩
  have hP : gk_P (ly_D y) A M30 H := by rw [hM30]; exact hP
  have hI : mN y q G M30 (va_up (va_up (va_up (va_up (va_up (va_up (va_up (va_up (va_up (va_up (va_up (va_up (va_up (va_up (va_up (va_up (va_up (va_up (va_up (va_up (fun _ => 0) 0 a0) 1 a1) 2 a2) 3 a3) 4 a4) 5 a5) 6 a6) 7 a7) 8 a8) 9 a9) 10 a10) 11 a11) 12 a12) 13 a13) 14 a14) 15 a15) 16 a16) 17 a17) 18 a18) 19 a19) 20 (rp_u2 (rp_u2 (rp_u2 (rp_u2 (rp_u2 (rp_u2 (rp_u2 (rp_u2 (rp_u2 (rp_u2 V 1 0 (-1)) 2 0 (-1)) 4 0 3) 1 1 (-1)) 2 1 (-1)) 4 1 3) 1 2 (-1)) 2 2 (-1)) 4 2 3) 18 0 (-1)) [.int 0, .ref a0, .ref a1, .ref a2, .ref a3, .ref a4, .ref a5, .ref a6, .ref a7, .ref a8, .ref a9, .ref a10, .ref a11, .ref a12, .ref a13, .int 0, .ref a14, .ref a15, .ref a16, .ref a17, .ref a18, .ref a19, .int 0] := by rw [hM30]; exact hI
  refine lv_aload_n hK.1.1 hK.1.2.1 dX5_init_200 rfl (lv_at hl 1 rfl) ?_
  refine gk_get hK.1 hK.2.2.1.1 hP (k := 21) hI.1 rfl inlX5 (by decide) q_4_21 (fun _ h => h) rfl dX5_init_201 ?_
  refine lv_iload_n hK.1.1 hK.1.2.1 dX5_init_204 rfl (lv_at hl 0 rfl) ?_
  refine lv_iconst (v := (-1)) hK.1.1 hK.1.2.1 dX5_init_205 (by decide) ?_
  refine gk_iast hK.1 hK.2.2.1.1 hP hS 0 (a := a19) (hI.2.1 19 (by decide)).1 rfl (i := nI 0) (vp_in_nI (by decide) (by decide)) dX5_init_206 (fun H locs hP hS => ?_)
  rw [nI_clamp (by decide)] at hP
  have hI := mN_w (j := 19) (i := 0) (x := (-1)) hI (by decide)
  obtain ⟨M31, hM31⟩ : ∃ z, z = gk_up M30 a19 (rp_i (mv_c y 19) (mv_n 19) (upd ((rp_u2 (rp_u2 (rp_u2 (rp_u2 (rp_u2 (rp_u2 (rp_u2 (rp_u2 (rp_u2 (rp_u2 V 1 0 (-1)) 2 0 (-1)) 4 0 3) 1 1 (-1)) 2 1 (-1)) 4 1 3) 1 2 (-1)) 2 2 (-1)) 4 2 3) 18 0 (-1)) 19) 0 (-1))) := ⟨_, rfl⟩
  have hP : gk_P (ly_D y) A M31 H := by rw [hM31]; exact hP
  have hI : mN y q G M31 (va_up (va_up (va_up (va_up (va_up (va_up (va_up (va_up (va_up (va_up (va_up (va_up (va_up (va_up (va_up (va_up (va_up (va_up (va_up (va_up (fun _ => 0) 0 a0) 1 a1) 2 a2) 3 a3) 4 a4) 5 a5) 6 a6) 7 a7) 8 a8) 9 a9) 10 a10) 11 a11) 12 a12) 13 a13) 14 a14) 15 a15) 16 a16) 17 a17) 18 a18) 19 a19) 20 (rp_u2 (rp_u2 (rp_u2 (rp_u2 (rp_u2 (rp_u2 (rp_u2 (rp_u2 (rp_u2 (rp_u2 (rp_u2 V 1 0 (-1)) 2 0 (-1)) 4 0 3) 1 1 (-1)) 2 1 (-1)) 4 1 3) 1 2 (-1)) 2 2 (-1)) 4 2 3) 18 0 (-1)) 19 0 (-1)) [.int 0, .ref a0, .ref a1, .ref a2, .ref a3, .ref a4, .ref a5, .ref a6, .ref a7, .ref a8, .ref a9, .ref a10, .ref a11, .ref a12, .ref a13, .int 0, .ref a14, .ref a15, .ref a16, .ref a17, .ref a18, .ref a19, .int 0] := by rw [hM31]; exact hI
  refine lv_iinc (v := nI 1) (lv' := [(1, .int (nI 1)), (0, .ref q)]) hK.1.1 hK.1.2.1 dX5_init_207 hl (k := 0) rfl (by decide) (by decide) rfl (fun ls hl => ?_)
  refine lv_goto (tgt := 188) hK.1.1 hK.1.2.1 dX5_init_210 (by decide) ?_
  refine lv_iload_n hK.1.1 hK.1.2.1 dX5_init_188 rfl (lv_at hl 0 rfl) ?_
  refine lv_iconst (v := 4) hK.1.1 hK.1.2.1 dX5_init_189 (by decide) ?_
  refine lv_icmp_ge (tgt := 213) hK.1.1 hK.1.2.1 dX5_init_190 (by decide) (fun c => absurd c (by decide)) (fun _ => ?_)
  refine lv_aload_n hK.1.1 hK.1.2.1 dX5_init_193 rfl (lv_at hl 1 rfl) ?_
  refine gk_get hK.1 hK.2.2.1.1 hP (k := 20) hI.1 rfl inlX5 (by decide) q_4_20 (fun _ h => h) rfl dX5_init_194 ?_
  refine lv_iload_n hK.1.1 hK.1.2.1 dX5_init_197 rfl (lv_at hl 0 rfl) ?_
  refine lv_iconst (v := (-1)) hK.1.1 hK.1.2.1 dX5_init_198 (by decide) ?_
  refine gk_iast hK.1 hK.2.2.1.1 hP hS 0 (a := a18) (hI.2.1 18 (by decide)).1 rfl (i := nI 1) (vp_in_nI (by decide) (by decide)) dX5_init_199 (fun H locs hP hS => ?_)
  rw [nI_clamp (by decide)] at hP
  have hI := mN_w (j := 18) (i := 1) (x := (-1)) hI (by decide)
  obtain ⟨M32, hM32⟩ : ∃ z, z = gk_up M31 a18 (rp_i (mv_c y 18) (mv_n 18) (upd ((rp_u2 (rp_u2 (rp_u2 (rp_u2 (rp_u2 (rp_u2 (rp_u2 (rp_u2 (rp_u2 (rp_u2 (rp_u2 V 1 0 (-1)) 2 0 (-1)) 4 0 3) 1 1 (-1)) 2 1 (-1)) 4 1 3) 1 2 (-1)) 2 2 (-1)) 4 2 3) 18 0 (-1)) 19 0 (-1)) 18) 1 (-1))) := ⟨_, rfl⟩
  have hP : gk_P (ly_D y) A M32 H := by rw [hM32]; exact hP
  have hI : mN y q G M32 (va_up (va_up (va_up (va_up (va_up (va_up (va_up (va_up (va_up (va_up (va_up (va_up (va_up (va_up (va_up (va_up (va_up (va_up (va_up (va_up (fun _ => 0) 0 a0) 1 a1) 2 a2) 3 a3) 4 a4) 5 a5) 6 a6) 7 a7) 8 a8) 9 a9) 10 a10) 11 a11) 12 a12) 13 a13) 14 a14) 15 a15) 16 a16) 17 a17) 18 a18) 19 a19) 20 (rp_u2 (rp_u2 (rp_u2 (rp_u2 (rp_u2 (rp_u2 (rp_u2 (rp_u2 (rp_u2 (rp_u2 (rp_u2 (rp_u2 V 1 0 (-1)) 2 0 (-1)) 4 0 3) 1 1 (-1)) 2 1 (-1)) 4 1 3) 1 2 (-1)) 2 2 (-1)) 4 2 3) 18 0 (-1)) 19 0 (-1)) 18 1 (-1)) [.int 0, .ref a0, .ref a1, .ref a2, .ref a3, .ref a4, .ref a5, .ref a6, .ref a7, .ref a8, .ref a9, .ref a10, .ref a11, .ref a12, .ref a13, .int 0, .ref a14, .ref a15, .ref a16, .ref a17, .ref a18, .ref a19, .int 0] := by rw [hM32]; exact hI
  refine lv_aload_n hK.1.1 hK.1.2.1 dX5_init_200 rfl (lv_at hl 1 rfl) ?_
  refine gk_get hK.1 hK.2.2.1.1 hP (k := 21) hI.1 rfl inlX5 (by decide) q_4_21 (fun _ h => h) rfl dX5_init_201 ?_
  refine lv_iload_n hK.1.1 hK.1.2.1 dX5_init_204 rfl (lv_at hl 0 rfl) ?_
  refine lv_iconst (v := (-1)) hK.1.1 hK.1.2.1 dX5_init_205 (by decide) ?_
  refine gk_iast hK.1 hK.2.2.1.1 hP hS 0 (a := a19) (hI.2.1 19 (by decide)).1 rfl (i := nI 1) (vp_in_nI (by decide) (by decide)) dX5_init_206 (fun H locs hP hS => ?_)
  rw [nI_clamp (by decide)] at hP
  have hI := mN_w (j := 19) (i := 1) (x := (-1)) hI (by decide)
  obtain ⟨M33, hM33⟩ : ∃ z, z = gk_up M32 a19 (rp_i (mv_c y 19) (mv_n 19) (upd ((rp_u2 (rp_u2 (rp_u2 (rp_u2 (rp_u2 (rp_u2 (rp_u2 (rp_u2 (rp_u2 (rp_u2 (rp_u2 (rp_u2 V 1 0 (-1)) 2 0 (-1)) 4 0 3) 1 1 (-1)) 2 1 (-1)) 4 1 3) 1 2 (-1)) 2 2 (-1)) 4 2 3) 18 0 (-1)) 19 0 (-1)) 18 1 (-1)) 19) 1 (-1))) := ⟨_, rfl⟩
  have hP : gk_P (ly_D y) A M33 H := by rw [hM33]; exact hP
  have hI : mN y q G M33 (va_up (va_up (va_up (va_up (va_up (va_up (va_up (va_up (va_up (va_up (va_up (va_up (va_up (va_up (va_up (va_up (va_up (va_up (va_up (va_up (fun _ => 0) 0 a0) 1 a1) 2 a2) 3 a3) 4 a4) 5 a5) 6 a6) 7 a7) 8 a8) 9 a9) 10 a10) 11 a11) 12 a12) 13 a13) 14 a14) 15 a15) 16 a16) 17 a17) 18 a18) 19 a19) 20 (rp_u2 (rp_u2 (rp_u2 (rp_u2 (rp_u2 (rp_u2 (rp_u2 (rp_u2 (rp_u2 (rp_u2 (rp_u2 (rp_u2 (rp_u2 V 1 0 (-1)) 2 0 (-1)) 4 0 3) 1 1 (-1)) 2 1 (-1)) 4 1 3) 1 2 (-1)) 2 2 (-1)) 4 2 3) 18 0 (-1)) 19 0 (-1)) 18 1 (-1)) 19 1 (-1)) [.int 0, .ref a0, .ref a1, .ref a2, .ref a3, .ref a4, .ref a5, .ref a6, .ref a7, .ref a8, .ref a9, .ref a10, .ref a11, .ref a12, .ref a13, .int 0, .ref a14, .ref a15, .ref a16, .ref a17, .ref a18, .ref a19, .int 0] := by rw [hM33]; exact hI
  refine lv_iinc (v := nI 2) (lv' := [(1, .int (nI 2)), (0, .ref q)]) hK.1.1 hK.1.2.1 dX5_init_207 hl (k := 0) rfl (by decide) (by decide) rfl (fun ls hl => ?_)
  refine lv_goto (tgt := 188) hK.1.1 hK.1.2.1 dX5_init_210 (by decide) ?_
  refine lv_iload_n hK.1.1 hK.1.2.1 dX5_init_188 rfl (lv_at hl 0 rfl) ?_
  refine lv_iconst (v := 4) hK.1.1 hK.1.2.1 dX5_init_189 (by decide) ?_
  refine lv_icmp_ge (tgt := 213) hK.1.1 hK.1.2.1 dX5_init_190 (by decide) (fun c => absurd c (by decide)) (fun _ => ?_)
  refine lv_aload_n hK.1.1 hK.1.2.1 dX5_init_193 rfl (lv_at hl 1 rfl) ?_
  refine gk_get hK.1 hK.2.2.1.1 hP (k := 20) hI.1 rfl inlX5 (by decide) q_4_20 (fun _ h => h) rfl dX5_init_194 ?_
  refine lv_iload_n hK.1.1 hK.1.2.1 dX5_init_197 rfl (lv_at hl 0 rfl) ?_
  refine lv_iconst (v := (-1)) hK.1.1 hK.1.2.1 dX5_init_198 (by decide) ?_
  refine gk_iast hK.1 hK.2.2.1.1 hP hS 0 (a := a18) (hI.2.1 18 (by decide)).1 rfl (i := nI 2) (vp_in_nI (by decide) (by decide)) dX5_init_199 (fun H locs hP hS => ?_)
  rw [nI_clamp (by decide)] at hP
  have hI := mN_w (j := 18) (i := 2) (x := (-1)) hI (by decide)
  obtain ⟨M34, hM34⟩ : ∃ z, z = gk_up M33 a18 (rp_i (mv_c y 18) (mv_n 18) (upd ((rp_u2 (rp_u2 (rp_u2 (rp_u2 (rp_u2 (rp_u2 (rp_u2 (rp_u2 (rp_u2 (rp_u2 (rp_u2 (rp_u2 (rp_u2 V 1 0 (-1)) 2 0 (-1)) 4 0 3) 1 1 (-1)) 2 1 (-1)) 4 1 3) 1 2 (-1)) 2 2 (-1)) 4 2 3) 18 0 (-1)) 19 0 (-1)) 18 1 (-1)) 19 1 (-1)) 18) 2 (-1))) := ⟨_, rfl⟩
  have hP : gk_P (ly_D y) A M34 H := by rw [hM34]; exact hP
  have hI : mN y q G M34 (va_up (va_up (va_up (va_up (va_up (va_up (va_up (va_up (va_up (va_up (va_up (va_up (va_up (va_up (va_up (va_up (va_up (va_up (va_up (va_up (fun _ => 0) 0 a0) 1 a1) 2 a2) 3 a3) 4 a4) 5 a5) 6 a6) 7 a7) 8 a8) 9 a9) 10 a10) 11 a11) 12 a12) 13 a13) 14 a14) 15 a15) 16 a16) 17 a17) 18 a18) 19 a19) 20 (rp_u2 (rp_u2 (rp_u2 (rp_u2 (rp_u2 (rp_u2 (rp_u2 (rp_u2 (rp_u2 (rp_u2 (rp_u2 (rp_u2 (rp_u2 (rp_u2 V 1 0 (-1)) 2 0 (-1)) 4 0 3) 1 1 (-1)) 2 1 (-1)) 4 1 3) 1 2 (-1)) 2 2 (-1)) 4 2 3) 18 0 (-1)) 19 0 (-1)) 18 1 (-1)) 19 1 (-1)) 18 2 (-1)) [.int 0, .ref a0, .ref a1, .ref a2, .ref a3, .ref a4, .ref a5, .ref a6, .ref a7, .ref a8, .ref a9, .ref a10, .ref a11, .ref a12, .ref a13, .int 0, .ref a14, .ref a15, .ref a16, .ref a17, .ref a18, .ref a19, .int 0] := by rw [hM34]; exact hI
  refine lv_aload_n hK.1.1 hK.1.2.1 dX5_init_200 rfl (lv_at hl 1 rfl) ?_
  refine gk_get hK.1 hK.2.2.1.1 hP (k := 21) hI.1 rfl inlX5 (by decide) q_4_21 (fun _ h => h) rfl dX5_init_201 ?_
  refine lv_iload_n hK.1.1 hK.1.2.1 dX5_init_204 rfl (lv_at hl 0 rfl) ?_
  refine lv_iconst (v := (-1)) hK.1.1 hK.1.2.1 dX5_init_205 (by decide) ?_
  refine gk_iast hK.1 hK.2.2.1.1 hP hS 0 (a := a19) (hI.2.1 19 (by decide)).1 rfl (i := nI 2) (vp_in_nI (by decide) (by decide)) dX5_init_206 (fun H locs hP hS => ?_)
  rw [nI_clamp (by decide)] at hP
  have hI := mN_w (j := 19) (i := 2) (x := (-1)) hI (by decide)
  obtain ⟨M35, hM35⟩ : ∃ z, z = gk_up M34 a19 (rp_i (mv_c y 19) (mv_n 19) (upd ((rp_u2 (rp_u2 (rp_u2 (rp_u2 (rp_u2 (rp_u2 (rp_u2 (rp_u2 (rp_u2 (rp_u2 (rp_u2 (rp_u2 (rp_u2 (rp_u2 V 1 0 (-1)) 2 0 (-1)) 4 0 3) 1 1 (-1)) 2 1 (-1)) 4 1 3) 1 2 (-1)) 2 2 (-1)) 4 2 3) 18 0 (-1)) 19 0 (-1)) 18 1 (-1)) 19 1 (-1)) 18 2 (-1)) 19) 2 (-1))) := ⟨_, rfl⟩
  have hP : gk_P (ly_D y) A M35 H := by rw [hM35]; exact hP
  have hI : mN y q G M35 (va_up (va_up (va_up (va_up (va_up (va_up (va_up (va_up (va_up (va_up (va_up (va_up (va_up (va_up (va_up (va_up (va_up (va_up (va_up (va_up (fun _ => 0) 0 a0) 1 a1) 2 a2) 3 a3) 4 a4) 5 a5) 6 a6) 7 a7) 8 a8) 9 a9) 10 a10) 11 a11) 12 a12) 13 a13) 14 a14) 15 a15) 16 a16) 17 a17) 18 a18) 19 a19) 20 (rp_u2 (rp_u2 (rp_u2 (rp_u2 (rp_u2 (rp_u2 (rp_u2 (rp_u2 (rp_u2 (rp_u2 (rp_u2 (rp_u2 (rp_u2 (rp_u2 (rp_u2 V 1 0 (-1)) 2 0 (-1)) 4 0 3) 1 1 (-1)) 2 1 (-1)) 4 1 3) 1 2 (-1)) 2 2 (-1)) 4 2 3) 18 0 (-1)) 19 0 (-1)) 18 1 (-1)) 19 1 (-1)) 18 2 (-1)) 19 2 (-1)) [.int 0, .ref a0, .ref a1, .ref a2, .ref a3, .ref a4, .ref a5, .ref a6, .ref a7, .ref a8, .ref a9, .ref a10, .ref a11, .ref a12, .ref a13, .int 0, .ref a14, .ref a15, .ref a16, .ref a17, .ref a18, .ref a19, .int 0] := by rw [hM35]; exact hI
  refine lv_iinc (v := nI 3) (lv' := [(1, .int (nI 3)), (0, .ref q)]) hK.1.1 hK.1.2.1 dX5_init_207 hl (k := 0) rfl (by decide) (by decide) rfl (fun ls hl => ?_)
  refine lv_goto (tgt := 188) hK.1.1 hK.1.2.1 dX5_init_210 (by decide) ?_
  refine lv_iload_n hK.1.1 hK.1.2.1 dX5_init_188 rfl (lv_at hl 0 rfl) ?_
  refine lv_iconst (v := 4) hK.1.1 hK.1.2.1 dX5_init_189 (by decide) ?_
  refine lv_icmp_ge (tgt := 213) hK.1.1 hK.1.2.1 dX5_init_190 (by decide) (fun c => absurd c (by decide)) (fun _ => ?_)
  refine lv_aload_n hK.1.1 hK.1.2.1 dX5_init_193 rfl (lv_at hl 1 rfl) ?_
  refine gk_get hK.1 hK.2.2.1.1 hP (k := 20) hI.1 rfl inlX5 (by decide) q_4_20 (fun _ h => h) rfl dX5_init_194 ?_
  refine lv_iload_n hK.1.1 hK.1.2.1 dX5_init_197 rfl (lv_at hl 0 rfl) ?_
  refine lv_iconst (v := (-1)) hK.1.1 hK.1.2.1 dX5_init_198 (by decide) ?_
  refine gk_iast hK.1 hK.2.2.1.1 hP hS 0 (a := a18) (hI.2.1 18 (by decide)).1 rfl (i := nI 3) (vp_in_nI (by decide) (by decide)) dX5_init_199 (fun H locs hP hS => ?_)
  rw [nI_clamp (by decide)] at hP
  have hI := mN_w (j := 18) (i := 3) (x := (-1)) hI (by decide)
  obtain ⟨M36, hM36⟩ : ∃ z, z = gk_up M35 a18 (rp_i (mv_c y 18) (mv_n 18) (upd ((rp_u2 (rp_u2 (rp_u2 (rp_u2 (rp_u2 (rp_u2 (rp_u2 (rp_u2 (rp_u2 (rp_u2 (rp_u2 (rp_u2 (rp_u2 (rp_u2 (rp_u2 V 1 0 (-1)) 2 0 (-1)) 4 0 3) 1 1 (-1)) 2 1 (-1)) 4 1 3) 1 2 (-1)) 2 2 (-1)) 4 2 3) 18 0 (-1)) 19 0 (-1)) 18 1 (-1)) 19 1 (-1)) 18 2 (-1)) 19 2 (-1)) 18) 3 (-1))) := ⟨_, rfl⟩
  have hP : gk_P (ly_D y) A M36 H := by rw [hM36]; exact hP
  have hI : mN y q G M36 (va_up (va_up (va_up (va_up (va_up (va_up (va_up (va_up (va_up (va_up (va_up (va_up (va_up (va_up (va_up (va_up (va_up (va_up (va_up (va_up (fun _ => 0) 0 a0) 1 a1) 2 a2) 3 a3) 4 a4) 5 a5) 6 a6) 7 a7) 8 a8) 9 a9) 10 a10) 11 a11) 12 a12) 13 a13) 14 a14) 15 a15) 16 a16) 17 a17) 18 a18) 19 a19) 20 (rp_u2 (rp_u2 (rp_u2 (rp_u2 (rp_u2 (rp_u2 (rp_u2 (rp_u2 (rp_u2 (rp_u2 (rp_u2 (rp_u2 (rp_u2 (rp_u2 (rp_u2 (rp_u2 V 1 0 (-1)) 2 0 (-1)) 4 0 3) 1 1 (-1)) 2 1 (-1)) 4 1 3) 1 2 (-1)) 2 2 (-1)) 4 2 3) 18 0 (-1)) 19 0 (-1)) 18 1 (-1)) 19 1 (-1)) 18 2 (-1)) 19 2 (-1)) 18 3 (-1)) [.int 0, .ref a0, .ref a1, .ref a2, .ref a3, .ref a4, .ref a5, .ref a6, .ref a7, .ref a8, .ref a9, .ref a10, .ref a11, .ref a12, .ref a13, .int 0, .ref a14, .ref a15, .ref a16, .ref a17, .ref a18, .ref a19, .int 0] := by rw [hM36]; exact hI
  refine lv_aload_n hK.1.1 hK.1.2.1 dX5_init_200 rfl (lv_at hl 1 rfl) ?_
  refine gk_get hK.1 hK.2.2.1.1 hP (k := 21) hI.1 rfl inlX5 (by decide) q_4_21 (fun _ h => h) rfl dX5_init_201 ?_
  refine lv_iload_n hK.1.1 hK.1.2.1 dX5_init_204 rfl (lv_at hl 0 rfl) ?_
  refine lv_iconst (v := (-1)) hK.1.1 hK.1.2.1 dX5_init_205 (by decide) ?_
  refine gk_iast hK.1 hK.2.2.1.1 hP hS 0 (a := a19) (hI.2.1 19 (by decide)).1 rfl (i := nI 3) (vp_in_nI (by decide) (by decide)) dX5_init_206 (fun H locs hP hS => ?_)
  rw [nI_clamp (by decide)] at hP
  have hI := mN_w (j := 19) (i := 3) (x := (-1)) hI (by decide)
  obtain ⟨M37, hM37⟩ : ∃ z, z = gk_up M36 a19 (rp_i (mv_c y 19) (mv_n 19) (upd ((rp_u2 (rp_u2 (rp_u2 (rp_u2 (rp_u2 (rp_u2 (rp_u2 (rp_u2 (rp_u2 (rp_u2 (rp_u2 (rp_u2 (rp_u2 (rp_u2 (rp_u2 (rp_u2 V 1 0 (-1)) 2 0 (-1)) 4 0 3) 1 1 (-1)) 2 1 (-1)) 4 1 3) 1 2 (-1)) 2 2 (-1)) 4 2 3) 18 0 (-1)) 19 0 (-1)) 18 1 (-1)) 19 1 (-1)) 18 2 (-1)) 19 2 (-1)) 18 3 (-1)) 19) 3 (-1))) := ⟨_, rfl⟩
  have hP : gk_P (ly_D y) A M37 H := by rw [hM37]; exact hP
  have hI : mN y q G M37 (va_up (va_up (va_up (va_up (va_up (va_up (va_up (va_up (va_up (va_up (va_up (va_up (va_up (va_up (va_up (va_up (va_up (va_up (va_up (va_up (fun _ => 0) 0 a0) 1 a1) 2 a2) 3 a3) 4 a4) 5 a5) 6 a6) 7 a7) 8 a8) 9 a9) 10 a10) 11 a11) 12 a12) 13 a13) 14 a14) 15 a15) 16 a16) 17 a17) 18 a18) 19 a19) 20 (rp_u2 (rp_u2 (rp_u2 (rp_u2 (rp_u2 (rp_u2 (rp_u2 (rp_u2 (rp_u2 (rp_u2 (rp_u2 (rp_u2 (rp_u2 (rp_u2 (rp_u2 (rp_u2 (rp_u2 V 1 0 (-1)) 2 0 (-1)) 4 0 3) 1 1 (-1)) 2 1 (-1)) 4 1 3) 1 2 (-1)) 2 2 (-1)) 4 2 3) 18 0 (-1)) 19 0 (-1)) 18 1 (-1)) 19 1 (-1)) 18 2 (-1)) 19 2 (-1)) 18 3 (-1)) 19 3 (-1)) [.int 0, .ref a0, .ref a1, .ref a2, .ref a3, .ref a4, .ref a5, .ref a6, .ref a7, .ref a8, .ref a9, .ref a10, .ref a11, .ref a12, .ref a13, .int 0, .ref a14, .ref a15, .ref a16, .ref a17, .ref a18, .ref a19, .int 0] := by rw [hM37]; exact hI
  refine lv_iinc (v := nI 4) (lv' := [(1, .int (nI 4)), (0, .ref q)]) hK.1.1 hK.1.2.1 dX5_init_207 hl (k := 0) rfl (by decide) (by decide) rfl (fun ls hl => ?_)
  refine lv_goto (tgt := 188) hK.1.1 hK.1.2.1 dX5_init_210 (by decide) ?_
  refine lv_iload_n hK.1.1 hK.1.2.1 dX5_init_188 rfl (lv_at hl 0 rfl) ?_
  refine lv_iconst (v := 4) hK.1.1 hK.1.2.1 dX5_init_189 (by decide) ?_
  refine lv_icmp_ge (tgt := 213) hK.1.1 hK.1.2.1 dX5_init_190 (by decide) (fun _ => ?_) (fun c => absurd (by decide) c)
  refine gk_vret0 hK.1 hret hlk hP hS (Nat.le_of_ble_eq_true rfl) (Nat.le_of_ble_eq_true rfl) dX5_init_213 ⟨rfl, _, _, hI, fun r hr => ?_, fun h hh => ?_, fun i j h1 h2 h3 h4 h5 => ?_⟩
  · have : r = 0 ∨ r = 1 ∨ r = 2 := by omega
    rcases this with rfl | rfl | rfl <;> simp [rp_u2]
  · have : h = 0 ∨ h = 1 ∨ h = 2 ∨ h = 3 := by omega
    rcases this with rfl | rfl | rfl | rfl <;> simp [rp_u2]
  · simp [rp_u2, h1, h2, h3, h4, h5, hV]
