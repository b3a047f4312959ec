/-! the law's calls of the class, with what they throw told by a number -/
set_option maxHeartbeats 4000000 in
set_option maxRecDepth 100000 in
theorem c_L_setDue (l : Launch) {y : ly_T} {A : Nat → Prop} {G : gk_G} {td : Int32} {ru : Nat → Nat → Int32} {fr lv : Nat → Nat} {lt et tl : Nat → Int32} {hf hp : Nat → Option Nat} {ol : Nat → List Nat} {PS : Nat → Prop} {pf : Nat → Nat → Int32} {i size wd mo le : Int32}  (hfl : l.stackTraces = false) (hR : rp y G td ru fr lv lt et tl hf hp ol PS pf) : gk_M0 l yL_setDue (Cond.codeWith yL_setDue cL_setDue 7 (some .int) [(0, 12, 13, 16), (0, 12, 18, 19)]) 8 160 16 128 y A [.ref (ly_a y 0), .int i, .int size, .int wd, .int mo, .int le] G (fun v G1 => (∃ r, r < 3 ∧ i = nI r ∧ (rg_in size 0 10000 ∧ rg_in wd (-1) 6 ∧ rg_in mo (-1) 29 ∧ rg_in le 0 100) ∧ v = some (.int 0) ∧ rp y G1 td (rp_u2 (rp_u2 (rp_u2 (rp_u2 ru r 1 size) r 2 wd) r 3 mo) r 4 le) fr lv lt et tl hf hp ol PS pf) ∨ (rg_out i 3 ∧ v = some (.int (-1000001)) ∧ G1 = G) ∨ ((¬ rg_out i 3 ∧ ¬ (rg_in size 0 10000 ∧ rg_in wd (-1) 6 ∧ rg_in mo (-1) 29 ∧ rg_in le 0 100)) ∧ v = some (.int (-1000002)) ∧ G1 = G)) := by
  refine gk_ofW (cc := cL_setDue) (maxL := 7) (ret := (some .int)) (own := RL) (by decide +kernel) rfl rfl (Nat.le_of_ble_eq_true rfl) ?_
  intro p e s m below meth c ls hK hret hlk hex hP hS hl
  have hl : lv_has ls 7 [(0, .ref (ly_a y 0)), (1, .int i), (2, .int size), (3, .int wd), (4, .int mo), (5, .int le)] := hl
  refine lv_aload_n hK.1.1 hK.1.2.1 dL_setDue_0 rfl (lv_at hl 0 rfl) ?_
  refine lv_iload_n hK.1.1 hK.1.2.1 dL_setDue_1 rfl (lv_at hl 1 rfl) ?_
  refine lv_iload_n hK.1.1 hK.1.2.1 dL_setDue_2 rfl (lv_at hl 2 rfl) ?_
  refine lv_iload_n hK.1.1 hK.1.2.1 dL_setDue_3 rfl (lv_at hl 3 rfl) ?_
  refine lv_iload hK.1.1 hK.1.2.1 dL_setDue_4 (lv_at hl 4 rfl) ?_
  refine lv_iload hK.1.1 hK.1.2.1 dL_setDue_6 (lv_at hl 5 rfl) ?_
  refine gk_callV (n := 5) (As := [.int i, .int size, .int wd, .int mo, .int le]) (rest := []) hK (c_X4_setDue l hfl hR (i := i) (size := size) (wd := wd) (mo := mo) (le := le)) (gk_gV q_12_17 q_12_18 q_12_19 q_1_2 q_12_20) ⟨rfl, by decide +kernel, by decide +kernel, by decide +kernel⟩ ⟨(Nat.le_of_ble_eq_true rfl), (Nat.le_of_ble_eq_true rfl)⟩ hP hS (gk_recv hK.2.2.1.1 hP hR.1 rfl) rfl hl.1 rfl (Nat.le_of_ble_eq_true rfl) dL_setDue_8 ⟨(Nat.le_of_ble_eq_true rfl), (Nat.le_of_ble_eq_true rfl)⟩ (fun E ce q9 G1 H locs hx hP hS h1 h2 h3 => ?_) (fun v G1 H locs hw hP hS => ?_)
  · rcases hx with ⟨rfl, hG9, hx9⟩ | ⟨rfl, hG9, hx9⟩
    · rw [hG9] at hP
      refine vx_catch (E := "java/lang/IndexOutOfBoundsException") hK.1.2.2.1 [] ⟨0, 12, 13, 16⟩ [⟨0, 12, 18, 19⟩] hex (fun z hz => nomatch hz) (by decide) (by decide) (hK.1.2.2.2 _ q_10_14) (gk_castU hK.2.2.1.2.2.1.2.2.2.1.1) h1 h2 h3 ?_
      refine lv_astore (lv' := [(6, .ref q9), (0, .ref (ly_a y 0)), (1, .int i), (2, .int size), (3, .int wd), (4, .int mo), (5, .int le)]) hK.1.1 hK.1.2.1 dL_setDue_13 hl (by decide) rfl (fun ls hl => ?_)
      refine lv_ldc (v := (-1000001)) hK.1.1 hK.1.2.1 hK.1.2.2.1 (hK.1.2.2.2 _ q_1_4) dL_setDue_15 ?_
      exact gk_iret0 hK.1 hret hlk hP hS (Nat.le_of_ble_eq_true rfl) (Nat.le_of_ble_eq_true rfl) dL_setDue_17 (Or.inr (Or.inl (⟨hx9, rfl, rfl⟩)))
    · rw [hG9] at hP
      refine vx_catch (E := "java/lang/IllegalArgumentException") hK.1.2.2.1 [⟨0, 12, 13, 16⟩] ⟨0, 12, 18, 19⟩ [] hex (fun z hz => by rw [List.mem_singleton.mp hz]; exact Or.inr ⟨by decide, _, hK.1.2.2.2 _ q_10_14, hK.2.2.1.2.2.1.2.2.2.2.1.1⟩) (by decide) (by decide) (hK.1.2.2.2 _ q_12_16) (gk_castU hK.2.2.1.2.2.1.2.2.2.1.2.1) h1 h2 h3 ?_
      refine lv_astore (lv' := [(6, .ref q9), (0, .ref (ly_a y 0)), (1, .int i), (2, .int size), (3, .int wd), (4, .int mo), (5, .int le)]) hK.1.1 hK.1.2.1 dL_setDue_18 hl (by decide) rfl (fun ls hl => ?_)
      refine lv_ldc (v := (-1000002)) hK.1.1 hK.1.2.1 hK.1.2.2.1 (hK.1.2.2.2 _ q_12_7) dL_setDue_20 ?_
      exact gk_iret0 hK.1 hret hlk hP hS (Nat.le_of_ble_eq_true rfl) (Nat.le_of_ble_eq_true rfl) dL_setDue_22 (Or.inr (Or.inr (⟨hx9, rfl, rfl⟩)))
  obtain ⟨r, hr, rfl, rfl, hok, hR⟩ := hw
  refine W.eq (g2 := F0 m 11 ls []) rfl ?_
  refine lv_iconst (v := 0) hK.1.1 hK.1.2.1 dL_setDue_11 (by decide) ?_
  exact gk_iret0 hK.1 hret hlk hP hS (Nat.le_of_ble_eq_true rfl) (Nat.le_of_ble_eq_true rfl) dL_setDue_12 (Or.inl (⟨r, hr, rfl, hok, rfl, hR⟩))
set_option maxHeartbeats 4000000 in
set_option maxRecDepth 100000 in
theorem c_L_setOld (l : Launch) {y : ly_T} {A : Nat → Prop} {G : gk_G} {td : Int32} {ru : Nat → Nat → Int32} {fr lv : Nat → Nat} {lt et tl : Nat → Int32} {hf hp : Nat → Option Nat} {ol : Nat → List Nat} {PS : Nat → Prop} {pf : Nat → Nat → Int32} {i kp gr b1 b2 b3 : Int32}  (hfl : l.stackTraces = false) (hR : rp y G td ru fr lv lt et tl hf hp ol PS pf) (hb1 : b1 = 0 ∨ b1 = 1) (hb2 : b2 = 0 ∨ b2 = 1) (hb3 : b3 = 0 ∨ b3 = 1) : gk_M0 l yL_setOld (Cond.codeWith yL_setOld cL_setOld 8 (some .int) [(0, 14, 15, 16), (0, 14, 20, 19)]) 8 160 16 128 y A [.ref (ly_a y 0), .int i, .int kp, .int gr, .int b1, .int b2, .int b3] G (fun v G1 => (∃ r, r < 3 ∧ i = nI r ∧ (rg_in kp 0 10 ∧ rg_in gr 0 1000) ∧ v = some (.int 0) ∧ rp y G1 td (rp_u2 (rp_u2 (rp_u2 (rp_u2 (rp_u2 ru r 5 kp) r 6 gr) r 7 b1) r 8 b2) r 9 b3) fr lv lt et tl hf hp ol PS pf) ∨ (rg_out i 3 ∧ v = some (.int (-1000001)) ∧ G1 = G) ∨ ((¬ rg_out i 3 ∧ ¬ (rg_in kp 0 10 ∧ rg_in gr 0 1000)) ∧ v = some (.int (-1000002)) ∧ G1 = G)) := by
  refine gk_ofW (cc := cL_setOld) (maxL := 8) (ret := (some .int)) (own := RL) (by decide +kernel) rfl rfl (Nat.le_of_ble_eq_true rfl) ?_
  intro p e s m below meth c ls hK hret hlk hex hP hS hl
  have hl : lv_has ls 8 [(0, .ref (ly_a y 0)), (1, .int i), (2, .int kp), (3, .int gr), (4, .int b1), (5, .int b2), (6, .int b3)] := hl
  refine lv_aload_n hK.1.1 hK.1.2.1 dL_setOld_0 rfl (lv_at hl 0 rfl) ?_
  refine lv_iload_n hK.1.1 hK.1.2.1 dL_setOld_1 rfl (lv_at hl 1 rfl) ?_
  refine lv_iload_n hK.1.1 hK.1.2.1 dL_setOld_2 rfl (lv_at hl 2 rfl) ?_
  refine lv_iload_n hK.1.1 hK.1.2.1 dL_setOld_3 rfl (lv_at hl 3 rfl) ?_
  refine lv_iload hK.1.1 hK.1.2.1 dL_setOld_4 (lv_at hl 4 rfl) ?_
  refine lv_iload hK.1.1 hK.1.2.1 dL_setOld_6 (lv_at hl 5 rfl) ?_
  refine lv_iload hK.1.1 hK.1.2.1 dL_setOld_8 (lv_at hl 6 rfl) ?_
  refine gk_callV (n := 6) (As := [.int i, .int kp, .int gr, .int b1, .int b2, .int b3]) (rest := []) hK (c_X4_setOld l hfl hR (i := i) (kp := kp) (gr := gr) hb1 hb2 hb3) (gk_gV q_13_9 q_13_10 q_13_11 q_1_2 q_13_12) ⟨rfl, by decide +kernel, by decide +kernel, by decide +kernel⟩ ⟨(Nat.le_of_ble_eq_true rfl), (Nat.le_of_ble_eq_true rfl)⟩ hP hS (gk_recv hK.2.2.1.1 hP hR.1 rfl) rfl hl.1 rfl (Nat.le_of_ble_eq_true rfl) dL_setOld_10 ⟨(Nat.le_of_ble_eq_true rfl), (Nat.le_of_ble_eq_true rfl)⟩ (fun E ce q9 G1 H locs hx hP hS h1 h2 h3 => ?_) (fun v G1 H locs hw hP hS => ?_)
  · rcases hx with ⟨rfl, hG9, hx9⟩ | ⟨rfl, hG9, hx9⟩
    · rw [hG9] at hP
      refine vx_catch (E := "java/lang/IndexOutOfBoundsException") hK.1.2.2.1 [] ⟨0, 14, 15, 16⟩ [⟨0, 14, 20, 19⟩] hex (fun z hz => nomatch hz) (by decide) (by decide) (hK.1.2.2.2 _ q_10_14) (gk_castU hK.2.2.1.2.2.1.2.2.2.1.1) h1 h2 h3 ?_
      refine lv_astore (lv' := [(7, .ref q9), (0, .ref (ly_a y 0)), (1, .int i), (2, .int kp), (3, .int gr), (4, .int b1), (5, .int b2), (6, .int b3)]) hK.1.1 hK.1.2.1 dL_setOld_15 hl (by decide) rfl (fun ls hl => ?_)
      refine lv_ldc (v := (-1000001)) hK.1.1 hK.1.2.1 hK.1.2.2.1 (hK.1.2.2.2 _ q_1_4) dL_setOld_17 ?_
      exact gk_iret0 hK.1 hret hlk hP hS (Nat.le_of_ble_eq_true rfl) (Nat.le_of_ble_eq_true rfl) dL_setOld_19 (Or.inr (Or.inl (⟨hx9, rfl, rfl⟩)))
    · rw [hG9] at hP
      refine vx_catch (E := "java/lang/IllegalArgumentException") hK.1.2.2.1 [⟨0, 14, 15, 16⟩] ⟨0, 14, 20, 19⟩ [] hex (fun z hz => by rw [List.mem_singleton.mp hz]; exact Or.inr ⟨by decide, _, hK.1.2.2.2 _ q_10_14, hK.2.2.1.2.2.1.2.2.2.2.1.1⟩) (by decide) (by decide) (hK.1.2.2.2 _ q_12_16) (gk_castU hK.2.2.1.2.2.1.2.2.2.1.2.1) h1 h2 h3 ?_
      refine lv_astore (lv' := [(7, .ref q9), (0, .ref (ly_a y 0)), (1, .int i), (2, .int kp), (3, .int gr), (4, .int b1), (5, .int b2), (6, .int b3)]) hK.1.1 hK.1.2.1 dL_setOld_20 hl (by decide) rfl (fun ls hl => ?_)
      refine lv_ldc (v := (-1000002)) hK.1.1 hK.1.2.1 hK.1.2.2.1 (hK.1.2.2.2 _ q_12_7) dL_setOld_22 ?_
      exact gk_iret0 hK.1 hret hlk hP hS (Nat.le_of_ble_eq_true rfl) (Nat.le_of_ble_eq_true rfl) dL_setOld_24 (Or.inr (Or.inr (⟨hx9, rfl, rfl⟩)))
  obtain ⟨r, hr, rfl, rfl, hok, hR⟩ := hw
  refine W.eq (g2 := F0 m 13 ls []) rfl ?_
  refine lv_iconst (v := 0) hK.1.1 hK.1.2.1 dL_setOld_13 (by decide) ?_
  exact gk_iret0 hK.1 hret hlk hP hS (Nat.le_of_ble_eq_true rfl) (Nat.le_of_ble_eq_true rfl) dL_setOld_14 (Or.inl (⟨r, hr, rfl, hok, rfl, hR⟩))
set_option maxHeartbeats 4000000 in
set_option maxRecDepth 100000 in
theorem c_L_give (l : Launch) {y : ly_T} {A : Nat → Prop} {G : gk_G} {td : Int32} {ru : Nat → Nat → Int32} {fr lv : Nat → Nat} {lt et tl : Nat → Int32} {hf hp : Nat → Option Nat} {ol : Nat → List Nat} {PS : Nat → Prop} {pf : Nat → Nat → Int32} {i j : Int32}  (hfl : l.stackTraces = false) (hR : rp y G td ru fr lv lt et tl hf hp ol PS pf) : gk_M0 l yL_give (Cond.codeWith yL_give cL_give 4 (some .int) [(0, 6, 7, 16)]) 8 160 16 128 y A [.ref (ly_a y 0), .int i, .int j] G (fun v G1 => (∃ f r, f < 5 ∧ r < 3 ∧ i = nI f ∧ j = nI r ∧ v = some (.int (nI (fr f))) ∧ rp y G1 td ru (va_up fr f r) lv lt et tl hf hp ol PS pf) ∨ ((rg_out i 5 ∨ rg_out j 3) ∧ v = some (.int (-1000001)) ∧ G1 = G)) := by
  refine gk_ofW (cc := cL_give) (maxL := 4) (ret := (some .int)) (own := RL) (by decide +kernel) rfl rfl (Nat.le_of_ble_eq_true rfl) ?_
  intro p e s m below meth c ls hK hret hlk hex hP hS hl
  have hl : lv_has ls 4 [(0, .ref (ly_a y 0)), (1, .int i), (2, .int j)] := hl
  refine lv_aload_n hK.1.1 hK.1.2.1 dL_give_0 rfl (lv_at hl 0 rfl) ?_
  refine lv_iload_n hK.1.1 hK.1.2.1 dL_give_1 rfl (lv_at hl 1 rfl) ?_
  refine lv_iload_n hK.1.1 hK.1.2.1 dL_give_2 rfl (lv_at hl 2 rfl) ?_
  refine gk_callV (n := 2) (As := [.int i, .int j]) (rest := []) hK (c_X4_give l hfl hR (i := i) (j := j)) (gk_gV q_13_16 q_13_17 q_13_18 q_1_2 q_13_19) ⟨rfl, by decide +kernel, by decide +kernel, by decide +kernel⟩ ⟨(Nat.le_of_ble_eq_true rfl), (Nat.le_of_ble_eq_true rfl)⟩ hP hS (gk_recv hK.2.2.1.1 hP hR.1 rfl) rfl hl.1 rfl (Nat.le_of_ble_eq_true rfl) dL_give_3 ⟨(Nat.le_of_ble_eq_true rfl), (Nat.le_of_ble_eq_true rfl)⟩ (fun E ce q9 G1 H locs hx hP hS h1 h2 h3 => ?_) (fun v G1 H locs hw hP hS => ?_)
  · obtain ⟨rfl, hG9, hx9⟩ := hx
    rw [hG9] at hP
    refine vx_catch (E := "java/lang/IndexOutOfBoundsException") hK.1.2.2.1 [] ⟨0, 6, 7, 16⟩ [] hex (fun z hz => nomatch hz) (by decide) (by decide) (hK.1.2.2.2 _ q_10_14) (gk_castU hK.2.2.1.2.2.1.2.2.2.1.1) h1 h2 h3 ?_
    refine lv_astore_n (lv' := [(3, .ref q9), (0, .ref (ly_a y 0)), (1, .int i), (2, .int j)]) hK.1.1 hK.1.2.1 dL_give_7 rfl hl (by decide) rfl (fun ls hl => ?_)
    refine lv_ldc (v := (-1000001)) hK.1.1 hK.1.2.1 hK.1.2.2.1 (hK.1.2.2.2 _ q_1_4) dL_give_8 ?_
    exact gk_iret0 hK.1 hret hlk hP hS (Nat.le_of_ble_eq_true rfl) (Nat.le_of_ble_eq_true rfl) dL_give_10 (Or.inr (⟨hx9, rfl, rfl⟩))
  obtain ⟨f, r, hf5, hr3, rfl, rfl, rfl, hR⟩ := hw
  refine W.eq (g2 := F0 m 6 ls [.int (nI (fr f))]) rfl ?_
  exact gk_iret0 hK.1 hret hlk hP hS (Nat.le_of_ble_eq_true rfl) (Nat.le_of_ble_eq_true rfl) dL_give_6 (Or.inl (⟨f, r, hf5, hr3, rfl, rfl, rfl, hR⟩))
set_option maxHeartbeats 4000000 in
set_option maxRecDepth 100000 in
theorem c_L_open (l : Launch) {y : ly_T} {A : Nat → Prop} {G : gk_G} {td : Int32} {ru : Nat → Nat → Int32} {fr lv : Nat → Nat} {lt et tl : Nat → Int32} {hf hp : Nat → Option Nat} {ol : Nat → List Nat} {PS : Nat → Prop} {pf : Nat → Nat → Int32} {i j : Int32}  (hfl : l.stackTraces = false) (hR : rp y G td ru fr lv lt et tl hf hp ol PS pf) : gk_M0 l yL_open (Cond.codeWith yL_open cL_open 4 (some .int) [(0, 7, 8, 16)]) 8 160 16 128 y A [.ref (ly_a y 0), .int i, .int j] G (fun v G1 => (∃ h f, h < 4 ∧ f < 5 ∧ i = nI h ∧ j = nI f ∧ v = some (.int 0) ∧ rp y G1 td ru fr lv lt et tl (va_up hf h (some f)) (va_up hp h (some (lv f))) ol PS pf) ∨ ((rg_out i 4 ∨ rg_out j 5) ∧ v = some (.int (-1000001)) ∧ G1 = G)) := by
  refine gk_ofW (cc := cL_open) (maxL := 4) (ret := (some .int)) (own := RL) (by decide +kernel) rfl rfl (Nat.le_of_ble_eq_true rfl) ?_
  intro p e s m below meth c ls hK hret hlk hex hP hS hl
  have hl : lv_has ls 4 [(0, .ref (ly_a y 0)), (1, .int i), (2, .int j)] := hl
  refine lv_aload_n hK.1.1 hK.1.2.1 dL_open_0 rfl (lv_at hl 0 rfl) ?_
  refine lv_iload_n hK.1.1 hK.1.2.1 dL_open_1 rfl (lv_at hl 1 rfl) ?_
  refine lv_iload_n hK.1.1 hK.1.2.1 dL_open_2 rfl (lv_at hl 2 rfl) ?_
  refine gk_callV (n := 2) (As := [.int i, .int j]) (rest := []) hK (c_X4_open l hfl hR (i := i) (j := j)) (gk_gV q_14_0 q_14_1 q_14_2 q_1_2 q_14_3) ⟨rfl, by decide +kernel, by decide +kernel, by decide +kernel⟩ ⟨(Nat.le_of_ble_eq_true rfl), (Nat.le_of_ble_eq_true rfl)⟩ hP hS (gk_recv hK.2.2.1.1 hP hR.1 rfl) rfl hl.1 rfl (Nat.le_of_ble_eq_true rfl) dL_open_3 ⟨(Nat.le_of_ble_eq_true rfl), (Nat.le_of_ble_eq_true rfl)⟩ (fun E ce q9 G1 H locs hx hP hS h1 h2 h3 => ?_) (fun v G1 H locs hw hP hS => ?_)
  · obtain ⟨rfl, hG9, hx9⟩ := hx
    rw [hG9] at hP
    refine vx_catch (E := "java/lang/IndexOutOfBoundsException") hK.1.2.2.1 [] ⟨0, 7, 8, 16⟩ [] hex (fun z hz => nomatch hz) (by decide) (by decide) (hK.1.2.2.2 _ q_10_14) (gk_castU hK.2.2.1.2.2.1.2.2.2.1.1) h1 h2 h3 ?_
    refine lv_astore_n (lv' := [(3, .ref q9), (0, .ref (ly_a y 0)), (1, .int i), (2, .int j)]) hK.1.1 hK.1.2.1 dL_open_8 rfl hl (by decide) rfl (fun ls hl => ?_)
    refine lv_ldc (v := (-1000001)) hK.1.1 hK.1.2.1 hK.1.2.2.1 (hK.1.2.2.2 _ q_1_4) dL_open_9 ?_
    exact gk_iret0 hK.1 hret hlk hP hS (Nat.le_of_ble_eq_true rfl) (Nat.le_of_ble_eq_true rfl) dL_open_11 (Or.inr (⟨hx9, rfl, rfl⟩))
  obtain ⟨h, f, hh, hf5, rfl, rfl, rfl, hR⟩ := hw
  refine W.eq (g2 := F0 m 6 ls []) rfl ?_
  refine lv_iconst (v := 0) hK.1.1 hK.1.2.1 dL_open_6 (by decide) ?_
  exact gk_iret0 hK.1 hret hlk hP hS (Nat.le_of_ble_eq_true rfl) (Nat.le_of_ble_eq_true rfl) dL_open_7 (Or.inl (⟨h, f, hh, hf5, rfl, rfl, rfl, hR⟩))
set_option maxHeartbeats 4000000 in
set_option maxRecDepth 100000 in
theorem c_L_shut (l : Launch) {y : ly_T} {A : Nat → Prop} {G : gk_G} {td : Int32} {ru : Nat → Nat → Int32} {fr lv : Nat → Nat} {lt et tl : Nat → Int32} {hf hp : Nat → Option Nat} {ol : Nat → List Nat} {PS : Nat → Prop} {pf : Nat → Nat → Int32} {i : Int32}  (hfl : l.stackTraces = false) (hR : rp y G td ru fr lv lt et tl hf hp ol PS pf) : gk_M0 l yL_shut (Cond.codeWith yL_shut cL_shut 3 (some .int) [(0, 13, 14, 16)]) 8 160 16 128 y A [.ref (ly_a y 0), .int i] G (fun v G1 => (∃ h, h < 4 ∧ i = nI h ∧ v = some (.int (rg_b (hp h).isSome)) ∧ rp y G1 td ru fr lv lt et tl (va_up hf h none) (va_up hp h none) ol PS pf) ∨ (rg_out i 4 ∧ v = some (.int (-1000001)) ∧ G1 = G)) := by
  refine gk_ofW (cc := cL_shut) (maxL := 3) (ret := (some .int)) (own := RL) (by decide +kernel) rfl rfl (Nat.le_of_ble_eq_true rfl) ?_
  intro p e s m below meth c ls hK hret hlk hex hP hS hl
  have hl : lv_has ls 3 [(0, .ref (ly_a y 0)), (1, .int i)] := hl
  refine lv_aload_n hK.1.1 hK.1.2.1 dL_shut_0 rfl (lv_at hl 0 rfl) ?_
  refine lv_iload_n hK.1.1 hK.1.2.1 dL_shut_1 rfl (lv_at hl 1 rfl) ?_
  refine gk_callV (n := 1) (As := [.int i]) (rest := []) hK (c_X4_shut l hfl hR (i := i)) (gk_gV q_14_7 q_14_8 q_14_9 q_1_2 q_14_10) ⟨rfl, by decide +kernel, by decide +kernel, by decide +kernel⟩ ⟨(Nat.le_of_ble_eq_true rfl), (Nat.le_of_ble_eq_true rfl)⟩ hP hS (gk_recv hK.2.2.1.1 hP hR.1 rfl) rfl hl.1 rfl (Nat.le_of_ble_eq_true rfl) dL_shut_2 ⟨(Nat.le_of_ble_eq_true rfl), (Nat.le_of_ble_eq_true rfl)⟩ (fun E ce q9 G1 H locs hx hP hS h1 h2 h3 => ?_) (fun v G1 H locs hw hP hS => ?_)
  · obtain ⟨rfl, hG9, hx9⟩ := hx
    rw [hG9] at hP
    refine vx_catch (E := "java/lang/IndexOutOfBoundsException") hK.1.2.2.1 [] ⟨0, 13, 14, 16⟩ [] hex (fun z hz => nomatch hz) (by decide) (by decide) (hK.1.2.2.2 _ q_10_14) (gk_castU hK.2.2.1.2.2.1.2.2.2.1.1) h1 h2 h3 ?_
    refine lv_astore_n (lv' := [(2, .ref q9), (0, .ref (ly_a y 0)), (1, .int i)]) hK.1.1 hK.1.2.1 dL_shut_14 rfl hl (by decide) rfl (fun ls hl => ?_)
    refine lv_ldc (v := (-1000001)) hK.1.1 hK.1.2.1 hK.1.2.2.1 (hK.1.2.2.2 _ q_1_4) dL_shut_15 ?_
    exact gk_iret0 hK.1 hret hlk hP hS (Nat.le_of_ble_eq_true rfl) (Nat.le_of_ble_eq_true rfl) dL_shut_17 (Or.inr (⟨hx9, rfl, rfl⟩))
  obtain ⟨h, hh, rfl, rfl, hR⟩ := hw
  refine W.eq (g2 := F0 m 5 ls [.int (rg_b (hp h).isSome)]) rfl ?_
  refine lv_if_eq (tgt := 12) hK.1.1 hK.1.2.1 dL_shut_5 (by decide) (fun c5_1 => ?_) (fun c5_1 => ?_)
  · refine lv_iconst (v := 0) hK.1.1 hK.1.2.1 dL_shut_12 (by decide) ?_
    exact gk_iret0 hK.1 hret hlk hP hS (Nat.le_of_ble_eq_true rfl) (Nat.le_of_ble_eq_true rfl) dL_shut_13 (Or.inl (⟨h, hh, rfl, (by rw [show rg_b (hp h).isSome = 0 from c5_1]), hR⟩))
  · refine lv_iconst (v := 1) hK.1.1 hK.1.2.1 dL_shut_8 (by decide) ?_
    refine lv_goto (tgt := 13) hK.1.1 hK.1.2.1 dL_shut_9 (by decide) ?_
    exact gk_iret0 hK.1 hret hlk hP hS (Nat.le_of_ble_eq_true rfl) (Nat.le_of_ble_eq_true rfl) dL_shut_13 (Or.inl (⟨h, hh, rfl, (by rw [show rg_b (hp h).isSome = 1 from rg_bt c5_1]), hR⟩))
set_option maxHeartbeats 4000000 in
set_option maxRecDepth 100000 in
theorem c_L_tell (l : Launch) {y : ly_T} {A : Nat → Prop} {G : gk_G} {td : Int32} {ru : Nat → Nat → Int32} {fr lv : Nat → Nat} {lt et tl : Nat → Int32} {hf hp : Nat → Option Nat} {ol : Nat → List Nat} {PS : Nat → Prop} {pf : Nat → Nat → Int32} {i : Int32}  (hfl : l.stackTraces = false) (hR : rp y G td ru fr lv lt et tl hf hp ol PS pf) : gk_M0 l yL_tell (Cond.codeWith yL_tell cL_tell 3 (some .int) [(0, 13, 14, 16), (0, 13, 18, 41)]) 8 160 16 128 y A [.ref (ly_a y 0), .int i] G (fun v G1 => (∃ h f, h < 4 ∧ f < 5 ∧ i = nI h ∧ hf h = some f ∧ v = some (.int (rg_b (decide (¬ hp h = some (lv f))))) ∧ rp y G1 td ru fr lv lt et tl hf (va_up hp h (some (lv f))) ol PS pf) ∨ (rg_out i 4 ∧ v = some (.int (-1000001)) ∧ G1 = G) ∨ ((∃ h, h < 4 ∧ i = nI h ∧ hf h = none) ∧ v = some (.int (-1000003)) ∧ G1 = G)) := by
  refine gk_ofW (cc := cL_tell) (maxL := 3) (ret := (some .int)) (own := RL) (by decide +kernel) rfl rfl (Nat.le_of_ble_eq_true rfl) ?_
  intro p e s m below meth c ls hK hret hlk hex hP hS hl
  have hl : lv_has ls 3 [(0, .ref (ly_a y 0)), (1, .int i)] := hl
  refine lv_aload_n hK.1.1 hK.1.2.1 dL_tell_0 rfl (lv_at hl 0 rfl) ?_
  refine lv_iload_n hK.1.1 hK.1.2.1 dL_tell_1 rfl (lv_at hl 1 rfl) ?_
  refine gk_callV (n := 1) (As := [.int i]) (rest := []) hK (c_X4_tell l hfl hR (i := i)) (gk_gV q_15_0 q_15_1 q_15_2 q_1_2 q_15_3) ⟨rfl, by decide +kernel, by decide +kernel, by decide +kernel⟩ ⟨(Nat.le_of_ble_eq_true rfl), (Nat.le_of_ble_eq_true rfl)⟩ hP hS (gk_recv hK.2.2.1.1 hP hR.1 rfl) rfl hl.1 rfl (Nat.le_of_ble_eq_true rfl) dL_tell_2 ⟨(Nat.le_of_ble_eq_true rfl), (Nat.le_of_ble_eq_true rfl)⟩ (fun E ce q9 G1 H locs hx hP hS h1 h2 h3 => ?_) (fun v G1 H locs hw hP hS => ?_)
  · rcases hx with ⟨rfl, hG9, hx9⟩ | ⟨rfl, hG9, hx9⟩
    · rw [hG9] at hP
      refine vx_catch (E := "java/lang/IndexOutOfBoundsException") hK.1.2.2.1 [] ⟨0, 13, 14, 16⟩ [⟨0, 13, 18, 41⟩] hex (fun z hz => nomatch hz) (by decide) (by decide) (hK.1.2.2.2 _ q_10_14) (gk_castU hK.2.2.1.2.2.1.2.2.2.1.1) h1 h2 h3 ?_
      refine lv_astore_n (lv' := [(2, .ref q9), (0, .ref (ly_a y 0)), (1, .int i)]) hK.1.1 hK.1.2.1 dL_tell_14 rfl hl (by decide) rfl (fun ls hl => ?_)
      refine lv_ldc (v := (-1000001)) hK.1.1 hK.1.2.1 hK.1.2.2.1 (hK.1.2.2.2 _ q_1_4) dL_tell_15 ?_
      exact gk_iret0 hK.1 hret hlk hP hS (Nat.le_of_ble_eq_true rfl) (Nat.le_of_ble_eq_true rfl) dL_tell_17 (Or.inr (Or.inl (⟨hx9, rfl, rfl⟩)))
    · rw [hG9] at hP
      refine vx_catch (E := "java/lang/IllegalStateException") hK.1.2.2.1 [⟨0, 13, 14, 16⟩] ⟨0, 13, 18, 41⟩ [] hex (fun z hz => by rw [List.mem_singleton.mp hz]; exact Or.inr ⟨by decide, _, hK.1.2.2.2 _ q_10_14, hK.2.2.1.2.2.1.2.2.2.2.1.2.1⟩) (by decide) (by decide) (hK.1.2.2.2 _ q_14_14) (gk_castU hK.2.2.1.2.2.1.2.2.2.1.2.2.1) h1 h2 h3 ?_
      refine lv_astore_n (lv' := [(2, .ref q9), (0, .ref (ly_a y 0)), (1, .int i)]) hK.1.1 hK.1.2.1 dL_tell_18 rfl hl (by decide) rfl (fun ls hl => ?_)
      refine lv_ldc (v := (-1000003)) hK.1.1 hK.1.2.1 hK.1.2.2.1 (hK.1.2.2.2 _ q_12_8) dL_tell_19 ?_
      exact gk_iret0 hK.1 hret hlk hP hS (Nat.le_of_ble_eq_true rfl) (Nat.le_of_ble_eq_true rfl) dL_tell_21 (Or.inr (Or.inr (⟨hx9, rfl, rfl⟩)))
  obtain ⟨h, f, hh, hf5, rfl, hfh, rfl, hR⟩ := hw
  refine W.eq (g2 := F0 m 5 ls [.int (rg_b (decide (¬ hp h = some (lv f))))]) rfl ?_
  refine lv_if_eq (tgt := 12) hK.1.1 hK.1.2.1 dL_tell_5 (by decide) (fun c5_1 => ?_) (fun c5_1 => ?_)
  · refine lv_iconst (v := 0) hK.1.1 hK.1.2.1 dL_tell_12 (by decide) ?_
    exact gk_iret0 hK.1 hret hlk hP hS (Nat.le_of_ble_eq_true rfl) (Nat.le_of_ble_eq_true rfl) dL_tell_13 (Or.inl (⟨h, f, hh, hf5, rfl, hfh, (by rw [show rg_b (decide (¬ hp h = some (lv f))) = 0 from c5_1]), hR⟩))
  · refine lv_iconst (v := 1) hK.1.1 hK.1.2.1 dL_tell_8 (by decide) ?_
    refine lv_goto (tgt := 13) hK.1.1 hK.1.2.1 dL_tell_9 (by decide) ?_
    exact gk_iret0 hK.1 hret hlk hP hS (Nat.le_of_ble_eq_true rfl) (Nat.le_of_ble_eq_true rfl) dL_tell_13 (Or.inl (⟨h, f, hh, hf5, rfl, hfh, (by rw [show rg_b (decide (¬ hp h = some (lv f))) = 1 from rg_bt c5_1]), hR⟩))
set_option maxHeartbeats 4000000 in
set_option maxRecDepth 100000 in
theorem c_L_write (l : Launch) {y : ly_T} {A : Nat → Prop} {G : gk_G} {td : Int32} {ru : Nat → Nat → Int32} {fr lv : Nat → Nat} {lt et tl : Nat → Int32} {hf hp : Nat → Option Nat} {ol : Nat → List Nat} {PS : Nat → Prop} {pf : Nat → Nat → Int32} {i n : Int32}  (hfl : l.stackTraces = false) (hR : rp y G td ru fr lv lt et tl hf hp ol PS pf) (hLp : ∀ h, h < 4 → ∀ t, hp h = some t → PS t) : gk_M0 l yL_write (Cond.codeWith yL_write cL_write 4 (some .int) [(0, 6, 7, 16), (0, 6, 11, 19), (0, 6, 15, 41)]) 8 160 16 128 y A [.ref (ly_a y 0), .int i, .int n] G (fun v G1 => (∃ h t, h < 4 ∧ i = nI h ∧ hp h = some t ∧ rg_in n 1 1000 ∧ v = some (.int (pf 0 t + n)) ∧ rp y G1 td ru fr lv lt et tl hf hp ol PS (rp_u2 pf 0 t (pf 0 t + n))) ∨ (rg_out i 4 ∧ v = some (.int (-1000001)) ∧ G1 = G) ∨ ((¬ rg_out i 4 ∧ ¬ rg_in n 1 1000) ∧ v = some (.int (-1000002)) ∧ G1 = G) ∨ ((rg_in n 1 1000 ∧ ∃ h, h < 4 ∧ i = nI h ∧ hp h = none) ∧ v = some (.int (-1000003)) ∧ G1 = G)) := by
  refine gk_ofW (cc := cL_write) (maxL := 4) (ret := (some .int)) (own := RL) (by decide +kernel) rfl rfl (Nat.le_of_ble_eq_true rfl) ?_
  intro p e s m below meth c ls hK hret hlk hex hP hS hl
  have hl : lv_has ls 4 [(0, .ref (ly_a y 0)), (1, .int i), (2, .int n)] := hl
  refine lv_aload_n hK.1.1 hK.1.2.1 dL_write_0 rfl (lv_at hl 0 rfl) ?_
  refine lv_iload_n hK.1.1 hK.1.2.1 dL_write_1 rfl (lv_at hl 1 rfl) ?_
  refine lv_iload_n hK.1.1 hK.1.2.1 dL_write_2 rfl (lv_at hl 2 rfl) ?_
  refine gk_callV (n := 2) (As := [.int i, .int n]) (rest := []) hK (c_X4_write l hfl hR (i := i) (n := n) hLp) (gk_gV q_14_15 q_14_16 q_14_17 q_1_2 q_14_18) ⟨rfl, by decide +kernel, by decide +kernel, by decide +kernel⟩ ⟨(Nat.le_of_ble_eq_true rfl), (Nat.le_of_ble_eq_true rfl)⟩ hP hS (gk_recv hK.2.2.1.1 hP hR.1 rfl) rfl hl.1 rfl (Nat.le_of_ble_eq_true rfl) dL_write_3 ⟨(Nat.le_of_ble_eq_true rfl), (Nat.le_of_ble_eq_true rfl)⟩ (fun E ce q9 G1 H locs hx hP hS h1 h2 h3 => ?_) (fun v G1 H locs hw hP hS => ?_)
  · rcases hx with ⟨rfl, hG9, hx9⟩ | ⟨rfl, hG9, hx9⟩ | ⟨rfl, hG9, hx9⟩
    · rw [hG9] at hP
      refine vx_catch (E := "java/lang/IndexOutOfBoundsException") hK.1.2.2.1 [] ⟨0, 6, 7, 16⟩ [⟨0, 6, 11, 19⟩, ⟨0, 6, 15, 41⟩] hex (fun z hz => nomatch hz) (by decide) (by decide) (hK.1.2.2.2 _ q_10_14) (gk_castU hK.2.2.1.2.2.1.2.2.2.1.1) h1 h2 h3 ?_
      refine lv_astore_n (lv' := [(3, .ref q9), (0, .ref (ly_a y 0)), (1, .int i), (2, .int n)]) hK.1.1 hK.1.2.1 dL_write_7 rfl hl (by decide) rfl (fun ls hl => ?_)
      refine lv_ldc (v := (-1000001)) hK.1.1 hK.1.2.1 hK.1.2.2.1 (hK.1.2.2.2 _ q_1_4) dL_write_8 ?_
      exact gk_iret0 hK.1 hret hlk hP hS (Nat.le_of_ble_eq_true rfl) (Nat.le_of_ble_eq_true rfl) dL_write_10 (Or.inr (Or.inl (⟨hx9, rfl, rfl⟩)))
    · rw [hG9] at hP
      refine vx_catch (E := "java/lang/IllegalArgumentException") hK.1.2.2.1 [⟨0, 6, 7, 16⟩] ⟨0, 6, 11, 19⟩ [⟨0, 6, 15, 41⟩] hex (fun z hz => by rw [List.mem_singleton.mp hz]; exact Or.inr ⟨by decide, _, hK.1.2.2.2 _ q_10_14, hK.2.2.1.2.2.1.2.2.2.2.1.1⟩) (by decide) (by decide) (hK.1.2.2.2 _ q_12_16) (gk_castU hK.2.2.1.2.2.1.2.2.2.1.2.1) h1 h2 h3 ?_
      refine lv_astore_n (lv' := [(3, .ref q9), (0, .ref (ly_a y 0)), (1, .int i), (2, .int n)]) hK.1.1 hK.1.2.1 dL_write_11 rfl hl (by decide) rfl (fun ls hl => ?_)
      refine lv_ldc (v := (-1000002)) hK.1.1 hK.1.2.1 hK.1.2.2.1 (hK.1.2.2.2 _ q_12_7) dL_write_12 ?_
      exact gk_iret0 hK.1 hret hlk hP hS (Nat.le_of_ble_eq_true rfl) (Nat.le_of_ble_eq_true rfl) dL_write_14 (Or.inr (Or.inr (Or.inl (⟨hx9, rfl, rfl⟩))))
    · rw [hG9] at hP
      refine vx_catch (E := "java/lang/IllegalStateException") hK.1.2.2.1 [⟨0, 6, 7, 16⟩, ⟨0, 6, 11, 19⟩] ⟨0, 6, 15, 41⟩ [] hex (fun z hz => by rcases List.mem_cons.mp hz with h | h; (rw [h]; exact Or.inr ⟨by decide, _, hK.1.2.2.2 _ q_10_14, hK.2.2.1.2.2.1.2.2.2.2.1.2.1⟩); (rw [List.mem_singleton.mp h]; exact Or.inr ⟨by decide, _, hK.1.2.2.2 _ q_12_16, hK.2.2.1.2.2.1.2.2.2.2.1.2.2⟩)) (by decide) (by decide) (hK.1.2.2.2 _ q_14_14) (gk_castU hK.2.2.1.2.2.1.2.2.2.1.2.2.1) h1 h2 h3 ?_
      refine lv_astore_n (lv' := [(3, .ref q9), (0, .ref (ly_a y 0)), (1, .int i), (2, .int n)]) hK.1.1 hK.1.2.1 dL_write_15 rfl hl (by decide) rfl (fun ls hl => ?_)
      refine lv_ldc (v := (-1000003)) hK.1.1 hK.1.2.1 hK.1.2.2.1 (hK.1.2.2.2 _ q_12_8) dL_write_16 ?_
      exact gk_iret0 hK.1 hret hlk hP hS (Nat.le_of_ble_eq_true rfl) (Nat.le_of_ble_eq_true rfl) dL_write_18 (Or.inr (Or.inr (Or.inr (⟨hx9, rfl, rfl⟩))))
  obtain ⟨h, t, hh, rfl, hht, hok, rfl, hR⟩ := hw
  refine W.eq (g2 := F0 m 6 ls [.int (pf 0 t + n)]) rfl ?_
  exact gk_iret0 hK.1 hret hlk hP hS (Nat.le_of_ble_eq_true rfl) (Nat.le_of_ble_eq_true rfl) dL_write_6 (Or.inl (⟨h, t, hh, rfl, hht, hok, rfl, hR⟩))
set_option maxHeartbeats 4000000 in
set_option maxRecDepth 100000 in
theorem c_L_advance (l : Launch) {y : ly_T} {A : Nat → Prop} {G : gk_G} {td : Int32} {ru : Nat → Nat → Int32} {fr lv : Nat → Nat} {lt et tl : Nat → Int32} {hf hp : Nat → Option Nat} {ol : Nat → List Nat} {PS : Nat → Prop} {pf : Nat → Nat → Int32} {n : Int32}  (hfl : l.stackTraces = false) (hR : rp y G td ru fr lv lt et tl hf hp ol PS pf) : gk_M0 l yL_advance (Cond.codeWith yL_advance cL_advance 3 (some .int) [(0, 5, 6, 19), (0, 5, 10, 41)]) 8 160 16 128 y A [.ref (ly_a y 0), .int n] G (fun v G1 => (rg_in n 1 100 ∧ td + n ≤ 5000 ∧ v = some (.int (td + n)) ∧ rp y G1 (td + n) ru fr lv lt et tl hf hp ol PS pf) ∨ ((¬ rg_in n 1 100) ∧ v = some (.int (-1000002)) ∧ G1 = G) ∨ ((rg_in n 1 100 ∧ ¬ td + n ≤ 5000) ∧ v = some (.int (-1000003)) ∧ G1 = G)) := by
  refine gk_ofW (cc := cL_advance) (maxL := 3) (ret := (some .int)) (own := RL) (by decide +kernel) rfl rfl (Nat.le_of_ble_eq_true rfl) ?_
  intro p e s m below meth c ls hK hret hlk hex hP hS hl
  have hl : lv_has ls 3 [(0, .ref (ly_a y 0)), (1, .int n)] := hl
  refine lv_aload_n hK.1.1 hK.1.2.1 dL_advance_0 rfl (lv_at hl 0 rfl) ?_
  refine lv_iload_n hK.1.1 hK.1.2.1 dL_advance_1 rfl (lv_at hl 1 rfl) ?_
  refine gk_callV (n := 1) (As := [.int n]) (rest := []) hK (c_X4_advance l hfl hR (n := n)) (gk_gV q_15_21 q_15_22 q_15_23 q_1_2 q_16_0) ⟨rfl, by decide +kernel, by decide +kernel, by decide +kernel⟩ ⟨(Nat.le_of_ble_eq_true rfl), (Nat.le_of_ble_eq_true rfl)⟩ hP hS (gk_recv hK.2.2.1.1 hP hR.1 rfl) rfl hl.1 rfl (Nat.le_of_ble_eq_true rfl) dL_advance_2 ⟨(Nat.le_of_ble_eq_true rfl), (Nat.le_of_ble_eq_true rfl)⟩ (fun E ce q9 G1 H locs hx hP hS h1 h2 h3 => ?_) (fun v G1 H locs hw hP hS => ?_)
  · rcases hx with ⟨rfl, hG9, hx9⟩ | ⟨rfl, hG9, hx9⟩
    · rw [hG9] at hP
      refine vx_catch (E := "java/lang/IllegalArgumentException") hK.1.2.2.1 [] ⟨0, 5, 6, 19⟩ [⟨0, 5, 10, 41⟩] hex (fun z hz => nomatch hz) (by decide) (by decide) (hK.1.2.2.2 _ q_12_16) (gk_castU hK.2.2.1.2.2.1.2.2.2.1.2.1) h1 h2 h3 ?_
      refine lv_astore_n (lv' := [(2, .ref q9), (0, .ref (ly_a y 0)), (1, .int n)]) hK.1.1 hK.1.2.1 dL_advance_6 rfl hl (by decide) rfl (fun ls hl => ?_)
      refine lv_ldc (v := (-1000002)) hK.1.1 hK.1.2.1 hK.1.2.2.1 (hK.1.2.2.2 _ q_12_7) dL_advance_7 ?_
      exact gk_iret0 hK.1 hret hlk hP hS (Nat.le_of_ble_eq_true rfl) (Nat.le_of_ble_eq_true rfl) dL_advance_9 (Or.inr (Or.inl (⟨hx9, rfl, rfl⟩)))
    · rw [hG9] at hP
      refine vx_catch (E := "java/lang/IllegalStateException") hK.1.2.2.1 [⟨0, 5, 6, 19⟩] ⟨0, 5, 10, 41⟩ [] hex (fun z hz => by rw [List.mem_singleton.mp hz]; exact Or.inr ⟨by decide, _, hK.1.2.2.2 _ q_12_16, hK.2.2.1.2.2.1.2.2.2.2.1.2.2⟩) (by decide) (by decide) (hK.1.2.2.2 _ q_14_14) (gk_castU hK.2.2.1.2.2.1.2.2.2.1.2.2.1) h1 h2 h3 ?_
      refine lv_astore_n (lv' := [(2, .ref q9), (0, .ref (ly_a y 0)), (1, .int n)]) hK.1.1 hK.1.2.1 dL_advance_10 rfl hl (by decide) rfl (fun ls hl => ?_)
      refine lv_ldc (v := (-1000003)) hK.1.1 hK.1.2.1 hK.1.2.2.1 (hK.1.2.2.2 _ q_12_8) dL_advance_11 ?_
      exact gk_iret0 hK.1 hret hlk hP hS (Nat.le_of_ble_eq_true rfl) (Nat.le_of_ble_eq_true rfl) dL_advance_13 (Or.inr (Or.inr (⟨hx9, rfl, rfl⟩)))
  obtain ⟨hok, hle, rfl, hR⟩ := hw
  refine W.eq (g2 := F0 m 5 ls [.int (td + n)]) rfl ?_
  exact gk_iret0 hK.1 hret hlk hP hS (Nat.le_of_ble_eq_true rfl) (Nat.le_of_ble_eq_true rfl) dL_advance_5 (Or.inl (⟨hok, hle, rfl, hR⟩))
set_option maxHeartbeats 4000000 in
set_option maxRecDepth 100000 in
theorem c_L_live (l : Launch) {y : ly_T} {A : Nat → Prop} {G : gk_G} {td : Int32} {ru : Nat → Nat → Int32} {fr lv : Nat → Nat} {lt et tl : Nat → Int32} {hf hp : Nat → Option Nat} {ol : Nat → List Nat} {PS : Nat → Prop} {pf : Nat → Nat → Int32} {i : Int32}  (hfl : l.stackTraces = false) (hR : rp y G td ru fr lv lt et tl hf hp ol PS pf) (hLl : ∀ f, f < 5 → PS (lv f)) : gk_M0 l yL_live (Cond.codeWith yL_live cL_live 3 (some .int) [(0, 5, 6, 16)]) 8 160 16 128 y A [.ref (ly_a y 0), .int i] G (fun v G1 => (∃ f, f < 5 ∧ i = nI f ∧ v = some (.int (pf 0 (lv f))) ∧ G1 = G) ∨ (rg_out i 5 ∧ v = some (.int (-1000001)) ∧ G1 = G)) := by
  refine gk_ofW (cc := cL_live) (maxL := 3) (ret := (some .int)) (own := RL) (by decide +kernel) rfl rfl (Nat.le_of_ble_eq_true rfl) ?_
  intro p e s m below meth c ls hK hret hlk hex hP hS hl
  have hl : lv_has ls 3 [(0, .ref (ly_a y 0)), (1, .int i)] := hl
  refine lv_aload_n hK.1.1 hK.1.2.1 dL_live_0 rfl (lv_at hl 0 rfl) ?_
  refine lv_iload_n hK.1.1 hK.1.2.1 dL_live_1 rfl (lv_at hl 1 rfl) ?_
  refine gk_callV (n := 1) (As := [.int i]) (rest := []) hK (c_X4_live l hfl hR (i := i) hLl) (gk_gV q_15_7 q_15_8 q_15_9 q_1_2 q_15_10) ⟨rfl, by decide +kernel, by decide +kernel, by decide +kernel⟩ ⟨(Nat.le_of_ble_eq_true rfl), (Nat.le_of_ble_eq_true rfl)⟩ hP hS (gk_recv hK.2.2.1.1 hP hR.1 rfl) rfl hl.1 rfl (Nat.le_of_ble_eq_true rfl) dL_live_2 ⟨(Nat.le_of_ble_eq_true rfl), (Nat.le_of_ble_eq_true rfl)⟩ (fun E ce q9 G1 H locs hx hP hS h1 h2 h3 => ?_) (fun v G1 H locs hw hP hS => ?_)
  · obtain ⟨rfl, hG9, hx9⟩ := hx
    rw [hG9] at hP
    refine vx_catch (E := "java/lang/IndexOutOfBoundsException") hK.1.2.2.1 [] ⟨0, 5, 6, 16⟩ [] hex (fun z hz => nomatch hz) (by decide) (by decide) (hK.1.2.2.2 _ q_10_14) (gk_castU hK.2.2.1.2.2.1.2.2.2.1.1) h1 h2 h3 ?_
    refine lv_astore_n (lv' := [(2, .ref q9), (0, .ref (ly_a y 0)), (1, .int i)]) hK.1.1 hK.1.2.1 dL_live_6 rfl hl (by decide) rfl (fun ls hl => ?_)
    refine lv_ldc (v := (-1000001)) hK.1.1 hK.1.2.1 hK.1.2.2.1 (hK.1.2.2.2 _ q_1_4) dL_live_7 ?_
    exact gk_iret0 hK.1 hret hlk hP hS (Nat.le_of_ble_eq_true rfl) (Nat.le_of_ble_eq_true rfl) dL_live_9 (Or.inr (⟨hx9, rfl, rfl⟩))
  obtain ⟨f, hf5, rfl, rfl, hG9⟩ := hw
  rw [hG9] at hP
  refine W.eq (g2 := F0 m 5 ls [.int (pf 0 (lv f))]) rfl ?_
  exact gk_iret0 hK.1 hret hlk hP hS (Nat.le_of_ble_eq_true rfl) (Nat.le_of_ble_eq_true rfl) dL_live_5 (Or.inl (⟨f, hf5, rfl, rfl, rfl⟩))
set_option maxHeartbeats 4000000 in
set_option maxRecDepth 100000 in
theorem c_L_olds (l : Launch) {y : ly_T} {A : Nat → Prop} {G : gk_G} {td : Int32} {ru : Nat → Nat → Int32} {fr lv : Nat → Nat} {lt et tl : Nat → Int32} {hf hp : Nat → Option Nat} {ol : Nat → List Nat} {PS : Nat → Prop} {pf : Nat → Nat → Int32} {i : Int32}  (hfl : l.stackTraces = false) (hR : rp y G td ru fr lv lt et tl hf hp ol PS pf) : gk_M0 l yL_olds (Cond.codeWith yL_olds cL_olds 3 (some .int) [(0, 5, 6, 16)]) 8 160 16 128 y A [.ref (ly_a y 0), .int i] G (fun v G1 => (∃ f, f < 5 ∧ i = nI f ∧ v = some (.int (nI (ol f).length)) ∧ G1 = G) ∨ (rg_out i 5 ∧ v = some (.int (-1000001)) ∧ G1 = G)) := by
  refine gk_ofW (cc := cL_olds) (maxL := 3) (ret := (some .int)) (own := RL) (by decide +kernel) rfl rfl (Nat.le_of_ble_eq_true rfl) ?_
  intro p e s m below meth c ls hK hret hlk hex hP hS hl
  have hl : lv_has ls 3 [(0, .ref (ly_a y 0)), (1, .int i)] := hl
  refine lv_aload_n hK.1.1 hK.1.2.1 dL_olds_0 rfl (lv_at hl 0 rfl) ?_
  refine lv_iload_n hK.1.1 hK.1.2.1 dL_olds_1 rfl (lv_at hl 1 rfl) ?_
  refine gk_callV (n := 1) (As := [.int i]) (rest := []) hK (c_X4_olds l hfl hR (i := i) ) (gk_gV q_16_13 q_16_14 q_16_15 q_1_2 q_16_16) ⟨rfl, by decide +kernel, by decide +kernel, by decide +kernel⟩ ⟨(Nat.le_of_ble_eq_true rfl), (Nat.le_of_ble_eq_true rfl)⟩ hP hS (gk_recv hK.2.2.1.1 hP hR.1 rfl) rfl hl.1 rfl (Nat.le_of_ble_eq_true rfl) dL_olds_2 ⟨(Nat.le_of_ble_eq_true rfl), (Nat.le_of_ble_eq_true rfl)⟩ (fun E ce q9 G1 H locs hx hP hS h1 h2 h3 => ?_) (fun v G1 H locs hw hP hS => ?_)
  · obtain ⟨rfl, hG9, hx9⟩ := hx
    rw [hG9] at hP
    refine vx_catch (E := "java/lang/IndexOutOfBoundsException") hK.1.2.2.1 [] ⟨0, 5, 6, 16⟩ [] hex (fun z hz => nomatch hz) (by decide) (by decide) (hK.1.2.2.2 _ q_10_14) (gk_castU hK.2.2.1.2.2.1.2.2.2.1.1) h1 h2 h3 ?_
    refine lv_astore_n (lv' := [(2, .ref q9), (0, .ref (ly_a y 0)), (1, .int i)]) hK.1.1 hK.1.2.1 dL_olds_6 rfl hl (by decide) rfl (fun ls hl => ?_)
    refine lv_ldc (v := (-1000001)) hK.1.1 hK.1.2.1 hK.1.2.2.1 (hK.1.2.2.2 _ q_1_4) dL_olds_7 ?_
    exact gk_iret0 hK.1 hret hlk hP hS (Nat.le_of_ble_eq_true rfl) (Nat.le_of_ble_eq_true rfl) dL_olds_9 (Or.inr (⟨hx9, rfl, rfl⟩))
  obtain ⟨f, hf5, rfl, rfl, hG9⟩ := hw
  rw [hG9] at hP
  refine W.eq (g2 := F0 m 5 ls [.int (nI (ol f).length)]) rfl ?_
  exact gk_iret0 hK.1 hret hlk hP hS (Nat.le_of_ble_eq_true rfl) (Nat.le_of_ble_eq_true rfl) dL_olds_5 (Or.inl (⟨f, hf5, rfl, rfl, rfl⟩))
set_option maxHeartbeats 4000000 in
set_option maxRecDepth 100000 in
theorem c_L_thrown (l : Launch) {y : ly_T} {A : Nat → Prop} {G : gk_G} {td : Int32} {ru : Nat → Nat → Int32} {fr lv : Nat → Nat} {lt et tl : Nat → Int32} {hf hp : Nat → Option Nat} {ol : Nat → List Nat} {PS : Nat → Prop} {pf : Nat → Nat → Int32} {i : Int32}  (hfl : l.stackTraces = false) (hR : rp y G td ru fr lv lt et tl hf hp ol PS pf) : gk_M0 l yL_thrown (Cond.codeWith yL_thrown cL_thrown 3 (some .int) [(0, 5, 6, 16)]) 8 160 16 128 y A [.ref (ly_a y 0), .int i] G (fun v G1 => (∃ f, f < 5 ∧ i = nI f ∧ v = some (.int (tl f)) ∧ G1 = G) ∨ (rg_out i 5 ∧ v = some (.int (-1000001)) ∧ G1 = G)) := by
  refine gk_ofW (cc := cL_thrown) (maxL := 3) (ret := (some .int)) (own := RL) (by decide +kernel) rfl rfl (Nat.le_of_ble_eq_true rfl) ?_
  intro p e s m below meth c ls hK hret hlk hex hP hS hl
  have hl : lv_has ls 3 [(0, .ref (ly_a y 0)), (1, .int i)] := hl
  refine lv_aload_n hK.1.1 hK.1.2.1 dL_thrown_0 rfl (lv_at hl 0 rfl) ?_
  refine lv_iload_n hK.1.1 hK.1.2.1 dL_thrown_1 rfl (lv_at hl 1 rfl) ?_
  refine gk_callV (n := 1) (As := [.int i]) (rest := []) hK (c_X4_thrown l hfl hR (i := i) ) (gk_gV q_17_23 q_18_0 q_18_1 q_1_2 q_18_2) ⟨rfl, by decide +kernel, by decide +kernel, by decide +kernel⟩ ⟨(Nat.le_of_ble_eq_true rfl), (Nat.le_of_ble_eq_true rfl)⟩ hP hS (gk_recv hK.2.2.1.1 hP hR.1 rfl) rfl hl.1 rfl (Nat.le_of_ble_eq_true rfl) dL_thrown_2 ⟨(Nat.le_of_ble_eq_true rfl), (Nat.le_of_ble_eq_true rfl)⟩ (fun E ce q9 G1 H locs hx hP hS h1 h2 h3 => ?_) (fun v G1 H locs hw hP hS => ?_)
  · obtain ⟨rfl, hG9, hx9⟩ := hx
    rw [hG9] at hP
    refine vx_catch (E := "java/lang/IndexOutOfBoundsException") hK.1.2.2.1 [] ⟨0, 5, 6, 16⟩ [] hex (fun z hz => nomatch hz) (by decide) (by decide) (hK.1.2.2.2 _ q_10_14) (gk_castU hK.2.2.1.2.2.1.2.2.2.1.1) h1 h2 h3 ?_
    refine lv_astore_n (lv' := [(2, .ref q9), (0, .ref (ly_a y 0)), (1, .int i)]) hK.1.1 hK.1.2.1 dL_thrown_6 rfl hl (by decide) rfl (fun ls hl => ?_)
    refine lv_ldc (v := (-1000001)) hK.1.1 hK.1.2.1 hK.1.2.2.1 (hK.1.2.2.2 _ q_1_4) dL_thrown_7 ?_
    exact gk_iret0 hK.1 hret hlk hP hS (Nat.le_of_ble_eq_true rfl) (Nat.le_of_ble_eq_true rfl) dL_thrown_9 (Or.inr (⟨hx9, rfl, rfl⟩))
  obtain ⟨f, hf5, rfl, rfl, hG9⟩ := hw
  rw [hG9] at hP
  refine W.eq (g2 := F0 m 5 ls [.int (tl f)]) rfl ?_
  exact gk_iret0 hK.1 hret hlk hP hS (Nat.le_of_ble_eq_true rfl) (Nat.le_of_ble_eq_true rfl) dL_thrown_5 (Or.inl (⟨f, hf5, rfl, rfl, rfl⟩))
set_option maxHeartbeats 4000000 in
set_option maxRecDepth 100000 in
theorem c_L_isDue (l : Launch) {y : ly_T} {A : Nat → Prop} {G : gk_G} {td : Int32} {ru : Nat → Nat → Int32} {fr lv : Nat → Nat} {lt et tl : Nat → Int32} {hf hp : Nat → Option Nat} {ol : Nat → List Nat} {PS : Nat → Prop} {pf : Nat → Nat → Int32} {i : Int32}  (hfl : l.stackTraces = false) (hR : rp y G td ru fr lv lt et tl hf hp ol PS pf) (hLl : ∀ f, f < 5 → PS (lv f)) : gk_M0 l yL_isDue (Cond.codeWith yL_isDue cL_isDue 3 (some .int) [(0, 13, 14, 16)]) 8 160 16 128 y A [.ref (ly_a y 0), .int i] G (fun v G1 => (∃ f, f < 5 ∧ i = nI f ∧ v = some (.int (rg_b (t_due (pf 0 (lv f)) (ru (fr f) 1) (ru (fr f) 2) (ru (fr f) 3) (ru (fr f) 4) (et f) (lt f) td))) ∧ G1 = G) ∨ (rg_out i 5 ∧ v = some (.int (-1000001)) ∧ G1 = G)) := by
  refine gk_ofW (cc := cL_isDue) (maxL := 3) (ret := (some .int)) (own := RL) (by decide +kernel) rfl rfl (Nat.le_of_ble_eq_true rfl) ?_
  intro p e s m below meth c ls hK hret hlk hex hP hS hl
  have hl : lv_has ls 3 [(0, .ref (ly_a y 0)), (1, .int i)] := hl
  refine lv_aload_n hK.1.1 hK.1.2.1 dL_isDue_0 rfl (lv_at hl 0 rfl) ?_
  refine lv_iload_n hK.1.1 hK.1.2.1 dL_isDue_1 rfl (lv_at hl 1 rfl) ?_
  refine gk_callV (n := 1) (As := [.int i]) (rest := []) hK (c_X4_isDue l hfl hR (i := i) hLl) (gk_gV q_17_6 q_17_7 q_17_8 q_1_2 q_17_9) ⟨rfl, by decide +kernel, by decide +kernel, by decide +kernel⟩ ⟨(Nat.le_of_ble_eq_true rfl), (Nat.le_of_ble_eq_true rfl)⟩ hP hS (gk_recv hK.2.2.1.1 hP hR.1 rfl) rfl hl.1 rfl (Nat.le_of_ble_eq_true rfl) dL_isDue_2 ⟨(Nat.le_of_ble_eq_true rfl), (Nat.le_of_ble_eq_true rfl)⟩ (fun E ce q9 G1 H locs hx hP hS h1 h2 h3 => ?_) (fun v G1 H locs hw hP hS => ?_)
  · obtain ⟨rfl, hG9, hx9⟩ := hx
    rw [hG9] at hP
    refine vx_catch (E := "java/lang/IndexOutOfBoundsException") hK.1.2.2.1 [] ⟨0, 13, 14, 16⟩ [] hex (fun z hz => nomatch hz) (by decide) (by decide) (hK.1.2.2.2 _ q_10_14) (gk_castU hK.2.2.1.2.2.1.2.2.2.1.1) h1 h2 h3 ?_
    refine lv_astore_n (lv' := [(2, .ref q9), (0, .ref (ly_a y 0)), (1, .int i)]) hK.1.1 hK.1.2.1 dL_isDue_14 rfl hl (by decide) rfl (fun ls hl => ?_)
    refine lv_ldc (v := (-1000001)) hK.1.1 hK.1.2.1 hK.1.2.2.1 (hK.1.2.2.2 _ q_1_4) dL_isDue_15 ?_
    exact gk_iret0 hK.1 hret hlk hP hS (Nat.le_of_ble_eq_true rfl) (Nat.le_of_ble_eq_true rfl) dL_isDue_17 (Or.inr (⟨hx9, rfl, rfl⟩))
  obtain ⟨f, hf5, rfl, rfl, hG9⟩ := hw
  rw [hG9] at hP
  refine W.eq (g2 := F0 m 5 ls [.int (rg_b (t_due (pf 0 (lv f)) (ru (fr f) 1) (ru (fr f) 2) (ru (fr f) 3) (ru (fr f) 4) (et f) (lt f) td))]) rfl ?_
  refine lv_if_eq (tgt := 12) hK.1.1 hK.1.2.1 dL_isDue_5 (by decide) (fun c5_1 => ?_) (fun c5_1 => ?_)
  · refine lv_iconst (v := 0) hK.1.1 hK.1.2.1 dL_isDue_12 (by decide) ?_
    exact gk_iret0 hK.1 hret hlk hP hS (Nat.le_of_ble_eq_true rfl) (Nat.le_of_ble_eq_true rfl) dL_isDue_13 (Or.inl (⟨f, hf5, rfl, (by rw [show rg_b (t_due (pf 0 (lv f)) (ru (fr f) 1) (ru (fr f) 2) (ru (fr f) 3) (ru (fr f) 4) (et f) (lt f) td) = 0 from c5_1]), rfl⟩))
  · refine lv_iconst (v := 1) hK.1.1 hK.1.2.1 dL_isDue_8 (by decide) ?_
    refine lv_goto (tgt := 13) hK.1.1 hK.1.2.1 dL_isDue_9 (by decide) ?_
    exact gk_iret0 hK.1 hret hlk hP hS (Nat.le_of_ble_eq_true rfl) (Nat.le_of_ble_eq_true rfl) dL_isDue_13 (Or.inl (⟨f, hf5, rfl, (by rw [show rg_b (t_due (pf 0 (lv f)) (ru (fr f) 1) (ru (fr f) 2) (ru (fr f) 3) (ru (fr f) 4) (et f) (lt f) td) = 1 from rg_bt c5_1]), rfl⟩))
set_option maxHeartbeats 4000000 in
set_option maxRecDepth 100000 in
theorem c_L_lose (l : Launch) {y : ly_T} {A : Nat → Prop} {G : gk_G} {td : Int32} {ru : Nat → Nat → Int32} {fr lv : Nat → Nat} {lt et tl : Nat → Int32} {hf hp : Nat → Option Nat} {ol : Nat → List Nat} {PS : Nat → Prop} {pf : Nat → Nat → Int32} {i : Int32}  (hfl : l.stackTraces = false) (hR : rp y G td ru fr lv lt et tl hf hp ol PS pf) : gk_M0 l yL_lose (Cond.codeWith yL_lose cL_lose 3 (some .int) [(0, 5, 6, 16)]) 8 160 16 128 y A [.ref (ly_a y 0), .int i] G (fun v G1 => (∃ f, f < 5 ∧ i = nI f ∧ v = some (.int (lt f)) ∧ rp y G1 td ru fr lv (va_up lt f td) (va_up et f 1) tl hf hp ol PS pf) ∨ (rg_out i 5 ∧ v = some (.int (-1000001)) ∧ G1 = G)) := by
  refine gk_ofW (cc := cL_lose) (maxL := 3) (ret := (some .int)) (own := RL) (by decide +kernel) rfl rfl (Nat.le_of_ble_eq_true rfl) ?_
  intro p e s m below meth c ls hK hret hlk hex hP hS hl
  have hl : lv_has ls 3 [(0, .ref (ly_a y 0)), (1, .int i)] := hl
  refine lv_aload_n hK.1.1 hK.1.2.1 dL_lose_0 rfl (lv_at hl 0 rfl) ?_
  refine lv_iload_n hK.1.1 hK.1.2.1 dL_lose_1 rfl (lv_at hl 1 rfl) ?_
  refine gk_callV (n := 1) (As := [.int i]) (rest := []) hK (c_X4_lose l hfl hR (i := i)) (gk_gV q_17_13 q_17_14 q_17_15 q_1_2 q_17_16) ⟨rfl, by decide +kernel, by decide +kernel, by decide +kernel⟩ ⟨(Nat.le_of_ble_eq_true rfl), (Nat.le_of_ble_eq_true rfl)⟩ hP hS (gk_recv hK.2.2.1.1 hP hR.1 rfl) rfl hl.1 rfl (Nat.le_of_ble_eq_true rfl) dL_lose_2 ⟨(Nat.le_of_ble_eq_true rfl), (Nat.le_of_ble_eq_true rfl)⟩ (fun E ce q9 G1 H locs hx hP hS h1 h2 h3 => ?_) (fun v G1 H locs hw hP hS => ?_)
  · obtain ⟨rfl, hG9, hx9⟩ := hx
    rw [hG9] at hP
    refine vx_catch (E := "java/lang/IndexOutOfBoundsException") hK.1.2.2.1 [] ⟨0, 5, 6, 16⟩ [] hex (fun z hz => nomatch hz) (by decide) (by decide) (hK.1.2.2.2 _ q_10_14) (gk_castU hK.2.2.1.2.2.1.2.2.2.1.1) h1 h2 h3 ?_
    refine lv_astore_n (lv' := [(2, .ref q9), (0, .ref (ly_a y 0)), (1, .int i)]) hK.1.1 hK.1.2.1 dL_lose_6 rfl hl (by decide) rfl (fun ls hl => ?_)
    refine lv_ldc (v := (-1000001)) hK.1.1 hK.1.2.1 hK.1.2.2.1 (hK.1.2.2.2 _ q_1_4) dL_lose_7 ?_
    exact gk_iret0 hK.1 hret hlk hP hS (Nat.le_of_ble_eq_true rfl) (Nat.le_of_ble_eq_true rfl) dL_lose_9 (Or.inr (⟨hx9, rfl, rfl⟩))
  obtain ⟨f, hf5, rfl, rfl, hR⟩ := hw
  refine W.eq (g2 := F0 m 5 ls [.int (lt f)]) rfl ?_
  exact gk_iret0 hK.1 hret hlk hP hS (Nat.le_of_ble_eq_true rfl) (Nat.le_of_ble_eq_true rfl) dL_lose_5 (Or.inl (⟨f, hf5, rfl, rfl, hR⟩))
set_option maxHeartbeats 4000000 in
set_option maxRecDepth 100000 in
theorem c_L_lines (l : Launch) {y : ly_T} {A : Nat → Prop} {G : gk_G} {td : Int32} {ru : Nat → Nat → Int32} {fr lv : Nat → Nat} {lt et tl : Nat → Int32} {hf hp : Nat → Option Nat} {ol : Nat → List Nat} {PS : Nat → Prop} {pf : Nat → Nat → Int32} {i j : Int32}  (hfl : l.stackTraces = false) (hR : rp y G td ru fr lv lt et tl hf hp ol PS pf) (hin5 : ∀ f, f < 5 → ∀ q ∈ ol f, PS q) : gk_M0 l yL_lines (Cond.codeWith yL_lines cL_lines 4 (some .int) [(0, 6, 7, 16)]) 8 160 16 128 y A [.ref (ly_a y 0), .int i, .int j] G (fun v G1 => (∃ f k t, f < 5 ∧ i = nI f ∧ (ol f)[k]? = some t ∧ j = nI k ∧ v = some (.int (pf 0 t)) ∧ G1 = G) ∨ ((rg_out i 5 ∨ ∃ f, f < 5 ∧ i = nI f ∧ rg_out j (ol f).length) ∧ v = some (.int (-1000001)) ∧ G1 = G)) := by
  refine gk_ofW (cc := cL_lines) (maxL := 4) (ret := (some .int)) (own := RL) (by decide +kernel) rfl rfl (Nat.le_of_ble_eq_true rfl) ?_
  intro p e s m below meth c ls hK hret hlk hex hP hS hl
  have hl : lv_has ls 4 [(0, .ref (ly_a y 0)), (1, .int i), (2, .int j)] := hl
  refine lv_aload_n hK.1.1 hK.1.2.1 dL_lines_0 rfl (lv_at hl 0 rfl) ?_
  refine lv_iload_n hK.1.1 hK.1.2.1 dL_lines_1 rfl (lv_at hl 1 rfl) ?_
  refine lv_iload_n hK.1.1 hK.1.2.1 dL_lines_2 rfl (lv_at hl 2 rfl) ?_
  refine gk_callV (n := 2) (As := [.int i, .int j]) (rest := []) hK (c_X4_lines l hfl hR (i := i) (j := j) hin5) (gk_gV q_15_14 q_15_15 q_15_16 q_1_2 q_15_17) ⟨rfl, by decide +kernel, by decide +kernel, by decide +kernel⟩ ⟨(Nat.le_of_ble_eq_true rfl), (Nat.le_of_ble_eq_true rfl)⟩ hP hS (gk_recv hK.2.2.1.1 hP hR.1 rfl) rfl hl.1 rfl (Nat.le_of_ble_eq_true rfl) dL_lines_3 ⟨(Nat.le_of_ble_eq_true rfl), (Nat.le_of_ble_eq_true rfl)⟩ (fun E ce q9 G1 H locs hx hP hS h1 h2 h3 => ?_) (fun v G1 H locs hw hP hS => ?_)
  · obtain ⟨rfl, hG9, hx9⟩ := hx
    rw [hG9] at hP
    refine vx_catch (E := "java/lang/IndexOutOfBoundsException") hK.1.2.2.1 [] ⟨0, 6, 7, 16⟩ [] hex (fun z hz => nomatch hz) (by decide) (by decide) (hK.1.2.2.2 _ q_10_14) (gk_castU hK.2.2.1.2.2.1.2.2.2.1.1) h1 h2 h3 ?_
    refine lv_astore_n (lv' := [(3, .ref q9), (0, .ref (ly_a y 0)), (1, .int i), (2, .int j)]) hK.1.1 hK.1.2.1 dL_lines_7 rfl hl (by decide) rfl (fun ls hl => ?_)
    refine lv_ldc (v := (-1000001)) hK.1.1 hK.1.2.1 hK.1.2.2.1 (hK.1.2.2.2 _ q_1_4) dL_lines_8 ?_
    exact gk_iret0 hK.1 hret hlk hP hS (Nat.le_of_ble_eq_true rfl) (Nat.le_of_ble_eq_true rfl) dL_lines_10 (Or.inr (⟨hx9, rfl, rfl⟩))
  obtain ⟨f, k, t, hf5, rfl, htk, rfl, rfl, hG9⟩ := hw
  rw [hG9] at hP
  refine W.eq (g2 := F0 m 6 ls [.int (pf 0 t)]) rfl ?_
  exact gk_iret0 hK.1 hret hlk hP hS (Nat.le_of_ble_eq_true rfl) (Nat.le_of_ble_eq_true rfl) dL_lines_6 (Or.inl (⟨f, k, t, hf5, rfl, htk, rfl, rfl, rfl⟩))
set_option maxHeartbeats 4000000 in
set_option maxRecDepth 100000 in
theorem c_L_turn (l : Launch) {y : ly_T} {A : Nat → Prop} {G : gk_G} {td : Int32} {ru : Nat → Nat → Int32} {fr lv : Nat → Nat} {lt et tl : Nat → Int32} {hf hp : Nat → Option Nat} {ol : Nat → List Nat} {PS : Nat → Prop} {pf : Nat → Nat → Int32} {i : Int32}  (hfl : l.stackTraces = false) (hR : rp y G td ru fr lv lt et tl hf hp ol PS pf) (hLl : ∀ f, f < 5 → PS (lv f)) (hin5 : ∀ f, f < 5 → ∀ q ∈ ol f, PS q) (hlen5 : ∀ f, f < 5 → (ol f).length < 512) : gk_M0 l yL_turn (Cond.codeWith yL_turn cL_turn 3 (some .int) [(0, 5, 6, 16)]) 9 300 3 1509 y A [.ref (ly_a y 0), .int i] G (fun v G1 => (∃ f q, f < 5 ∧ i = nI f ∧ ¬ PS q ∧ v = some (.int (nI (t_tth td ru fr lv hp ol pf f q).length)) ∧ rp y G1 td ru fr (va_up lv f q) (va_up lt f td) (va_up et f 1) (va_up tl f (t_sum (t_tpf td ru fr lv hp ol pf f q) (tl f) (t_tth td ru fr lv hp ol pf f q))) hf hp (va_up ol f (t_tkp td ru fr lv hp ol pf f q)) (fun t => PS t ∨ t = q) (t_tpf td ru fr lv hp ol pf f q)) ∨ (rg_out i 5 ∧ v = some (.int (-1000001)) ∧ G1 = G)) := by
  refine gk_ofW (cc := cL_turn) (maxL := 3) (ret := (some .int)) (own := RL) (by decide +kernel) rfl rfl (Nat.le_of_ble_eq_true rfl) ?_
  intro p e s m below meth c ls hK hret hlk hex hP hS hl
  have hl : lv_has ls 3 [(0, .ref (ly_a y 0)), (1, .int i)] := hl
  refine lv_aload_n hK.1.1 hK.1.2.1 dL_turn_0 rfl (lv_at hl 0 rfl) ?_
  refine lv_iload_n hK.1.1 hK.1.2.1 dL_turn_1 rfl (lv_at hl 1 rfl) ?_
  refine gk_callV (n := 1) (As := [.int i]) (rest := []) hK (c_X4_turn l hfl hR (i := i) hLl hin5 hlen5) (gk_gV q_18_6 q_18_7 q_18_8 q_1_2 q_18_9) ⟨rfl, by decide +kernel, by decide +kernel, by decide +kernel⟩ ⟨(Nat.le_of_ble_eq_true rfl), (Nat.le_of_ble_eq_true rfl)⟩ hP hS (gk_recv hK.2.2.1.1 hP hR.1 rfl) rfl hl.1 rfl (Nat.le_of_ble_eq_true rfl) dL_turn_2 ⟨(Nat.le_of_ble_eq_true rfl), (Nat.le_of_ble_eq_true rfl)⟩ (fun E ce q9 G1 H locs hx hP hS h1 h2 h3 => ?_) (fun v G1 H locs hw hP hS => ?_)
  · obtain ⟨rfl, hG9, hx9⟩ := hx
    rw [hG9] at hP
    refine vx_catch (E := "java/lang/IndexOutOfBoundsException") hK.1.2.2.1 [] ⟨0, 5, 6, 16⟩ [] hex (fun z hz => nomatch hz) (by decide) (by decide) (hK.1.2.2.2 _ q_10_14) (gk_castU hK.2.2.1.2.2.1.2.2.2.1.1) h1 h2 h3 ?_
    refine lv_astore_n (lv' := [(2, .ref q9), (0, .ref (ly_a y 0)), (1, .int i)]) hK.1.1 hK.1.2.1 dL_turn_6 rfl hl (by decide) rfl (fun ls hl => ?_)
    refine lv_ldc (v := (-1000001)) hK.1.1 hK.1.2.1 hK.1.2.2.1 (hK.1.2.2.2 _ q_1_4) dL_turn_7 ?_
    exact gk_iret0 hK.1 hret hlk hP hS (Nat.le_of_ble_eq_true rfl) (Nat.le_of_ble_eq_true rfl) dL_turn_9 (Or.inr (⟨hx9, rfl, rfl⟩))
  obtain ⟨f, q, hf5, rfl, hq9, rfl, hR⟩ := hw
  refine W.eq (g2 := F0 m 5 ls [.int (nI (t_tth td ru fr lv hp ol pf f q).length)]) rfl ?_
  exact gk_iret0 hK.1 hret hlk hP hS (Nat.le_of_ble_eq_true rfl) (Nat.le_of_ble_eq_true rfl) dL_turn_5 (Or.inl (⟨f, q, hf5, rfl, hq9, rfl, hR⟩))
set_option maxHeartbeats 4000000 in
set_option maxRecDepth 100000 in
theorem c_L_name (l : Launch) {y : ly_T} {A : Nat → Prop} {G : gk_G} {td : Int32} {ru : Nat → Nat → Int32} {fr lv : Nat → Nat} {lt et tl : Nat → Int32} {hf hp : Nat → Option Nat} {ol : Nat → List Nat} {PS : Nat → Prop} {pf : Nat → Nat → Int32} {i j : Int32}  (hfl : l.stackTraces = false) (hR : rp y G td ru fr lv lt et tl hf hp ol PS pf) (hin5 : ∀ f, f < 5 → ∀ q ∈ ol f, PS q) : gk_M0 l yL_name (Cond.codeWith yL_name cL_name 4 (some .int) [(0, 6, 7, 16)]) 8 160 16 128 y A [.ref (ly_a y 0), .int i, .int j] G (fun v G1 => (∃ f k t, f < 5 ∧ i = nI f ∧ (ol f)[k]? = some t ∧ j = nI k ∧ v = some (.int (if ru (fr f) 8 = 0 then nI ((ol f).length - k) else 1000 * pf 1 t + nI (t_cnt pf (ol f) k (pf 1 t)))) ∧ G1 = G) ∨ ((rg_out i 5 ∨ ∃ f, f < 5 ∧ i = nI f ∧ rg_out j (ol f).length) ∧ v = some (.int (-1000001)) ∧ G1 = G)) := by
  refine gk_ofW (cc := cL_name) (maxL := 4) (ret := (some .int)) (own := RL) (by decide +kernel) rfl rfl (Nat.le_of_ble_eq_true rfl) ?_
  intro p e s m below meth c ls hK hret hlk hex hP hS hl
  have hl : lv_has ls 4 [(0, .ref (ly_a y 0)), (1, .int i), (2, .int j)] := hl
  refine lv_aload_n hK.1.1 hK.1.2.1 dL_name_0 rfl (lv_at hl 0 rfl) ?_
  refine lv_iload_n hK.1.1 hK.1.2.1 dL_name_1 rfl (lv_at hl 1 rfl) ?_
  refine lv_iload_n hK.1.1 hK.1.2.1 dL_name_2 rfl (lv_at hl 2 rfl) ?_
  refine gk_callV (n := 2) (As := [.int i, .int j]) (rest := []) hK (c_X4_name l hfl hR (i := i) (j := j) hin5) (gk_gV q_11_8 q_11_9 q_11_10 q_1_2 q_11_11) ⟨rfl, by decide +kernel, by decide +kernel, by decide +kernel⟩ ⟨(Nat.le_of_ble_eq_true rfl), (Nat.le_of_ble_eq_true rfl)⟩ hP hS (gk_recv hK.2.2.1.1 hP hR.1 rfl) rfl hl.1 rfl (Nat.le_of_ble_eq_true rfl) dL_name_3 ⟨(Nat.le_of_ble_eq_true rfl), (Nat.le_of_ble_eq_true rfl)⟩ (fun E ce q9 G1 H locs hx hP hS h1 h2 h3 => ?_) (fun v G1 H locs hw hP hS => ?_)
  · obtain ⟨rfl, hG9, hx9⟩ := hx
    rw [hG9] at hP
    refine vx_catch (E := "java/lang/IndexOutOfBoundsException") hK.1.2.2.1 [] ⟨0, 6, 7, 16⟩ [] hex (fun z hz => nomatch hz) (by decide) (by decide) (hK.1.2.2.2 _ q_10_14) (gk_castU hK.2.2.1.2.2.1.2.2.2.1.1) h1 h2 h3 ?_
    refine lv_astore_n (lv' := [(3, .ref q9), (0, .ref (ly_a y 0)), (1, .int i), (2, .int j)]) hK.1.1 hK.1.2.1 dL_name_7 rfl hl (by decide) rfl (fun ls hl => ?_)
    refine lv_ldc (v := (-1000001)) hK.1.1 hK.1.2.1 hK.1.2.2.1 (hK.1.2.2.2 _ q_1_4) dL_name_8 ?_
    exact gk_iret0 hK.1 hret hlk hP hS (Nat.le_of_ble_eq_true rfl) (Nat.le_of_ble_eq_true rfl) dL_name_10 (Or.inr (⟨hx9, rfl, rfl⟩))
  obtain ⟨f, k, t, hf5, rfl, htk, rfl, rfl, hG9⟩ := hw
  rw [hG9] at hP
  refine W.eq (g2 := F0 m 6 ls [.int (if ru (fr f) 8 = 0 then nI ((ol f).length - k) else 1000 * pf 1 t + nI (t_cnt pf (ol f) k (pf 1 t)))]) rfl ?_
  exact gk_iret0 hK.1 hret hlk hP hS (Nat.le_of_ble_eq_true rfl) (Nat.le_of_ble_eq_true rfl) dL_name_6 (Or.inl (⟨f, k, t, hf5, rfl, htk, rfl, rfl, rfl⟩))
set_option maxHeartbeats 4000000 in
set_option maxRecDepth 100000 in
theorem c_L_nextDue (l : Launch) {y : ly_T} {A : Nat → Prop} {G : gk_G} {td : Int32} {ru : Nat → Nat → Int32} {fr lv : Nat → Nat} {lt et tl : Nat → Int32} {hf hp : Nat → Option Nat} {ol : Nat → List Nat} {PS : Nat → Prop} {pf : Nat → Nat → Int32} {i : Int32}  (hfl : l.stackTraces = false) (hR : rp y G td ru fr lv lt et tl hf hp ol PS pf) (hLl : ∀ f, f < 5 → PS (lv f)) : gk_M0 l yL_nextDue (Cond.codeWith yL_nextDue cL_nextDue 3 (some .int) [(0, 5, 6, 16)]) 8 160 16 128 y A [.ref (ly_a y 0), .int i] G (fun v G1 => (∃ f x, f < 5 ∧ i = nI f ∧ ((∃ a, a < 201 ∧ (∀ b, b < a → t_due (pf 0 (lv f)) (ru (fr f) 1) (ru (fr f) 2) (ru (fr f) 3) (ru (fr f) 4) (et f) (lt f) (td + nI b) = false) ∧ t_due (pf 0 (lv f)) (ru (fr f) 1) (ru (fr f) 2) (ru (fr f) 3) (ru (fr f) 4) (et f) (lt f) (td + nI a) = true ∧ x = td + nI a) ∨ ((∀ b, b < 201 → t_due (pf 0 (lv f)) (ru (fr f) 1) (ru (fr f) 2) (ru (fr f) 3) (ru (fr f) 4) (et f) (lt f) (td + nI b) = false) ∧ x = -1)) ∧ v = some (.int x) ∧ G1 = G) ∨ (rg_out i 5 ∧ v = some (.int (-1000001)) ∧ G1 = G)) := by
  refine gk_ofW (cc := cL_nextDue) (maxL := 3) (ret := (some .int)) (own := RL) (by decide +kernel) rfl rfl (Nat.le_of_ble_eq_true rfl) ?_
  intro p e s m below meth c ls hK hret hlk hex hP hS hl
  have hl : lv_has ls 3 [(0, .ref (ly_a y 0)), (1, .int i)] := hl
  refine lv_aload_n hK.1.1 hK.1.2.1 dL_nextDue_0 rfl (lv_at hl 0 rfl) ?_
  refine lv_iload_n hK.1.1 hK.1.2.1 dL_nextDue_1 rfl (lv_at hl 1 rfl) ?_
  refine gk_callV (n := 1) (As := [.int i]) (rest := []) hK (c_X4_nextDue l hfl hR (i := i) hLl) (gk_gV q_18_19 q_18_20 q_18_21 q_1_2 q_18_22) ⟨rfl, by decide +kernel, by decide +kernel, by decide +kernel⟩ ⟨(Nat.le_of_ble_eq_true rfl), (Nat.le_of_ble_eq_true rfl)⟩ hP hS (gk_recv hK.2.2.1.1 hP hR.1 rfl) rfl hl.1 rfl (Nat.le_of_ble_eq_true rfl) dL_nextDue_2 ⟨(Nat.le_of_ble_eq_true rfl), (Nat.le_of_ble_eq_true rfl)⟩ (fun E ce q9 G1 H locs hx hP hS h1 h2 h3 => ?_) (fun v G1 H locs hw hP hS => ?_)
  · obtain ⟨rfl, hG9, hx9⟩ := hx
    rw [hG9] at hP
    refine vx_catch (E := "java/lang/IndexOutOfBoundsException") hK.1.2.2.1 [] ⟨0, 5, 6, 16⟩ [] hex (fun z hz => nomatch hz) (by decide) (by decide) (hK.1.2.2.2 _ q_10_14) (gk_castU hK.2.2.1.2.2.1.2.2.2.1.1) h1 h2 h3 ?_
    refine lv_astore_n (lv' := [(2, .ref q9), (0, .ref (ly_a y 0)), (1, .int i)]) hK.1.1 hK.1.2.1 dL_nextDue_6 rfl hl (by decide) rfl (fun ls hl => ?_)
    refine lv_ldc (v := (-1000001)) hK.1.1 hK.1.2.1 hK.1.2.2.1 (hK.1.2.2.2 _ q_1_4) dL_nextDue_7 ?_
    exact gk_iret0 hK.1 hret hlk hP hS (Nat.le_of_ble_eq_true rfl) (Nat.le_of_ble_eq_true rfl) dL_nextDue_9 (Or.inr (⟨hx9, rfl, rfl⟩))
  obtain ⟨f, hf5, rfl, hw9, hG9⟩ := hw
  rw [hG9] at hP
  obtain ⟨x, hxx, rfl⟩ : ∃ x, ((∃ a, a < 201 ∧ (∀ b, b < a → t_due (pf 0 (lv f)) (ru (fr f) 1) (ru (fr f) 2) (ru (fr f) 3) (ru (fr f) 4) (et f) (lt f) (td + nI b) = false) ∧ t_due (pf 0 (lv f)) (ru (fr f) 1) (ru (fr f) 2) (ru (fr f) 3) (ru (fr f) 4) (et f) (lt f) (td + nI a) = true ∧ x = td + nI a) ∨ ((∀ b, b < 201 → t_due (pf 0 (lv f)) (ru (fr f) 1) (ru (fr f) 2) (ru (fr f) 3) (ru (fr f) 4) (et f) (lt f) (td + nI b) = false) ∧ x = -1)) ∧ v = some (.int x) := hw9.elim (fun ⟨a, h1, h2, h3, h4⟩ => ⟨_, Or.inl ⟨a, h1, h2, h3, rfl⟩, h4⟩) (fun ⟨h1, h2⟩ => ⟨_, Or.inr ⟨h1, rfl⟩, h2⟩)
  refine W.eq (g2 := F0 m 5 ls [.int x]) rfl ?_
  exact gk_iret0 hK.1 hret hlk hP hS (Nat.le_of_ble_eq_true rfl) (Nat.le_of_ble_eq_true rfl) dL_nextDue_5 (Or.inl (⟨f, x, hf5, rfl, hxx, rfl, rfl⟩))
set_option maxHeartbeats 4000000 in
set_option maxRecDepth 100000 in
theorem c_L_holds (l : Launch) {y : ly_T} {A : Nat → Prop} {G : gk_G} {td : Int32} {ru : Nat → Nat → Int32} {fr lv : Nat → Nat} {lt et tl : Nat → Int32} {hf hp : Nat → Option Nat} {ol : Nat → List Nat} {PS : Nat → Prop} {pf : Nat → Nat → Int32} {i : Int32}  (hfl : l.stackTraces = false) (hR : rp y G td ru fr lv lt et tl hf hp ol PS pf) (hHo : ∀ h, h < 4 → ∀ f, hf h = some f → ∃ t, hp h = some t) : gk_M0 l yL_holds (Cond.codeWith yL_holds cL_holds 3 (some .int) [(0, 5, 6, 16)]) 8 160 16 128 y A [.ref (ly_a y 0), .int i] G (fun v G1 => (∃ h z9, h < 4 ∧ i = nI h ∧ ((hf h = none ∧ z9 = -1) ∨ ∃ f t x, f < 5 ∧ hf h = some f ∧ hp h = some t ∧ t_plc (ol f) t x ∧ z9 = 100 * nI f + x) ∧ v = some (.int z9) ∧ G1 = G) ∨ (rg_out i 4 ∧ v = some (.int (-1000001)) ∧ G1 = G)) := by
  refine gk_ofW (cc := cL_holds) (maxL := 3) (ret := (some .int)) (own := RL) (by decide +kernel) rfl rfl (Nat.le_of_ble_eq_true rfl) ?_
  intro p e s m below meth c ls hK hret hlk hex hP hS hl
  have hl : lv_has ls 3 [(0, .ref (ly_a y 0)), (1, .int i)] := hl
  refine lv_aload_n hK.1.1 hK.1.2.1 dL_holds_0 rfl (lv_at hl 0 rfl) ?_
  refine lv_iload_n hK.1.1 hK.1.2.1 dL_holds_1 rfl (lv_at hl 1 rfl) ?_
  refine gk_callV (n := 1) (As := [.int i]) (rest := []) hK (c_X4_holds l hfl hR (i := i) hHo) (gk_gV q_10_15 q_10_16 q_10_17 q_1_2 q_10_18) ⟨rfl, by decide +kernel, by decide +kernel, by decide +kernel⟩ ⟨(Nat.le_of_ble_eq_true rfl), (Nat.le_of_ble_eq_true rfl)⟩ hP hS (gk_recv hK.2.2.1.1 hP hR.1 rfl) rfl hl.1 rfl (Nat.le_of_ble_eq_true rfl) dL_holds_2 ⟨(Nat.le_of_ble_eq_true rfl), (Nat.le_of_ble_eq_true rfl)⟩ (fun E ce q9 G1 H locs hx hP hS h1 h2 h3 => ?_) (fun v G1 H locs hw hP hS => ?_)
  · obtain ⟨rfl, hG9, hx9⟩ := hx
    rw [hG9] at hP
    refine vx_catch (E := "java/lang/IndexOutOfBoundsException") hK.1.2.2.1 [] ⟨0, 5, 6, 16⟩ [] hex (fun z hz => nomatch hz) (by decide) (by decide) (hK.1.2.2.2 _ q_10_14) (gk_castU hK.2.2.1.2.2.1.2.2.2.1.1) h1 h2 h3 ?_
    refine lv_astore_n (lv' := [(2, .ref q9), (0, .ref (ly_a y 0)), (1, .int i)]) hK.1.1 hK.1.2.1 dL_holds_6 rfl hl (by decide) rfl (fun ls hl => ?_)
    refine lv_ldc (v := (-1000001)) hK.1.1 hK.1.2.1 hK.1.2.2.1 (hK.1.2.2.2 _ q_1_4) dL_holds_7 ?_
    exact gk_iret0 hK.1 hret hlk hP hS (Nat.le_of_ble_eq_true rfl) (Nat.le_of_ble_eq_true rfl) dL_holds_9 (Or.inr (⟨hx9, rfl, rfl⟩))
  obtain ⟨h, hh, rfl, hw9, hG9⟩ := hw
  rw [hG9] at hP
  obtain ⟨z9, hxx, rfl⟩ : ∃ z9, ((hf h = none ∧ z9 = -1) ∨ ∃ f t x, f < 5 ∧ hf h = some f ∧ hp h = some t ∧ t_plc (ol f) t x ∧ z9 = 100 * nI f + x) ∧ v = some (.int z9) := hw9.elim (fun ⟨p1, p2⟩ => ⟨_, Or.inl ⟨p1, rfl⟩, p2⟩) (fun ⟨f, t, x, p1, p2, p3, p4, p5⟩ => ⟨_, Or.inr ⟨f, t, x, p1, p2, p3, p4, rfl⟩, p5⟩)
  refine W.eq (g2 := F0 m 5 ls [.int z9]) rfl ?_
  exact gk_iret0 hK.1 hret hlk hP hS (Nat.le_of_ble_eq_true rfl) (Nat.le_of_ble_eq_true rfl) dL_holds_5 (Or.inl (⟨h, z9, hh, rfl, hxx, rfl, rfl⟩))
set_option maxHeartbeats 4000000 in
set_option maxRecDepth 100000 in
theorem c_L_isSqueezed (l : Launch) {y : ly_T} {A : Nat → Prop} {G : gk_G} {td : Int32} {ru : Nat → Nat → Int32} {fr lv : Nat → Nat} {lt et tl : Nat → Int32} {hf hp : Nat → Option Nat} {ol : Nat → List Nat} {PS : Nat → Prop} {pf : Nat → Nat → Int32} {i j : Int32}  (hfl : l.stackTraces = false) (hR : rp y G td ru fr lv lt et tl hf hp ol PS pf) (hin5 : ∀ f, f < 5 → ∀ q ∈ ol f, PS q) (hsq : ∀ t, PS t → pf 2 t = 0 ∨ pf 2 t = 1) : gk_M0 l yL_isSqueezed (Cond.codeWith yL_isSqueezed cL_isSqueezed 4 (some .int) [(0, 14, 15, 16)]) 8 160 16 128 y A [.ref (ly_a y 0), .int i, .int j] G (fun v G1 => (∃ f k t, f < 5 ∧ i = nI f ∧ (ol f)[k]? = some t ∧ j = nI k ∧ v = some (.int (pf 2 t)) ∧ G1 = G) ∨ ((rg_out i 5 ∨ ∃ f, f < 5 ∧ i = nI f ∧ rg_out j (ol f).length) ∧ v = some (.int (-1000001)) ∧ G1 = G)) := by
  refine gk_ofW (cc := cL_isSqueezed) (maxL := 4) (ret := (some .int)) (own := RL) (by decide +kernel) rfl rfl (Nat.le_of_ble_eq_true rfl) ?_
  intro p e s m below meth c ls hK hret hlk hex hP hS hl
  have hl : lv_has ls 4 [(0, .ref (ly_a y 0)), (1, .int i), (2, .int j)] := hl
  refine lv_aload_n hK.1.1 hK.1.2.1 dL_isSqueezed_0 rfl (lv_at hl 0 rfl) ?_
  refine lv_iload_n hK.1.1 hK.1.2.1 dL_isSqueezed_1 rfl (lv_at hl 1 rfl) ?_
  refine lv_iload_n hK.1.1 hK.1.2.1 dL_isSqueezed_2 rfl (lv_at hl 2 rfl) ?_
  refine gk_callV (n := 2) (As := [.int i, .int j]) (rest := []) hK (c_X4_isSqueezed l hfl hR (i := i) (j := j) hin5 hsq) (gk_gV q_16_20 q_16_21 q_16_22 q_1_2 q_16_23) ⟨rfl, by decide +kernel, by decide +kernel, by decide +kernel⟩ ⟨(Nat.le_of_ble_eq_true rfl), (Nat.le_of_ble_eq_true rfl)⟩ hP hS (gk_recv hK.2.2.1.1 hP hR.1 rfl) rfl hl.1 rfl (Nat.le_of_ble_eq_true rfl) dL_isSqueezed_3 ⟨(Nat.le_of_ble_eq_true rfl), (Nat.le_of_ble_eq_true rfl)⟩ (fun E ce q9 G1 H locs hx hP hS h1 h2 h3 => ?_) (fun v G1 H locs hw hP hS => ?_)
  · obtain ⟨rfl, hG9, hx9⟩ := hx
    rw [hG9] at hP
    refine vx_catch (E := "java/lang/IndexOutOfBoundsException") hK.1.2.2.1 [] ⟨0, 14, 15, 16⟩ [] hex (fun z hz => nomatch hz) (by decide) (by decide) (hK.1.2.2.2 _ q_10_14) (gk_castU hK.2.2.1.2.2.1.2.2.2.1.1) h1 h2 h3 ?_
    refine lv_astore_n (lv' := [(3, .ref q9), (0, .ref (ly_a y 0)), (1, .int i), (2, .int j)]) hK.1.1 hK.1.2.1 dL_isSqueezed_15 rfl hl (by decide) rfl (fun ls hl => ?_)
    refine lv_ldc (v := (-1000001)) hK.1.1 hK.1.2.1 hK.1.2.2.1 (hK.1.2.2.2 _ q_1_4) dL_isSqueezed_16 ?_
    exact gk_iret0 hK.1 hret hlk hP hS (Nat.le_of_ble_eq_true rfl) (Nat.le_of_ble_eq_true rfl) dL_isSqueezed_18 (Or.inr (⟨hx9, rfl, rfl⟩))
  obtain ⟨f, k, t, hf5, rfl, htk, rfl, rfl, hG9⟩ := hw
  rw [hG9] at hP
  refine W.eq (g2 := F0 m 6 ls [.int (pf 2 t)]) rfl ?_
  refine lv_if_eq (tgt := 13) hK.1.1 hK.1.2.1 dL_isSqueezed_6 (by decide) (fun c6_1 => ?_) (fun c6_1 => ?_)
  · refine lv_iconst (v := 0) hK.1.1 hK.1.2.1 dL_isSqueezed_13 (by decide) ?_
    exact gk_iret0 hK.1 hret hlk hP hS (Nat.le_of_ble_eq_true rfl) (Nat.le_of_ble_eq_true rfl) dL_isSqueezed_14 (Or.inl (⟨f, k, t, hf5, rfl, htk, rfl, (by rw [c6_1]), rfl⟩))
  · refine lv_iconst (v := 1) hK.1.1 hK.1.2.1 dL_isSqueezed_9 (by decide) ?_
    refine lv_goto (tgt := 14) hK.1.1 hK.1.2.1 dL_isSqueezed_10 (by decide) ?_
    exact gk_iret0 hK.1 hret hlk hP hS (Nat.le_of_ble_eq_true rfl) (Nat.le_of_ble_eq_true rfl) dL_isSqueezed_14 (Or.inl (⟨f, k, t, hf5, rfl, htk, rfl, (by rw [(hsq t (hin5 _ hf5 t (List.mem_of_getElem? htk))).resolve_left c6_1]), rfl⟩))
