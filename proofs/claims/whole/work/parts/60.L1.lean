/-! the law: one call of the class, its exceptions told by a number -/
def lg_z (b : Bool) : Int64 := if b then 1 else 0
set_option maxHeartbeats 4000000 in
set_option maxRecDepth 100000 in
theorem c_L_setDue (l : Launch) {y : ly_T} {A : Nat → Prop} {G : gk_G} {td : Int32} {ru : Nat → Nat → Int32} {fr lv : Nat → Nat} {lt et tl : Nat → Int32} {hf hp : Nat → Option Nat} {ol : Nat → List Nat} {PS : Nat → Prop} {pf : Nat → Nat → Int32} {ov : Int64} {md mq mt : Int32} {mv : Nat → Nat → Int32} {i size wd mo le : Int32}  (hfl : l.stackTraces = false) (hR : rp y G td ru fr lv lt et tl hf hp ol PS pf ov md mq mt mv) : gk_M0 l yL_setDue (Cond.codeWith yL_setDue cL_setDue 7 (some .int) [(0, 11, 14, 13), (0, 11, 18, 15)]) 8 160 16 128 y A [.ref (ly_a y 0), .int i, .int size, .int wd, .int mo, .int le] G (fun v G1 => (∃ r, r < 3 ∧ i = nI r ∧ (rg_in size 0 10000 ∧ rg_in wd (-1) 6 ∧ rg_in mo (-1) 29 ∧ rg_in le 0 100) ∧ v = some (.int 0) ∧ rp y G1 td (rp_u2 (rp_u2 (rp_u2 (rp_u2 ru r 1 size) r 2 wd) r 3 mo) r 4 le) fr lv lt et tl hf hp ol PS pf ov md mq mt mv) ∨ (rg_out i 3 ∧ v = some (.int 1) ∧ rp y G1 td ru fr lv lt et tl hf hp ol PS pf ov md mq mt mv) ∨ ((¬ rg_out i 3 ∧ ¬ (rg_in size 0 10000 ∧ rg_in wd (-1) 6 ∧ rg_in mo (-1) 29 ∧ rg_in le 0 100)) ∧ v = some (.int 2) ∧ rp y G1 td ru fr lv lt et tl hf hp ol PS pf ov md mq mt mv)) := by
  refine gk_ofW (cc := cL_setDue) (maxL := 7) (ret := (some .int)) (own := RL) (by decide +kernel) rfl rfl (Nat.le_of_ble_eq_true rfl) ?_
  intro p e s m below meth c ls hK hret hlk hex hP hS hl
  have hl : lv_has ls 7 [(0, .ref (ly_a y 0)), (1, .int i), (2, .int size), (3, .int wd), (4, .int mo), (5, .int le)] := hl
  refine lv_aload_n hK.1.1 hK.1.2.1 dL_setDue_0 rfl (lv_at hl 0 rfl) ?_
  refine lv_iload_n hK.1.1 hK.1.2.1 dL_setDue_1 rfl (lv_at hl 1 rfl) ?_
  refine lv_iload_n hK.1.1 hK.1.2.1 dL_setDue_2 rfl (lv_at hl 2 rfl) ?_
  refine lv_iload_n hK.1.1 hK.1.2.1 dL_setDue_3 rfl (lv_at hl 3 rfl) ?_
  refine lv_iload hK.1.1 hK.1.2.1 dL_setDue_4 (lv_at hl 4 rfl) ?_
  refine lv_iload hK.1.1 hK.1.2.1 dL_setDue_6 (lv_at hl 5 rfl) ?_
  refine gk_callV (n := 5) (As := [.int i, .int size, .int wd, .int mo, .int le]) (rest := []) hK (c_X4_setDue l hfl hR (i := i) (size := size) (wd := wd) (mo := mo) (le := le)) (gk_gV q_5_4 q_5_5 q_5_6 q_1_2 q_5_7) ⟨rfl, by decide +kernel, by decide +kernel, by decide +kernel⟩ ⟨(Nat.le_of_ble_eq_true rfl), (Nat.le_of_ble_eq_true rfl)⟩ hP hS (gk_recv hK.2.2.1.1 hP hR.1 rfl) rfl hl.1 rfl (Nat.le_of_ble_eq_true rfl) dL_setDue_8 ⟨(Nat.le_of_ble_eq_true rfl), (Nat.le_of_ble_eq_true rfl)⟩ (fun E ce q9 G1 H locs hx hP hS h1 h2 h3 => ?_) (fun v G1 H locs hw hP hS => ?_)
  · rcases hx with ⟨rfl, hG9, hx9⟩ | ⟨rfl, hG9, hx9⟩
    · rw [hG9] at hP
      refine vx_catch (E := "java/lang/IndexOutOfBoundsException") hK.1.2.2.1 [] ⟨0, 11, 14, 13⟩ [⟨0, 11, 18, 15⟩] hex (fun z hz => nomatch hz) (by decide) (by decide) (hK.1.2.2.2 _ q_5_2) (gk_castU hK.2.2.1.2.2.1.2.2.2.1.1) h1 h2 h3 ?_
      refine lv_astore (lv' := [(6, .ref q9), (0, .ref (ly_a y 0)), (1, .int i), (2, .int size), (3, .int wd), (4, .int mo), (5, .int le)]) hK.1.1 hK.1.2.1 dL_setDue_14 hl (by decide) rfl (fun ls hl => ?_)
      refine lv_iconst (v := 1) hK.1.1 hK.1.2.1 dL_setDue_16 (by decide) ?_
      exact gk_iret0 hK.1 hret hlk hP hS (Nat.le_of_ble_eq_true rfl) (Nat.le_of_ble_eq_true rfl) dL_setDue_17 (Or.inr (Or.inl (⟨hx9, rfl, hR⟩)))
    · rw [hG9] at hP
      refine vx_catch (E := "java/lang/IllegalArgumentException") hK.1.2.2.1 [⟨0, 11, 14, 13⟩] ⟨0, 11, 18, 15⟩ [] hex (fun z hz => by rw [List.mem_singleton.mp hz]; exact Or.inr ⟨by decide, _, hK.1.2.2.2 _ q_5_2, hK.2.2.1.2.2.1.2.2.2.2.1.1⟩) (by decide) (by decide) (hK.1.2.2.2 _ q_5_3) (gk_castU hK.2.2.1.2.2.1.2.2.2.1.2.1) h1 h2 h3 ?_
      refine lv_astore (lv' := [(6, .ref q9), (0, .ref (ly_a y 0)), (1, .int i), (2, .int size), (3, .int wd), (4, .int mo), (5, .int le)]) hK.1.1 hK.1.2.1 dL_setDue_18 hl (by decide) rfl (fun ls hl => ?_)
      refine lv_iconst (v := 2) hK.1.1 hK.1.2.1 dL_setDue_20 (by decide) ?_
      exact gk_iret0 hK.1 hret hlk hP hS (Nat.le_of_ble_eq_true rfl) (Nat.le_of_ble_eq_true rfl) dL_setDue_21 (Or.inr (Or.inr (⟨hx9, rfl, hR⟩)))
  obtain ⟨r, hr, rfl, rfl, hok, hR⟩ := hw
  refine W.eq (g2 := F0 m 11 ls []) rfl ?_
  refine lv_goto (tgt := 22) hK.1.1 hK.1.2.1 dL_setDue_11 (by decide) ?_
  refine lv_iconst (v := 0) hK.1.1 hK.1.2.1 dL_setDue_22 (by decide) ?_
  exact gk_iret0 hK.1 hret hlk hP hS (Nat.le_of_ble_eq_true rfl) (Nat.le_of_ble_eq_true rfl) dL_setDue_23 (Or.inl (⟨r, hr, rfl, hok, rfl, hR⟩))
set_option maxHeartbeats 4000000 in
set_option maxRecDepth 100000 in
theorem c_L_setOld (l : Launch) {y : ly_T} {A : Nat → Prop} {G : gk_G} {td : Int32} {ru : Nat → Nat → Int32} {fr lv : Nat → Nat} {lt et tl : Nat → Int32} {hf hp : Nat → Option Nat} {ol : Nat → List Nat} {PS : Nat → Prop} {pf : Nat → Nat → Int32} {ov : Int64} {md mq mt : Int32} {mv : Nat → Nat → Int32} {i kp gr b1 b2 b3 : Int32}  (hfl : l.stackTraces = false) (hR : rp y G td ru fr lv lt et tl hf hp ol PS pf ov md mq mt mv) (hb1 : b1 = 0 ∨ b1 = 1) (hb2 : b2 = 0 ∨ b2 = 1) (hb3 : b3 = 0 ∨ b3 = 1) : gk_M0 l yL_setOld (Cond.codeWith yL_setOld cL_setOld 8 (some .int) [(0, 13, 16, 13), (0, 13, 20, 15)]) 8 160 16 128 y A [.ref (ly_a y 0), .int i, .int kp, .int gr, .int b1, .int b2, .int b3] G (fun v G1 => (∃ r, r < 3 ∧ i = nI r ∧ (rg_in kp 0 10 ∧ rg_in gr 0 1000) ∧ v = some (.int 0) ∧ rp y G1 td (rp_u2 (rp_u2 (rp_u2 (rp_u2 (rp_u2 ru r 5 kp) r 6 gr) r 7 b1) r 8 b2) r 9 b3) fr lv lt et tl hf hp ol PS pf ov md mq mt mv) ∨ (rg_out i 3 ∧ v = some (.int 1) ∧ rp y G1 td ru fr lv lt et tl hf hp ol PS pf ov md mq mt mv) ∨ ((¬ rg_out i 3 ∧ ¬ (rg_in kp 0 10 ∧ rg_in gr 0 1000)) ∧ v = some (.int 2) ∧ rp y G1 td ru fr lv lt et tl hf hp ol PS pf ov md mq mt mv)) := by
  refine gk_ofW (cc := cL_setOld) (maxL := 8) (ret := (some .int)) (own := RL) (by decide +kernel) rfl rfl (Nat.le_of_ble_eq_true rfl) ?_
  intro p e s m below meth c ls hK hret hlk hex hP hS hl
  have hl : lv_has ls 8 [(0, .ref (ly_a y 0)), (1, .int i), (2, .int kp), (3, .int gr), (4, .int b1), (5, .int b2), (6, .int b3)] := hl
  refine lv_aload_n hK.1.1 hK.1.2.1 dL_setOld_0 rfl (lv_at hl 0 rfl) ?_
  refine lv_iload_n hK.1.1 hK.1.2.1 dL_setOld_1 rfl (lv_at hl 1 rfl) ?_
  refine lv_iload_n hK.1.1 hK.1.2.1 dL_setOld_2 rfl (lv_at hl 2 rfl) ?_
  refine lv_iload_n hK.1.1 hK.1.2.1 dL_setOld_3 rfl (lv_at hl 3 rfl) ?_
  refine lv_iload hK.1.1 hK.1.2.1 dL_setOld_4 (lv_at hl 4 rfl) ?_
  refine lv_iload hK.1.1 hK.1.2.1 dL_setOld_6 (lv_at hl 5 rfl) ?_
  refine lv_iload hK.1.1 hK.1.2.1 dL_setOld_8 (lv_at hl 6 rfl) ?_
  refine gk_callV (n := 6) (As := [.int i, .int kp, .int gr, .int b1, .int b2, .int b3]) (rest := []) hK (c_X4_setOld l hfl hR (i := i) (kp := kp) (gr := gr) hb1 hb2 hb3) (gk_gV q_6_21 q_6_22 q_6_23 q_1_2 q_7_0) ⟨rfl, by decide +kernel, by decide +kernel, by decide +kernel⟩ ⟨(Nat.le_of_ble_eq_true rfl), (Nat.le_of_ble_eq_true rfl)⟩ hP hS (gk_recv hK.2.2.1.1 hP hR.1 rfl) rfl hl.1 rfl (Nat.le_of_ble_eq_true rfl) dL_setOld_10 ⟨(Nat.le_of_ble_eq_true rfl), (Nat.le_of_ble_eq_true rfl)⟩ (fun E ce q9 G1 H locs hx hP hS h1 h2 h3 => ?_) (fun v G1 H locs hw hP hS => ?_)
  · rcases hx with ⟨rfl, hG9, hx9⟩ | ⟨rfl, hG9, hx9⟩
    · rw [hG9] at hP
      refine vx_catch (E := "java/lang/IndexOutOfBoundsException") hK.1.2.2.1 [] ⟨0, 13, 16, 13⟩ [⟨0, 13, 20, 15⟩] hex (fun z hz => nomatch hz) (by decide) (by decide) (hK.1.2.2.2 _ q_5_2) (gk_castU hK.2.2.1.2.2.1.2.2.2.1.1) h1 h2 h3 ?_
      refine lv_astore (lv' := [(7, .ref q9), (0, .ref (ly_a y 0)), (1, .int i), (2, .int kp), (3, .int gr), (4, .int b1), (5, .int b2), (6, .int b3)]) hK.1.1 hK.1.2.1 dL_setOld_16 hl (by decide) rfl (fun ls hl => ?_)
      refine lv_iconst (v := 1) hK.1.1 hK.1.2.1 dL_setOld_18 (by decide) ?_
      exact gk_iret0 hK.1 hret hlk hP hS (Nat.le_of_ble_eq_true rfl) (Nat.le_of_ble_eq_true rfl) dL_setOld_19 (Or.inr (Or.inl (⟨hx9, rfl, hR⟩)))
    · rw [hG9] at hP
      refine vx_catch (E := "java/lang/IllegalArgumentException") hK.1.2.2.1 [⟨0, 13, 16, 13⟩] ⟨0, 13, 20, 15⟩ [] hex (fun z hz => by rw [List.mem_singleton.mp hz]; exact Or.inr ⟨by decide, _, hK.1.2.2.2 _ q_5_2, hK.2.2.1.2.2.1.2.2.2.2.1.1⟩) (by decide) (by decide) (hK.1.2.2.2 _ q_5_3) (gk_castU hK.2.2.1.2.2.1.2.2.2.1.2.1) h1 h2 h3 ?_
      refine lv_astore (lv' := [(7, .ref q9), (0, .ref (ly_a y 0)), (1, .int i), (2, .int kp), (3, .int gr), (4, .int b1), (5, .int b2), (6, .int b3)]) hK.1.1 hK.1.2.1 dL_setOld_20 hl (by decide) rfl (fun ls hl => ?_)
      refine lv_iconst (v := 2) hK.1.1 hK.1.2.1 dL_setOld_22 (by decide) ?_
      exact gk_iret0 hK.1 hret hlk hP hS (Nat.le_of_ble_eq_true rfl) (Nat.le_of_ble_eq_true rfl) dL_setOld_23 (Or.inr (Or.inr (⟨hx9, rfl, hR⟩)))
  obtain ⟨r, hr, rfl, rfl, hok, hR⟩ := hw
  refine W.eq (g2 := F0 m 13 ls []) rfl ?_
  refine lv_goto (tgt := 24) hK.1.1 hK.1.2.1 dL_setOld_13 (by decide) ?_
  refine lv_iconst (v := 0) hK.1.1 hK.1.2.1 dL_setOld_24 (by decide) ?_
  exact gk_iret0 hK.1 hret hlk hP hS (Nat.le_of_ble_eq_true rfl) (Nat.le_of_ble_eq_true rfl) dL_setOld_25 (Or.inl (⟨r, hr, rfl, hok, rfl, hR⟩))
set_option maxHeartbeats 4000000 in
set_option maxRecDepth 100000 in
theorem c_L_give (l : Launch) {y : ly_T} {A : Nat → Prop} {G : gk_G} {td : Int32} {ru : Nat → Nat → Int32} {fr lv : Nat → Nat} {lt et tl : Nat → Int32} {hf hp : Nat → Option Nat} {ol : Nat → List Nat} {PS : Nat → Prop} {pf : Nat → Nat → Int32} {ov : Int64} {md mq mt : Int32} {mv : Nat → Nat → Int32} {i j : Int32}  (hfl : l.stackTraces = false) (hR : rp y G td ru fr lv lt et tl hf hp ol PS pf ov md mq mt mv) : gk_M0 l yL_give (Cond.codeWith yL_give cL_give 5 (some .int) [(0, 10, 13, 13)]) 8 160 16 128 y A [.ref (ly_a y 0), .int i, .int j, .ref (ly_a y 4)] G (fun v G1 => (∃ f r, f < 5 ∧ r < 3 ∧ i = nI f ∧ j = nI r ∧ v = some (.int 0) ∧ rp y G1 td ru (va_up fr f r) lv lt et tl hf hp ol PS pf (nI (fr f)).toInt64 md mq mt mv) ∨ ((rg_out i 5 ∨ rg_out j 3) ∧ v = some (.int 1) ∧ rp y G1 td ru fr lv lt et tl hf hp ol PS pf ov md mq mt mv)) := by
  refine gk_ofW (cc := cL_give) (maxL := 5) (ret := (some .int)) (own := RL) (by decide +kernel) rfl rfl (Nat.le_of_ble_eq_true rfl) ?_
  intro p e s m below meth c ls hK hret hlk hex hP hS hl
  have hl : lv_has ls 5 [(0, .ref (ly_a y 0)), (1, .int i), (2, .int j), (3, .ref (ly_a y 4))] := hl
  refine lv_aload_n hK.1.1 hK.1.2.1 dL_give_0 rfl (lv_at hl 3 rfl) ?_
  refine lv_iconst (v := 0) hK.1.1 hK.1.2.1 dL_give_1 (by decide) ?_
  refine lv_aload_n hK.1.1 hK.1.2.1 dL_give_2 rfl (lv_at hl 0 rfl) ?_
  refine lv_iload_n hK.1.1 hK.1.2.1 dL_give_3 rfl (lv_at hl 1 rfl) ?_
  refine lv_iload_n hK.1.1 hK.1.2.1 dL_give_4 rfl (lv_at hl 2 rfl) ?_
  refine gk_callV (n := 2) (As := [.int i, .int j]) (rest := [.int 0, .ref (ly_a y 4)]) hK (c_X4_give l hfl hR (i := i) (j := j)) (gk_gV q_7_13 q_7_14 q_7_15 q_1_2 q_7_16) ⟨rfl, by decide +kernel, by decide +kernel, by decide +kernel⟩ ⟨(Nat.le_of_ble_eq_true rfl), (Nat.le_of_ble_eq_true rfl)⟩ hP hS (gk_recv hK.2.2.1.1 hP hR.1 rfl) rfl hl.1 rfl (Nat.le_of_ble_eq_true rfl) dL_give_5 ⟨(Nat.le_of_ble_eq_true rfl), (Nat.le_of_ble_eq_true rfl)⟩ (fun E ce q9 G1 H locs hx hP hS h1 h2 h3 => ?_) (fun v G1 H locs hw hP hS => ?_)
  · obtain ⟨rfl, hG9, hx9⟩ := hx
    rw [hG9] at hP
    refine vx_catch (E := "java/lang/IndexOutOfBoundsException") hK.1.2.2.1 [] ⟨0, 10, 13, 13⟩ [] hex (fun z hz => nomatch hz) (by decide) (by decide) (hK.1.2.2.2 _ q_5_2) (gk_castU hK.2.2.1.2.2.1.2.2.2.1.1) h1 h2 h3 ?_
    refine lv_astore (lv' := [(4, .ref q9), (0, .ref (ly_a y 0)), (1, .int i), (2, .int j), (3, .ref (ly_a y 4))]) hK.1.1 hK.1.2.1 dL_give_13 hl (by decide) rfl (fun ls hl => ?_)
    refine lv_iconst (v := 1) hK.1.1 hK.1.2.1 dL_give_15 (by decide) ?_
    exact gk_iret0 hK.1 hret hlk hP hS (Nat.le_of_ble_eq_true rfl) (Nat.le_of_ble_eq_true rfl) dL_give_16 (Or.inr (⟨hx9, rfl, hR⟩))
  obtain ⟨f, r, hf5, hr3, rfl, rfl, rfl, hR⟩ := hw
  refine W.eq (g2 := F0 m 8 ls [.int (nI (fr f)), .int 0, .ref (ly_a y 4)]) rfl ?_
  refine lv_i2l hK.1.1 hK.1.2.1 dL_give_8 rfl ?_
  refine lo_put hK hP hS hR dL_give_9 (fun H locs G hP hS hR => ?_)
  refine lv_goto (tgt := 17) hK.1.1 hK.1.2.1 dL_give_10 (by decide) ?_
  refine lv_iconst (v := 0) hK.1.1 hK.1.2.1 dL_give_17 (by decide) ?_
  exact gk_iret0 hK.1 hret hlk hP hS (Nat.le_of_ble_eq_true rfl) (Nat.le_of_ble_eq_true rfl) dL_give_18 (Or.inl (⟨f, r, hf5, hr3, rfl, rfl, rfl, hR⟩))
set_option maxHeartbeats 4000000 in
set_option maxRecDepth 100000 in
theorem c_L_open (l : Launch) {y : ly_T} {A : Nat → Prop} {G : gk_G} {td : Int32} {ru : Nat → Nat → Int32} {fr lv : Nat → Nat} {lt et tl : Nat → Int32} {hf hp : Nat → Option Nat} {ol : Nat → List Nat} {PS : Nat → Prop} {pf : Nat → Nat → Int32} {ov : Int64} {md mq mt : Int32} {mv : Nat → Nat → Int32} {i j : Int32}  (hfl : l.stackTraces = false) (hR : rp y G td ru fr lv lt et tl hf hp ol PS pf ov md mq mt mv) : gk_M0 l yL_open (Cond.codeWith yL_open cL_open 4 (some .int) [(0, 6, 9, 13)]) 8 160 16 128 y A [.ref (ly_a y 0), .int i, .int j] G (fun v G1 => (∃ h f, h < 4 ∧ f < 5 ∧ i = nI h ∧ j = nI f ∧ v = some (.int 0) ∧ rp y G1 td ru fr lv lt et tl (va_up hf h (some f)) (va_up hp h (some (lv f))) ol PS pf ov md mq mt mv) ∨ ((rg_out i 4 ∨ rg_out j 5) ∧ v = some (.int 1) ∧ rp y G1 td ru fr lv lt et tl hf hp ol PS pf ov md mq mt mv)) := by
  refine gk_ofW (cc := cL_open) (maxL := 4) (ret := (some .int)) (own := RL) (by decide +kernel) rfl rfl (Nat.le_of_ble_eq_true rfl) ?_
  intro p e s m below meth c ls hK hret hlk hex hP hS hl
  have hl : lv_has ls 4 [(0, .ref (ly_a y 0)), (1, .int i), (2, .int j)] := hl
  refine lv_aload_n hK.1.1 hK.1.2.1 dL_open_0 rfl (lv_at hl 0 rfl) ?_
  refine lv_iload_n hK.1.1 hK.1.2.1 dL_open_1 rfl (lv_at hl 1 rfl) ?_
  refine lv_iload_n hK.1.1 hK.1.2.1 dL_open_2 rfl (lv_at hl 2 rfl) ?_
  refine gk_callV (n := 2) (As := [.int i, .int j]) (rest := []) hK (c_X4_open l hfl hR (i := i) (j := j)) (gk_gV q_8_9 q_8_10 q_8_11 q_1_2 q_8_12) ⟨rfl, by decide +kernel, by decide +kernel, by decide +kernel⟩ ⟨(Nat.le_of_ble_eq_true rfl), (Nat.le_of_ble_eq_true rfl)⟩ hP hS (gk_recv hK.2.2.1.1 hP hR.1 rfl) rfl hl.1 rfl (Nat.le_of_ble_eq_true rfl) dL_open_3 ⟨(Nat.le_of_ble_eq_true rfl), (Nat.le_of_ble_eq_true rfl)⟩ (fun E ce q9 G1 H locs hx hP hS h1 h2 h3 => ?_) (fun v G1 H locs hw hP hS => ?_)
  · obtain ⟨rfl, hG9, hx9⟩ := hx
    rw [hG9] at hP
    refine vx_catch (E := "java/lang/IndexOutOfBoundsException") hK.1.2.2.1 [] ⟨0, 6, 9, 13⟩ [] hex (fun z hz => nomatch hz) (by decide) (by decide) (hK.1.2.2.2 _ q_5_2) (gk_castU hK.2.2.1.2.2.1.2.2.2.1.1) h1 h2 h3 ?_
    refine lv_astore_n (lv' := [(3, .ref q9), (0, .ref (ly_a y 0)), (1, .int i), (2, .int j)]) hK.1.1 hK.1.2.1 dL_open_9 rfl hl (by decide) rfl (fun ls hl => ?_)
    refine lv_iconst (v := 1) hK.1.1 hK.1.2.1 dL_open_10 (by decide) ?_
    exact gk_iret0 hK.1 hret hlk hP hS (Nat.le_of_ble_eq_true rfl) (Nat.le_of_ble_eq_true rfl) dL_open_11 (Or.inr (⟨hx9, rfl, hR⟩))
  obtain ⟨h, f, hh, hf5, rfl, rfl, rfl, hR⟩ := hw
  refine W.eq (g2 := F0 m 6 ls []) rfl ?_
  refine lv_goto (tgt := 12) hK.1.1 hK.1.2.1 dL_open_6 (by decide) ?_
  refine lv_iconst (v := 0) hK.1.1 hK.1.2.1 dL_open_12 (by decide) ?_
  exact gk_iret0 hK.1 hret hlk hP hS (Nat.le_of_ble_eq_true rfl) (Nat.le_of_ble_eq_true rfl) dL_open_13 (Or.inl (⟨h, f, hh, hf5, rfl, rfl, rfl, hR⟩))
set_option maxHeartbeats 4000000 in
set_option maxRecDepth 100000 in
theorem c_L_shut (l : Launch) {y : ly_T} {A : Nat → Prop} {G : gk_G} {td : Int32} {ru : Nat → Nat → Int32} {fr lv : Nat → Nat} {lt et tl : Nat → Int32} {hf hp : Nat → Option Nat} {ol : Nat → List Nat} {PS : Nat → Prop} {pf : Nat → Nat → Int32} {ov : Int64} {md mq mt : Int32} {mv : Nat → Nat → Int32} {i : Int32}  (hfl : l.stackTraces = false) (hR : rp y G td ru fr lv lt et tl hf hp ol PS pf ov md mq mt mv) : gk_M0 l yL_shut (Cond.codeWith yL_shut cL_shut 4 (some .int) [(0, 16, 19, 13)]) 8 160 16 128 y A [.ref (ly_a y 0), .int i, .ref (ly_a y 4)] G (fun v G1 => (∃ h, h < 4 ∧ i = nI h ∧ v = some (.int 0) ∧ rp y G1 td ru fr lv lt et tl (va_up hf h none) (va_up hp h none) ol PS pf (lg_z ((hp h).isSome)) md mq mt mv) ∨ (rg_out i 4 ∧ v = some (.int 1) ∧ rp y G1 td ru fr lv lt et tl hf hp ol PS pf ov md mq mt mv)) := by
  refine gk_ofW (cc := cL_shut) (maxL := 4) (ret := (some .int)) (own := RL) (by decide +kernel) rfl rfl (Nat.le_of_ble_eq_true rfl) ?_
  intro p e s m below meth c ls hK hret hlk hex hP hS hl
  have hl : lv_has ls 4 [(0, .ref (ly_a y 0)), (1, .int i), (2, .ref (ly_a y 4))] := hl
  refine lv_aload_n hK.1.1 hK.1.2.1 dL_shut_0 rfl (lv_at hl 2 rfl) ?_
  refine lv_iconst (v := 0) hK.1.1 hK.1.2.1 dL_shut_1 (by decide) ?_
  refine lv_aload_n hK.1.1 hK.1.2.1 dL_shut_2 rfl (lv_at hl 0 rfl) ?_
  refine lv_iload_n hK.1.1 hK.1.2.1 dL_shut_3 rfl (lv_at hl 1 rfl) ?_
  refine gk_callV (n := 1) (As := [.int i]) (rest := [.int 0, .ref (ly_a y 4)]) hK (c_X4_shut l hfl hR (i := i)) (gk_gV q_9_6 q_9_7 q_9_8 q_1_2 q_9_9) ⟨rfl, by decide +kernel, by decide +kernel, by decide +kernel⟩ ⟨(Nat.le_of_ble_eq_true rfl), (Nat.le_of_ble_eq_true rfl)⟩ hP hS (gk_recv hK.2.2.1.1 hP hR.1 rfl) rfl hl.1 rfl (Nat.le_of_ble_eq_true rfl) dL_shut_4 ⟨(Nat.le_of_ble_eq_true rfl), (Nat.le_of_ble_eq_true rfl)⟩ (fun E ce q9 G1 H locs hx hP hS h1 h2 h3 => ?_) (fun v G1 H locs hw hP hS => ?_)
  · obtain ⟨rfl, hG9, hx9⟩ := hx
    rw [hG9] at hP
    refine vx_catch (E := "java/lang/IndexOutOfBoundsException") hK.1.2.2.1 [] ⟨0, 16, 19, 13⟩ [] hex (fun z hz => nomatch hz) (by decide) (by decide) (hK.1.2.2.2 _ q_5_2) (gk_castU hK.2.2.1.2.2.1.2.2.2.1.1) h1 h2 h3 ?_
    refine lv_astore_n (lv' := [(3, .ref q9), (0, .ref (ly_a y 0)), (1, .int i), (2, .ref (ly_a y 4))]) hK.1.1 hK.1.2.1 dL_shut_19 rfl hl (by decide) rfl (fun ls hl => ?_)
    refine lv_iconst (v := 1) hK.1.1 hK.1.2.1 dL_shut_20 (by decide) ?_
    exact gk_iret0 hK.1 hret hlk hP hS (Nat.le_of_ble_eq_true rfl) (Nat.le_of_ble_eq_true rfl) dL_shut_21 (Or.inr (⟨hx9, rfl, hR⟩))
  obtain ⟨h, hh, rfl, rfl, hR⟩ := hw
  refine W.eq (g2 := F0 m 7 ls [.int (rg_b (hp h).isSome), .int 0, .ref (ly_a y 4)]) rfl ?_
  refine lv_if_eq (tgt := 14) hK.1.1 hK.1.2.1 dL_shut_7 (by decide) (fun c7_1 => ?_) (fun c7_1 => ?_)
  · refine lv_lconst (v := 0) hK.1.1 hK.1.2.1 dL_shut_14 (by decide) ?_
    refine lo_put hK hP hS hR dL_shut_15 (fun H locs G hP hS hR => ?_)
    refine lv_goto (tgt := 22) hK.1.1 hK.1.2.1 dL_shut_16 (by decide) ?_
    refine lv_iconst (v := 0) hK.1.1 hK.1.2.1 dL_shut_22 (by decide) ?_
    exact gk_iret0 hK.1 hret hlk hP hS (Nat.le_of_ble_eq_true rfl) (Nat.le_of_ble_eq_true rfl) dL_shut_23 (Or.inl (⟨h, hh, rfl, rfl, (by rw [show lg_z ((hp h).isSome) = 0 by rw [rg_b0.mp c7_1]; rfl]; exact hR)⟩))
  · refine lv_lconst (v := 1) hK.1.1 hK.1.2.1 dL_shut_10 (by decide) ?_
    refine lv_goto (tgt := 15) hK.1.1 hK.1.2.1 dL_shut_11 (by decide) ?_
    refine lo_put hK hP hS hR dL_shut_15 (fun H locs G hP hS hR => ?_)
    refine lv_goto (tgt := 22) hK.1.1 hK.1.2.1 dL_shut_16 (by decide) ?_
    refine lv_iconst (v := 0) hK.1.1 hK.1.2.1 dL_shut_22 (by decide) ?_
    exact gk_iret0 hK.1 hret hlk hP hS (Nat.le_of_ble_eq_true rfl) (Nat.le_of_ble_eq_true rfl) dL_shut_23 (Or.inl (⟨h, hh, rfl, rfl, (by rw [show lg_z ((hp h).isSome) = 1 by rw [rg_bt c7_1]; rfl]; exact hR)⟩))
set_option maxHeartbeats 4000000 in
set_option maxRecDepth 100000 in
theorem c_L_tell (l : Launch) {y : ly_T} {A : Nat → Prop} {G : gk_G} {td : Int32} {ru : Nat → Nat → Int32} {fr lv : Nat → Nat} {lt et tl : Nat → Int32} {hf hp : Nat → Option Nat} {ol : Nat → List Nat} {PS : Nat → Prop} {pf : Nat → Nat → Int32} {ov : Int64} {md mq mt : Int32} {mv : Nat → Nat → Int32} {i : Int32}  (hfl : l.stackTraces = false) (hR : rp y G td ru fr lv lt et tl hf hp ol PS pf ov md mq mt mv) : gk_M0 l yL_tell (Cond.codeWith yL_tell cL_tell 4 (some .int) [(0, 16, 19, 13), (0, 16, 22, 36)]) 8 160 16 128 y A [.ref (ly_a y 0), .int i, .ref (ly_a y 4)] G (fun v G1 => (∃ h f, h < 4 ∧ f < 5 ∧ i = nI h ∧ hf h = some f ∧ v = some (.int 0) ∧ rp y G1 td ru fr lv lt et tl hf (va_up hp h (some (lv f))) ol PS pf (lg_z (decide (¬ hp h = some (lv f)))) md mq mt mv) ∨ (rg_out i 4 ∧ v = some (.int 1) ∧ rp y G1 td ru fr lv lt et tl hf hp ol PS pf ov md mq mt mv) ∨ ((∃ h, h < 4 ∧ i = nI h ∧ hf h = none) ∧ v = some (.int 2) ∧ rp y G1 td ru fr lv lt et tl hf hp ol PS pf ov md mq mt mv)) := by
  refine gk_ofW (cc := cL_tell) (maxL := 4) (ret := (some .int)) (own := RL) (by decide +kernel) rfl rfl (Nat.le_of_ble_eq_true rfl) ?_
  intro p e s m below meth c ls hK hret hlk hex hP hS hl
  have hl : lv_has ls 4 [(0, .ref (ly_a y 0)), (1, .int i), (2, .ref (ly_a y 4))] := hl
  refine lv_aload_n hK.1.1 hK.1.2.1 dL_tell_0 rfl (lv_at hl 2 rfl) ?_
  refine lv_iconst (v := 0) hK.1.1 hK.1.2.1 dL_tell_1 (by decide) ?_
  refine lv_aload_n hK.1.1 hK.1.2.1 dL_tell_2 rfl (lv_at hl 0 rfl) ?_
  refine lv_iload_n hK.1.1 hK.1.2.1 dL_tell_3 rfl (lv_at hl 1 rfl) ?_
  refine gk_callV (n := 1) (As := [.int i]) (rest := [.int 0, .ref (ly_a y 4)]) hK (c_X4_tell l hfl hR (i := i)) (gk_gV q_9_18 q_9_19 q_9_20 q_1_2 q_9_21) ⟨rfl, by decide +kernel, by decide +kernel, by decide +kernel⟩ ⟨(Nat.le_of_ble_eq_true rfl), (Nat.le_of_ble_eq_true rfl)⟩ hP hS (gk_recv hK.2.2.1.1 hP hR.1 rfl) rfl hl.1 rfl (Nat.le_of_ble_eq_true rfl) dL_tell_4 ⟨(Nat.le_of_ble_eq_true rfl), (Nat.le_of_ble_eq_true rfl)⟩ (fun E ce q9 G1 H locs hx hP hS h1 h2 h3 => ?_) (fun v G1 H locs hw hP hS => ?_)
  · rcases hx with ⟨rfl, hG9, hx9⟩ | ⟨rfl, hG9, hx9⟩
    · rw [hG9] at hP
      refine vx_catch (E := "java/lang/IndexOutOfBoundsException") hK.1.2.2.1 [] ⟨0, 16, 19, 13⟩ [⟨0, 16, 22, 36⟩] hex (fun z hz => nomatch hz) (by decide) (by decide) (hK.1.2.2.2 _ q_5_2) (gk_castU hK.2.2.1.2.2.1.2.2.2.1.1) h1 h2 h3 ?_
      refine lv_astore_n (lv' := [(3, .ref q9), (0, .ref (ly_a y 0)), (1, .int i), (2, .ref (ly_a y 4))]) hK.1.1 hK.1.2.1 dL_tell_19 rfl hl (by decide) rfl (fun ls hl => ?_)
      refine lv_iconst (v := 1) hK.1.1 hK.1.2.1 dL_tell_20 (by decide) ?_
      exact gk_iret0 hK.1 hret hlk hP hS (Nat.le_of_ble_eq_true rfl) (Nat.le_of_ble_eq_true rfl) dL_tell_21 (Or.inr (Or.inl (⟨hx9, rfl, hR⟩)))
    · rw [hG9] at hP
      refine vx_catch (E := "java/lang/IllegalStateException") hK.1.2.2.1 [⟨0, 16, 19, 13⟩] ⟨0, 16, 22, 36⟩ [] hex (fun z hz => by rw [List.mem_singleton.mp hz]; exact Or.inr ⟨by decide, _, hK.1.2.2.2 _ q_5_2, hK.2.2.1.2.2.1.2.2.2.2.1.2.1⟩) (by decide) (by decide) (hK.1.2.2.2 _ q_9_17) (gk_castU hK.2.2.1.2.2.1.2.2.2.1.2.2.1) h1 h2 h3 ?_
      refine lv_astore_n (lv' := [(3, .ref q9), (0, .ref (ly_a y 0)), (1, .int i), (2, .ref (ly_a y 4))]) hK.1.1 hK.1.2.1 dL_tell_22 rfl hl (by decide) rfl (fun ls hl => ?_)
      refine lv_iconst (v := 2) hK.1.1 hK.1.2.1 dL_tell_23 (by decide) ?_
      exact gk_iret0 hK.1 hret hlk hP hS (Nat.le_of_ble_eq_true rfl) (Nat.le_of_ble_eq_true rfl) dL_tell_24 (Or.inr (Or.inr (⟨hx9, rfl, hR⟩)))
  obtain ⟨h, f, hh, hf5, rfl, hfh, rfl, hR⟩ := hw
  refine W.eq (g2 := F0 m 7 ls [.int (rg_b (decide (¬ hp h = some (lv f)))), .int 0, .ref (ly_a y 4)]) rfl ?_
  refine lv_if_eq (tgt := 14) hK.1.1 hK.1.2.1 dL_tell_7 (by decide) (fun c7_1 => ?_) (fun c7_1 => ?_)
  · refine lv_lconst (v := 0) hK.1.1 hK.1.2.1 dL_tell_14 (by decide) ?_
    refine lo_put hK hP hS hR dL_tell_15 (fun H locs G hP hS hR => ?_)
    refine lv_goto (tgt := 25) hK.1.1 hK.1.2.1 dL_tell_16 (by decide) ?_
    refine lv_iconst (v := 0) hK.1.1 hK.1.2.1 dL_tell_25 (by decide) ?_
    exact gk_iret0 hK.1 hret hlk hP hS (Nat.le_of_ble_eq_true rfl) (Nat.le_of_ble_eq_true rfl) dL_tell_26 (Or.inl (⟨h, f, hh, hf5, rfl, hfh, rfl, (by rw [show lg_z (decide (¬ hp h = some (lv f))) = 0 by rw [rg_b0.mp c7_1]; rfl]; exact hR)⟩))
  · refine lv_lconst (v := 1) hK.1.1 hK.1.2.1 dL_tell_10 (by decide) ?_
    refine lv_goto (tgt := 15) hK.1.1 hK.1.2.1 dL_tell_11 (by decide) ?_
    refine lo_put hK hP hS hR dL_tell_15 (fun H locs G hP hS hR => ?_)
    refine lv_goto (tgt := 25) hK.1.1 hK.1.2.1 dL_tell_16 (by decide) ?_
    refine lv_iconst (v := 0) hK.1.1 hK.1.2.1 dL_tell_25 (by decide) ?_
    exact gk_iret0 hK.1 hret hlk hP hS (Nat.le_of_ble_eq_true rfl) (Nat.le_of_ble_eq_true rfl) dL_tell_26 (Or.inl (⟨h, f, hh, hf5, rfl, hfh, rfl, (by rw [show lg_z (decide (¬ hp h = some (lv f))) = 1 by rw [rg_bt c7_1]; rfl]; exact hR)⟩))
set_option maxHeartbeats 4000000 in
set_option maxRecDepth 100000 in
theorem c_L_write (l : Launch) {y : ly_T} {A : Nat → Prop} {G : gk_G} {td : Int32} {ru : Nat → Nat → Int32} {fr lv : Nat → Nat} {lt et tl : Nat → Int32} {hf hp : Nat → Option Nat} {ol : Nat → List Nat} {PS : Nat → Prop} {pf : Nat → Nat → Int32} {ov : Int64} {md mq mt : Int32} {mv : Nat → Nat → Int32} {i n : Int32}  (hfl : l.stackTraces = false) (hR : rp y G td ru fr lv lt et tl hf hp ol PS pf ov md mq mt mv) (hLp : ∀ h, h < 4 → ∀ t, hp h = some t → PS t) : gk_M0 l yL_write (Cond.codeWith yL_write cL_write 5 (some .int) [(0, 10, 13, 13), (0, 10, 17, 15), (0, 10, 21, 36)]) 8 160 16 128 y A [.ref (ly_a y 0), .int i, .int n, .ref (ly_a y 4)] G (fun v G1 => (∃ h t, h < 4 ∧ i = nI h ∧ hp h = some t ∧ rg_in n 1 1000 ∧ v = some (.int 0) ∧ rp y G1 td ru fr lv lt et tl hf hp ol PS (rp_u2 pf 0 t (pf 0 t + n)) (pf 0 t + n).toInt64 md mq mt mv) ∨ (rg_out i 4 ∧ v = some (.int 1) ∧ rp y G1 td ru fr lv lt et tl hf hp ol PS pf ov md mq mt mv) ∨ ((¬ rg_out i 4 ∧ ¬ rg_in n 1 1000) ∧ v = some (.int 2) ∧ rp y G1 td ru fr lv lt et tl hf hp ol PS pf ov md mq mt mv) ∨ ((rg_in n 1 1000 ∧ ∃ h, h < 4 ∧ i = nI h ∧ hp h = none) ∧ v = some (.int 3) ∧ rp y G1 td ru fr lv lt et tl hf hp ol PS pf ov md mq mt mv)) := by
  refine gk_ofW (cc := cL_write) (maxL := 5) (ret := (some .int)) (own := RL) (by decide +kernel) rfl rfl (Nat.le_of_ble_eq_true rfl) ?_
  intro p e s m below meth c ls hK hret hlk hex hP hS hl
  have hl : lv_has ls 5 [(0, .ref (ly_a y 0)), (1, .int i), (2, .int n), (3, .ref (ly_a y 4))] := hl
  refine lv_aload_n hK.1.1 hK.1.2.1 dL_write_0 rfl (lv_at hl 3 rfl) ?_
  refine lv_iconst (v := 0) hK.1.1 hK.1.2.1 dL_write_1 (by decide) ?_
  refine lv_aload_n hK.1.1 hK.1.2.1 dL_write_2 rfl (lv_at hl 0 rfl) ?_
  refine lv_iload_n hK.1.1 hK.1.2.1 dL_write_3 rfl (lv_at hl 1 rfl) ?_
  refine lv_iload_n hK.1.1 hK.1.2.1 dL_write_4 rfl (lv_at hl 2 rfl) ?_
  refine gk_callV (n := 2) (As := [.int i, .int n]) (rest := [.int 0, .ref (ly_a y 4)]) hK (c_X4_write l hfl hR (i := i) (n := n) hLp) (gk_gV q_10_7 q_10_8 q_10_9 q_1_2 q_10_10) ⟨rfl, by decide +kernel, by decide +kernel, by decide +kernel⟩ ⟨(Nat.le_of_ble_eq_true rfl), (Nat.le_of_ble_eq_true rfl)⟩ hP hS (gk_recv hK.2.2.1.1 hP hR.1 rfl) rfl hl.1 rfl (Nat.le_of_ble_eq_true rfl) dL_write_5 ⟨(Nat.le_of_ble_eq_true rfl), (Nat.le_of_ble_eq_true rfl)⟩ (fun E ce q9 G1 H locs hx hP hS h1 h2 h3 => ?_) (fun v G1 H locs hw hP hS => ?_)
  · rcases hx with ⟨rfl, hG9, hx9⟩ | ⟨rfl, hG9, hx9⟩ | ⟨rfl, hG9, hx9⟩
    · rw [hG9] at hP
      refine vx_catch (E := "java/lang/IndexOutOfBoundsException") hK.1.2.2.1 [] ⟨0, 10, 13, 13⟩ [⟨0, 10, 17, 15⟩, ⟨0, 10, 21, 36⟩] hex (fun z hz => nomatch hz) (by decide) (by decide) (hK.1.2.2.2 _ q_5_2) (gk_castU hK.2.2.1.2.2.1.2.2.2.1.1) h1 h2 h3 ?_
      refine lv_astore (lv' := [(4, .ref q9), (0, .ref (ly_a y 0)), (1, .int i), (2, .int n), (3, .ref (ly_a y 4))]) hK.1.1 hK.1.2.1 dL_write_13 hl (by decide) rfl (fun ls hl => ?_)
      refine lv_iconst (v := 1) hK.1.1 hK.1.2.1 dL_write_15 (by decide) ?_
      exact gk_iret0 hK.1 hret hlk hP hS (Nat.le_of_ble_eq_true rfl) (Nat.le_of_ble_eq_true rfl) dL_write_16 (Or.inr (Or.inl (⟨hx9, rfl, hR⟩)))
    · rw [hG9] at hP
      refine vx_catch (E := "java/lang/IllegalArgumentException") hK.1.2.2.1 [⟨0, 10, 13, 13⟩] ⟨0, 10, 17, 15⟩ [⟨0, 10, 21, 36⟩] hex (fun z hz => by rw [List.mem_singleton.mp hz]; exact Or.inr ⟨by decide, _, hK.1.2.2.2 _ q_5_2, hK.2.2.1.2.2.1.2.2.2.2.1.1⟩) (by decide) (by decide) (hK.1.2.2.2 _ q_5_3) (gk_castU hK.2.2.1.2.2.1.2.2.2.1.2.1) h1 h2 h3 ?_
      refine lv_astore (lv' := [(4, .ref q9), (0, .ref (ly_a y 0)), (1, .int i), (2, .int n), (3, .ref (ly_a y 4))]) hK.1.1 hK.1.2.1 dL_write_17 hl (by decide) rfl (fun ls hl => ?_)
      refine lv_iconst (v := 2) hK.1.1 hK.1.2.1 dL_write_19 (by decide) ?_
      exact gk_iret0 hK.1 hret hlk hP hS (Nat.le_of_ble_eq_true rfl) (Nat.le_of_ble_eq_true rfl) dL_write_20 (Or.inr (Or.inr (Or.inl (⟨hx9, rfl, hR⟩))))
    · rw [hG9] at hP
      refine vx_catch (E := "java/lang/IllegalStateException") hK.1.2.2.1 [⟨0, 10, 13, 13⟩, ⟨0, 10, 17, 15⟩] ⟨0, 10, 21, 36⟩ [] hex (fun z hz => by rcases List.mem_cons.mp hz with h | h; (rw [h]; exact Or.inr ⟨by decide, _, hK.1.2.2.2 _ q_5_2, hK.2.2.1.2.2.1.2.2.2.2.1.2.1⟩); (rw [List.mem_singleton.mp h]; exact Or.inr ⟨by decide, _, hK.1.2.2.2 _ q_5_3, hK.2.2.1.2.2.1.2.2.2.2.1.2.2⟩)) (by decide) (by decide) (hK.1.2.2.2 _ q_9_17) (gk_castU hK.2.2.1.2.2.1.2.2.2.1.2.2.1) h1 h2 h3 ?_
      refine lv_astore (lv' := [(4, .ref q9), (0, .ref (ly_a y 0)), (1, .int i), (2, .int n), (3, .ref (ly_a y 4))]) hK.1.1 hK.1.2.1 dL_write_21 hl (by decide) rfl (fun ls hl => ?_)
      refine lv_iconst (v := 3) hK.1.1 hK.1.2.1 dL_write_23 (by decide) ?_
      exact gk_iret0 hK.1 hret hlk hP hS (Nat.le_of_ble_eq_true rfl) (Nat.le_of_ble_eq_true rfl) dL_write_24 (Or.inr (Or.inr (Or.inr (⟨hx9, rfl, hR⟩))))
  obtain ⟨h, t, hh, rfl, hht, hok, rfl, hR⟩ := hw
  refine W.eq (g2 := F0 m 8 ls [.int (pf 0 t + n), .int 0, .ref (ly_a y 4)]) rfl ?_
  refine lv_i2l hK.1.1 hK.1.2.1 dL_write_8 rfl ?_
  refine lo_put hK hP hS hR dL_write_9 (fun H locs G hP hS hR => ?_)
  refine lv_goto (tgt := 25) hK.1.1 hK.1.2.1 dL_write_10 (by decide) ?_
  refine lv_iconst (v := 0) hK.1.1 hK.1.2.1 dL_write_25 (by decide) ?_
  exact gk_iret0 hK.1 hret hlk hP hS (Nat.le_of_ble_eq_true rfl) (Nat.le_of_ble_eq_true rfl) dL_write_26 (Or.inl (⟨h, t, hh, rfl, hht, hok, rfl, hR⟩))
set_option maxHeartbeats 4000000 in
set_option maxRecDepth 100000 in
theorem c_L_advance (l : Launch) {y : ly_T} {A : Nat → Prop} {G : gk_G} {td : Int32} {ru : Nat → Nat → Int32} {fr lv : Nat → Nat} {lt et tl : Nat → Int32} {hf hp : Nat → Option Nat} {ol : Nat → List Nat} {PS : Nat → Prop} {pf : Nat → Nat → Int32} {ov : Int64} {md mq mt : Int32} {mv : Nat → Nat → Int32} {n : Int32}  (hfl : l.stackTraces = false) (hR : rp y G td ru fr lv lt et tl hf hp ol PS pf ov md mq mt mv) : gk_M0 l yL_advance (Cond.codeWith yL_advance cL_advance 4 (some .int) [(0, 9, 12, 15), (0, 9, 15, 36)]) 8 160 16 128 y A [.ref (ly_a y 0), .int n, .ref (ly_a y 4)] G (fun v G1 => (rg_in n 1 100 ∧ td + n ≤ 5000 ∧ v = some (.int 0) ∧ rp y G1 (td + n) ru fr lv lt et tl hf hp ol PS pf (td + n).toInt64 md mq mt mv) ∨ ((¬ rg_in n 1 100) ∧ v = some (.int 1) ∧ rp y G1 td ru fr lv lt et tl hf hp ol PS pf ov md mq mt mv) ∨ ((rg_in n 1 100 ∧ ¬ td + n ≤ 5000) ∧ v = some (.int 2) ∧ rp y G1 td ru fr lv lt et tl hf hp ol PS pf ov md mq mt mv)) := by
  refine gk_ofW (cc := cL_advance) (maxL := 4) (ret := (some .int)) (own := RL) (by decide +kernel) rfl rfl (Nat.le_of_ble_eq_true rfl) ?_
  intro p e s m below meth c ls hK hret hlk hex hP hS hl
  have hl : lv_has ls 4 [(0, .ref (ly_a y 0)), (1, .int n), (2, .ref (ly_a y 4))] := hl
  refine lv_aload_n hK.1.1 hK.1.2.1 dL_advance_0 rfl (lv_at hl 2 rfl) ?_
  refine lv_iconst (v := 0) hK.1.1 hK.1.2.1 dL_advance_1 (by decide) ?_
  refine lv_aload_n hK.1.1 hK.1.2.1 dL_advance_2 rfl (lv_at hl 0 rfl) ?_
  refine lv_iload_n hK.1.1 hK.1.2.1 dL_advance_3 rfl (lv_at hl 1 rfl) ?_
  refine gk_callV (n := 1) (As := [.int n]) (rest := [.int 0, .ref (ly_a y 4)]) hK (c_X4_advance l hfl hR (n := n)) (gk_gV q_10_19 q_10_20 q_10_21 q_1_2 q_10_22) ⟨rfl, by decide +kernel, by decide +kernel, by decide +kernel⟩ ⟨(Nat.le_of_ble_eq_true rfl), (Nat.le_of_ble_eq_true rfl)⟩ hP hS (gk_recv hK.2.2.1.1 hP hR.1 rfl) rfl hl.1 rfl (Nat.le_of_ble_eq_true rfl) dL_advance_4 ⟨(Nat.le_of_ble_eq_true rfl), (Nat.le_of_ble_eq_true rfl)⟩ (fun E ce q9 G1 H locs hx hP hS h1 h2 h3 => ?_) (fun v G1 H locs hw hP hS => ?_)
  · rcases hx with ⟨rfl, hG9, hx9⟩ | ⟨rfl, hG9, hx9⟩
    · rw [hG9] at hP
      refine vx_catch (E := "java/lang/IllegalArgumentException") hK.1.2.2.1 [] ⟨0, 9, 12, 15⟩ [⟨0, 9, 15, 36⟩] hex (fun z hz => nomatch hz) (by decide) (by decide) (hK.1.2.2.2 _ q_5_3) (gk_castU hK.2.2.1.2.2.1.2.2.2.1.2.1) h1 h2 h3 ?_
      refine lv_astore_n (lv' := [(3, .ref q9), (0, .ref (ly_a y 0)), (1, .int n), (2, .ref (ly_a y 4))]) hK.1.1 hK.1.2.1 dL_advance_12 rfl hl (by decide) rfl (fun ls hl => ?_)
      refine lv_iconst (v := 1) hK.1.1 hK.1.2.1 dL_advance_13 (by decide) ?_
      exact gk_iret0 hK.1 hret hlk hP hS (Nat.le_of_ble_eq_true rfl) (Nat.le_of_ble_eq_true rfl) dL_advance_14 (Or.inr (Or.inl (⟨hx9, rfl, hR⟩)))
    · rw [hG9] at hP
      refine vx_catch (E := "java/lang/IllegalStateException") hK.1.2.2.1 [⟨0, 9, 12, 15⟩] ⟨0, 9, 15, 36⟩ [] hex (fun z hz => by rw [List.mem_singleton.mp hz]; exact Or.inr ⟨by decide, _, hK.1.2.2.2 _ q_5_3, hK.2.2.1.2.2.1.2.2.2.2.1.2.2⟩) (by decide) (by decide) (hK.1.2.2.2 _ q_9_17) (gk_castU hK.2.2.1.2.2.1.2.2.2.1.2.2.1) h1 h2 h3 ?_
      refine lv_astore_n (lv' := [(3, .ref q9), (0, .ref (ly_a y 0)), (1, .int n), (2, .ref (ly_a y 4))]) hK.1.1 hK.1.2.1 dL_advance_15 rfl hl (by decide) rfl (fun ls hl => ?_)
      refine lv_iconst (v := 2) hK.1.1 hK.1.2.1 dL_advance_16 (by decide) ?_
      exact gk_iret0 hK.1 hret hlk hP hS (Nat.le_of_ble_eq_true rfl) (Nat.le_of_ble_eq_true rfl) dL_advance_17 (Or.inr (Or.inr (⟨hx9, rfl, hR⟩)))
  obtain ⟨hok, hle, rfl, hR⟩ := hw
  refine W.eq (g2 := F0 m 7 ls [.int (td + n), .int 0, .ref (ly_a y 4)]) rfl ?_
  refine lv_i2l hK.1.1 hK.1.2.1 dL_advance_7 rfl ?_
  refine lo_put hK hP hS hR dL_advance_8 (fun H locs G hP hS hR => ?_)
  refine lv_goto (tgt := 18) hK.1.1 hK.1.2.1 dL_advance_9 (by decide) ?_
  refine lv_iconst (v := 0) hK.1.1 hK.1.2.1 dL_advance_18 (by decide) ?_
  exact gk_iret0 hK.1 hret hlk hP hS (Nat.le_of_ble_eq_true rfl) (Nat.le_of_ble_eq_true rfl) dL_advance_19 (Or.inl (⟨hok, hle, rfl, hR⟩))
set_option maxHeartbeats 4000000 in
set_option maxRecDepth 100000 in
theorem c_L_live (l : Launch) {y : ly_T} {A : Nat → Prop} {G : gk_G} {td : Int32} {ru : Nat → Nat → Int32} {fr lv : Nat → Nat} {lt et tl : Nat → Int32} {hf hp : Nat → Option Nat} {ol : Nat → List Nat} {PS : Nat → Prop} {pf : Nat → Nat → Int32} {ov : Int64} {md mq mt : Int32} {mv : Nat → Nat → Int32} {i : Int32}  (hfl : l.stackTraces = false) (hR : rp y G td ru fr lv lt et tl hf hp ol PS pf ov md mq mt mv) (hLl : ∀ f, f < 5 → PS (lv f)) : gk_M0 l yL_live (Cond.codeWith yL_live cL_live 4 (some .int) [(0, 9, 12, 13)]) 8 160 16 128 y A [.ref (ly_a y 0), .int i, .ref (ly_a y 4)] G (fun v G1 => (∃ f, f < 5 ∧ i = nI f ∧ v = some (.int 0) ∧ rp y G1 td ru fr lv lt et tl hf hp ol PS pf (pf 0 (lv f)).toInt64 md mq mt mv) ∨ (rg_out i 5 ∧ v = some (.int 1) ∧ rp y G1 td ru fr lv lt et tl hf hp ol PS pf ov md mq mt mv)) := by
  refine gk_ofW (cc := cL_live) (maxL := 4) (ret := (some .int)) (own := RL) (by decide +kernel) rfl rfl (Nat.le_of_ble_eq_true rfl) ?_
  intro p e s m below meth c ls hK hret hlk hex hP hS hl
  have hl : lv_has ls 4 [(0, .ref (ly_a y 0)), (1, .int i), (2, .ref (ly_a y 4))] := hl
  refine lv_aload_n hK.1.1 hK.1.2.1 dL_live_0 rfl (lv_at hl 2 rfl) ?_
  refine lv_iconst (v := 0) hK.1.1 hK.1.2.1 dL_live_1 (by decide) ?_
  refine lv_aload_n hK.1.1 hK.1.2.1 dL_live_2 rfl (lv_at hl 0 rfl) ?_
  refine lv_iload_n hK.1.1 hK.1.2.1 dL_live_3 rfl (lv_at hl 1 rfl) ?_
  refine gk_callV (n := 1) (As := [.int i]) (rest := [.int 0, .ref (ly_a y 4)]) hK (c_X4_live l hfl hR (i := i) hLl) (gk_gV q_20_14 q_20_15 q_20_16 q_1_2 q_20_17) ⟨rfl, by decide +kernel, by decide +kernel, by decide +kernel⟩ ⟨(Nat.le_of_ble_eq_true rfl), (Nat.le_of_ble_eq_true rfl)⟩ hP hS (gk_recv hK.2.2.1.1 hP hR.1 rfl) rfl hl.1 rfl (Nat.le_of_ble_eq_true rfl) dL_live_4 ⟨(Nat.le_of_ble_eq_true rfl), (Nat.le_of_ble_eq_true rfl)⟩ (fun E ce q9 G1 H locs hx hP hS h1 h2 h3 => ?_) (fun v G1 H locs hw hP hS => ?_)
  · obtain ⟨rfl, hG9, hx9⟩ := hx
    rw [hG9] at hP
    refine vx_catch (E := "java/lang/IndexOutOfBoundsException") hK.1.2.2.1 [] ⟨0, 9, 12, 13⟩ [] hex (fun z hz => nomatch hz) (by decide) (by decide) (hK.1.2.2.2 _ q_5_2) (gk_castU hK.2.2.1.2.2.1.2.2.2.1.1) h1 h2 h3 ?_
    refine lv_astore_n (lv' := [(3, .ref q9), (0, .ref (ly_a y 0)), (1, .int i), (2, .ref (ly_a y 4))]) hK.1.1 hK.1.2.1 dL_live_12 rfl hl (by decide) rfl (fun ls hl => ?_)
    refine lv_iconst (v := 1) hK.1.1 hK.1.2.1 dL_live_13 (by decide) ?_
    exact gk_iret0 hK.1 hret hlk hP hS (Nat.le_of_ble_eq_true rfl) (Nat.le_of_ble_eq_true rfl) dL_live_14 (Or.inr (⟨hx9, rfl, hR⟩))
  obtain ⟨f, hf5, rfl, rfl, hG9⟩ := hw
  rw [hG9] at hP
  refine W.eq (g2 := F0 m 7 ls [.int (pf 0 (lv f)), .int 0, .ref (ly_a y 4)]) rfl ?_
  refine lv_i2l hK.1.1 hK.1.2.1 dL_live_7 rfl ?_
  refine lo_put hK hP hS hR dL_live_8 (fun H locs G hP hS hR => ?_)
  refine lv_goto (tgt := 15) hK.1.1 hK.1.2.1 dL_live_9 (by decide) ?_
  refine lv_iconst (v := 0) hK.1.1 hK.1.2.1 dL_live_15 (by decide) ?_
  exact gk_iret0 hK.1 hret hlk hP hS (Nat.le_of_ble_eq_true rfl) (Nat.le_of_ble_eq_true rfl) dL_live_16 (Or.inl (⟨f, hf5, rfl, rfl, hR⟩))
set_option maxHeartbeats 4000000 in
set_option maxRecDepth 100000 in
theorem c_L_olds (l : Launch) {y : ly_T} {A : Nat → Prop} {G : gk_G} {td : Int32} {ru : Nat → Nat → Int32} {fr lv : Nat → Nat} {lt et tl : Nat → Int32} {hf hp : Nat → Option Nat} {ol : Nat → List Nat} {PS : Nat → Prop} {pf : Nat → Nat → Int32} {ov : Int64} {md mq mt : Int32} {mv : Nat → Nat → Int32} {i : Int32}  (hfl : l.stackTraces = false) (hR : rp y G td ru fr lv lt et tl hf hp ol PS pf ov md mq mt mv) : gk_M0 l yL_olds (Cond.codeWith yL_olds cL_olds 4 (some .int) [(0, 9, 12, 13)]) 8 160 16 128 y A [.ref (ly_a y 0), .int i, .ref (ly_a y 4)] G (fun v G1 => (∃ f, f < 5 ∧ i = nI f ∧ v = some (.int 0) ∧ rp y G1 td ru fr lv lt et tl hf hp ol PS pf (nI (ol f).length).toInt64 md mq mt mv) ∨ (rg_out i 5 ∧ v = some (.int 1) ∧ rp y G1 td ru fr lv lt et tl hf hp ol PS pf ov md mq mt mv)) := by
  refine gk_ofW (cc := cL_olds) (maxL := 4) (ret := (some .int)) (own := RL) (by decide +kernel) rfl rfl (Nat.le_of_ble_eq_true rfl) ?_
  intro p e s m below meth c ls hK hret hlk hex hP hS hl
  have hl : lv_has ls 4 [(0, .ref (ly_a y 0)), (1, .int i), (2, .ref (ly_a y 4))] := hl
  refine lv_aload_n hK.1.1 hK.1.2.1 dL_olds_0 rfl (lv_at hl 2 rfl) ?_
  refine lv_iconst (v := 0) hK.1.1 hK.1.2.1 dL_olds_1 (by decide) ?_
  refine lv_aload_n hK.1.1 hK.1.2.1 dL_olds_2 rfl (lv_at hl 0 rfl) ?_
  refine lv_iload_n hK.1.1 hK.1.2.1 dL_olds_3 rfl (lv_at hl 1 rfl) ?_
  refine gk_callV (n := 1) (As := [.int i]) (rest := [.int 0, .ref (ly_a y 4)]) hK (c_X4_olds l hfl hR (i := i) ) (gk_gV q_21_1 q_21_2 q_21_3 q_1_2 q_21_4) ⟨rfl, by decide +kernel, by decide +kernel, by decide +kernel⟩ ⟨(Nat.le_of_ble_eq_true rfl), (Nat.le_of_ble_eq_true rfl)⟩ hP hS (gk_recv hK.2.2.1.1 hP hR.1 rfl) rfl hl.1 rfl (Nat.le_of_ble_eq_true rfl) dL_olds_4 ⟨(Nat.le_of_ble_eq_true rfl), (Nat.le_of_ble_eq_true rfl)⟩ (fun E ce q9 G1 H locs hx hP hS h1 h2 h3 => ?_) (fun v G1 H locs hw hP hS => ?_)
  · obtain ⟨rfl, hG9, hx9⟩ := hx
    rw [hG9] at hP
    refine vx_catch (E := "java/lang/IndexOutOfBoundsException") hK.1.2.2.1 [] ⟨0, 9, 12, 13⟩ [] hex (fun z hz => nomatch hz) (by decide) (by decide) (hK.1.2.2.2 _ q_5_2) (gk_castU hK.2.2.1.2.2.1.2.2.2.1.1) h1 h2 h3 ?_
    refine lv_astore_n (lv' := [(3, .ref q9), (0, .ref (ly_a y 0)), (1, .int i), (2, .ref (ly_a y 4))]) hK.1.1 hK.1.2.1 dL_olds_12 rfl hl (by decide) rfl (fun ls hl => ?_)
    refine lv_iconst (v := 1) hK.1.1 hK.1.2.1 dL_olds_13 (by decide) ?_
    exact gk_iret0 hK.1 hret hlk hP hS (Nat.le_of_ble_eq_true rfl) (Nat.le_of_ble_eq_true rfl) dL_olds_14 (Or.inr (⟨hx9, rfl, hR⟩))
  obtain ⟨f, hf5, rfl, rfl, hG9⟩ := hw
  rw [hG9] at hP
  refine W.eq (g2 := F0 m 7 ls [.int (nI (ol f).length), .int 0, .ref (ly_a y 4)]) rfl ?_
  refine lv_i2l hK.1.1 hK.1.2.1 dL_olds_7 rfl ?_
  refine lo_put hK hP hS hR dL_olds_8 (fun H locs G hP hS hR => ?_)
  refine lv_goto (tgt := 15) hK.1.1 hK.1.2.1 dL_olds_9 (by decide) ?_
  refine lv_iconst (v := 0) hK.1.1 hK.1.2.1 dL_olds_15 (by decide) ?_
  exact gk_iret0 hK.1 hret hlk hP hS (Nat.le_of_ble_eq_true rfl) (Nat.le_of_ble_eq_true rfl) dL_olds_16 (Or.inl (⟨f, hf5, rfl, rfl, hR⟩))
set_option maxHeartbeats 4000000 in
set_option maxRecDepth 100000 in
theorem c_L_thrown (l : Launch) {y : ly_T} {A : Nat → Prop} {G : gk_G} {td : Int32} {ru : Nat → Nat → Int32} {fr lv : Nat → Nat} {lt et tl : Nat → Int32} {hf hp : Nat → Option Nat} {ol : Nat → List Nat} {PS : Nat → Prop} {pf : Nat → Nat → Int32} {ov : Int64} {md mq mt : Int32} {mv : Nat → Nat → Int32} {i : Int32}  (hfl : l.stackTraces = false) (hR : rp y G td ru fr lv lt et tl hf hp ol PS pf ov md mq mt mv) : gk_M0 l yL_thrown (Cond.codeWith yL_thrown cL_thrown 4 (some .int) [(0, 9, 12, 13)]) 8 160 16 128 y A [.ref (ly_a y 0), .int i, .ref (ly_a y 4)] G (fun v G1 => (∃ f, f < 5 ∧ i = nI f ∧ v = some (.int 0) ∧ rp y G1 td ru fr lv lt et tl hf hp ol PS pf (tl f).toInt64 md mq mt mv) ∨ (rg_out i 5 ∧ v = some (.int 1) ∧ rp y G1 td ru fr lv lt et tl hf hp ol PS pf ov md mq mt mv)) := by
  refine gk_ofW (cc := cL_thrown) (maxL := 4) (ret := (some .int)) (own := RL) (by decide +kernel) rfl rfl (Nat.le_of_ble_eq_true rfl) ?_
  intro p e s m below meth c ls hK hret hlk hex hP hS hl
  have hl : lv_has ls 4 [(0, .ref (ly_a y 0)), (1, .int i), (2, .ref (ly_a y 4))] := hl
  refine lv_aload_n hK.1.1 hK.1.2.1 dL_thrown_0 rfl (lv_at hl 2 rfl) ?_
  refine lv_iconst (v := 0) hK.1.1 hK.1.2.1 dL_thrown_1 (by decide) ?_
  refine lv_aload_n hK.1.1 hK.1.2.1 dL_thrown_2 rfl (lv_at hl 0 rfl) ?_
  refine lv_iload_n hK.1.1 hK.1.2.1 dL_thrown_3 rfl (lv_at hl 1 rfl) ?_
  refine gk_callV (n := 1) (As := [.int i]) (rest := [.int 0, .ref (ly_a y 4)]) hK (c_X4_thrown l hfl hR (i := i) ) (gk_gV q_23_7 q_23_8 q_23_9 q_1_2 q_23_10) ⟨rfl, by decide +kernel, by decide +kernel, by decide +kernel⟩ ⟨(Nat.le_of_ble_eq_true rfl), (Nat.le_of_ble_eq_true rfl)⟩ hP hS (gk_recv hK.2.2.1.1 hP hR.1 rfl) rfl hl.1 rfl (Nat.le_of_ble_eq_true rfl) dL_thrown_4 ⟨(Nat.le_of_ble_eq_true rfl), (Nat.le_of_ble_eq_true rfl)⟩ (fun E ce q9 G1 H locs hx hP hS h1 h2 h3 => ?_) (fun v G1 H locs hw hP hS => ?_)
  · obtain ⟨rfl, hG9, hx9⟩ := hx
    rw [hG9] at hP
    refine vx_catch (E := "java/lang/IndexOutOfBoundsException") hK.1.2.2.1 [] ⟨0, 9, 12, 13⟩ [] hex (fun z hz => nomatch hz) (by decide) (by decide) (hK.1.2.2.2 _ q_5_2) (gk_castU hK.2.2.1.2.2.1.2.2.2.1.1) h1 h2 h3 ?_
    refine lv_astore_n (lv' := [(3, .ref q9), (0, .ref (ly_a y 0)), (1, .int i), (2, .ref (ly_a y 4))]) hK.1.1 hK.1.2.1 dL_thrown_12 rfl hl (by decide) rfl (fun ls hl => ?_)
    refine lv_iconst (v := 1) hK.1.1 hK.1.2.1 dL_thrown_13 (by decide) ?_
    exact gk_iret0 hK.1 hret hlk hP hS (Nat.le_of_ble_eq_true rfl) (Nat.le_of_ble_eq_true rfl) dL_thrown_14 (Or.inr (⟨hx9, rfl, hR⟩))
  obtain ⟨f, hf5, rfl, rfl, hG9⟩ := hw
  rw [hG9] at hP
  refine W.eq (g2 := F0 m 7 ls [.int (tl f), .int 0, .ref (ly_a y 4)]) rfl ?_
  refine lv_i2l hK.1.1 hK.1.2.1 dL_thrown_7 rfl ?_
  refine lo_put hK hP hS hR dL_thrown_8 (fun H locs G hP hS hR => ?_)
  refine lv_goto (tgt := 15) hK.1.1 hK.1.2.1 dL_thrown_9 (by decide) ?_
  refine lv_iconst (v := 0) hK.1.1 hK.1.2.1 dL_thrown_15 (by decide) ?_
  exact gk_iret0 hK.1 hret hlk hP hS (Nat.le_of_ble_eq_true rfl) (Nat.le_of_ble_eq_true rfl) dL_thrown_16 (Or.inl (⟨f, hf5, rfl, rfl, hR⟩))
set_option maxHeartbeats 4000000 in
set_option maxRecDepth 100000 in
theorem c_L_isDue (l : Launch) {y : ly_T} {A : Nat → Prop} {G : gk_G} {td : Int32} {ru : Nat → Nat → Int32} {fr lv : Nat → Nat} {lt et tl : Nat → Int32} {hf hp : Nat → Option Nat} {ol : Nat → List Nat} {PS : Nat → Prop} {pf : Nat → Nat → Int32} {ov : Int64} {md mq mt : Int32} {mv : Nat → Nat → Int32} {i : Int32}  (hfl : l.stackTraces = false) (hR : rp y G td ru fr lv lt et tl hf hp ol PS pf ov md mq mt mv) (hLl : ∀ f, f < 5 → PS (lv f)) : gk_M0 l yL_isDue (Cond.codeWith yL_isDue cL_isDue 4 (some .int) [(0, 16, 19, 13)]) 8 160 16 128 y A [.ref (ly_a y 0), .int i, .ref (ly_a y 4)] G (fun v G1 => (∃ f, f < 5 ∧ i = nI f ∧ v = some (.int 0) ∧ rp y G1 td ru fr lv lt et tl hf hp ol PS pf (lg_z (t_due (pf 0 (lv f)) (ru (fr f) 1) (ru (fr f) 2) (ru (fr f) 3) (ru (fr f) 4) (et f) (lt f) td)) md mq mt mv) ∨ (rg_out i 5 ∧ v = some (.int 1) ∧ rp y G1 td ru fr lv lt et tl hf hp ol PS pf ov md mq mt mv)) := by
  refine gk_ofW (cc := cL_isDue) (maxL := 4) (ret := (some .int)) (own := RL) (by decide +kernel) rfl rfl (Nat.le_of_ble_eq_true rfl) ?_
  intro p e s m below meth c ls hK hret hlk hex hP hS hl
  have hl : lv_has ls 4 [(0, .ref (ly_a y 0)), (1, .int i), (2, .ref (ly_a y 4))] := hl
  refine lv_aload_n hK.1.1 hK.1.2.1 dL_isDue_0 rfl (lv_at hl 2 rfl) ?_
  refine lv_iconst (v := 0) hK.1.1 hK.1.2.1 dL_isDue_1 (by decide) ?_
  refine lv_aload_n hK.1.1 hK.1.2.1 dL_isDue_2 rfl (lv_at hl 0 rfl) ?_
  refine lv_iload_n hK.1.1 hK.1.2.1 dL_isDue_3 rfl (lv_at hl 1 rfl) ?_
  refine gk_callV (n := 1) (As := [.int i]) (rest := [.int 0, .ref (ly_a y 4)]) hK (c_X4_isDue l hfl hR (i := i) hLl) (gk_gV q_19_16 q_19_17 q_19_18 q_1_2 q_19_19) ⟨rfl, by decide +kernel, by decide +kernel, by decide +kernel⟩ ⟨(Nat.le_of_ble_eq_true rfl), (Nat.le_of_ble_eq_true rfl)⟩ hP hS (gk_recv hK.2.2.1.1 hP hR.1 rfl) rfl hl.1 rfl (Nat.le_of_ble_eq_true rfl) dL_isDue_4 ⟨(Nat.le_of_ble_eq_true rfl), (Nat.le_of_ble_eq_true rfl)⟩ (fun E ce q9 G1 H locs hx hP hS h1 h2 h3 => ?_) (fun v G1 H locs hw hP hS => ?_)
  · obtain ⟨rfl, hG9, hx9⟩ := hx
    rw [hG9] at hP
    refine vx_catch (E := "java/lang/IndexOutOfBoundsException") hK.1.2.2.1 [] ⟨0, 16, 19, 13⟩ [] hex (fun z hz => nomatch hz) (by decide) (by decide) (hK.1.2.2.2 _ q_5_2) (gk_castU hK.2.2.1.2.2.1.2.2.2.1.1) h1 h2 h3 ?_
    refine lv_astore_n (lv' := [(3, .ref q9), (0, .ref (ly_a y 0)), (1, .int i), (2, .ref (ly_a y 4))]) hK.1.1 hK.1.2.1 dL_isDue_19 rfl hl (by decide) rfl (fun ls hl => ?_)
    refine lv_iconst (v := 1) hK.1.1 hK.1.2.1 dL_isDue_20 (by decide) ?_
    exact gk_iret0 hK.1 hret hlk hP hS (Nat.le_of_ble_eq_true rfl) (Nat.le_of_ble_eq_true rfl) dL_isDue_21 (Or.inr (⟨hx9, rfl, hR⟩))
  obtain ⟨f, hf5, rfl, rfl, hG9⟩ := hw
  rw [hG9] at hP
  refine W.eq (g2 := F0 m 7 ls [.int (rg_b (t_due (pf 0 (lv f)) (ru (fr f) 1) (ru (fr f) 2) (ru (fr f) 3) (ru (fr f) 4) (et f) (lt f) td)), .int 0, .ref (ly_a y 4)]) rfl ?_
  refine lv_if_eq (tgt := 14) hK.1.1 hK.1.2.1 dL_isDue_7 (by decide) (fun c7_1 => ?_) (fun c7_1 => ?_)
  · refine lv_lconst (v := 0) hK.1.1 hK.1.2.1 dL_isDue_14 (by decide) ?_
    refine lo_put hK hP hS hR dL_isDue_15 (fun H locs G hP hS hR => ?_)
    refine lv_goto (tgt := 22) hK.1.1 hK.1.2.1 dL_isDue_16 (by decide) ?_
    refine lv_iconst (v := 0) hK.1.1 hK.1.2.1 dL_isDue_22 (by decide) ?_
    exact gk_iret0 hK.1 hret hlk hP hS (Nat.le_of_ble_eq_true rfl) (Nat.le_of_ble_eq_true rfl) dL_isDue_23 (Or.inl (⟨f, hf5, rfl, rfl, (by rw [show lg_z (t_due (pf 0 (lv f)) (ru (fr f) 1) (ru (fr f) 2) (ru (fr f) 3) (ru (fr f) 4) (et f) (lt f) td) = 0 by rw [rg_b0.mp c7_1]; rfl]; exact hR)⟩))
  · refine lv_lconst (v := 1) hK.1.1 hK.1.2.1 dL_isDue_10 (by decide) ?_
    refine lv_goto (tgt := 15) hK.1.1 hK.1.2.1 dL_isDue_11 (by decide) ?_
    refine lo_put hK hP hS hR dL_isDue_15 (fun H locs G hP hS hR => ?_)
    refine lv_goto (tgt := 22) hK.1.1 hK.1.2.1 dL_isDue_16 (by decide) ?_
    refine lv_iconst (v := 0) hK.1.1 hK.1.2.1 dL_isDue_22 (by decide) ?_
    exact gk_iret0 hK.1 hret hlk hP hS (Nat.le_of_ble_eq_true rfl) (Nat.le_of_ble_eq_true rfl) dL_isDue_23 (Or.inl (⟨f, hf5, rfl, rfl, (by rw [show lg_z (t_due (pf 0 (lv f)) (ru (fr f) 1) (ru (fr f) 2) (ru (fr f) 3) (ru (fr f) 4) (et f) (lt f) td) = 1 by rw [rg_bt c7_1]; rfl]; exact hR)⟩))
set_option maxHeartbeats 4000000 in
set_option maxRecDepth 100000 in
theorem c_L_lose (l : Launch) {y : ly_T} {A : Nat → Prop} {G : gk_G} {td : Int32} {ru : Nat → Nat → Int32} {fr lv : Nat → Nat} {lt et tl : Nat → Int32} {hf hp : Nat → Option Nat} {ol : Nat → List Nat} {PS : Nat → Prop} {pf : Nat → Nat → Int32} {ov : Int64} {md mq mt : Int32} {mv : Nat → Nat → Int32} {i : Int32}  (hfl : l.stackTraces = false) (hR : rp y G td ru fr lv lt et tl hf hp ol PS pf ov md mq mt mv) : gk_M0 l yL_lose (Cond.codeWith yL_lose cL_lose 4 (some .int) [(0, 9, 12, 13)]) 8 160 16 128 y A [.ref (ly_a y 0), .int i, .ref (ly_a y 4)] G (fun v G1 => (∃ f, f < 5 ∧ i = nI f ∧ v = some (.int 0) ∧ rp y G1 td ru fr lv (va_up lt f td) (va_up et f 1) tl hf hp ol PS pf (lt f).toInt64 md mq mt mv) ∨ (rg_out i 5 ∧ v = some (.int 1) ∧ rp y G1 td ru fr lv lt et tl hf hp ol PS pf ov md mq mt mv)) := by
  refine gk_ofW (cc := cL_lose) (maxL := 4) (ret := (some .int)) (own := RL) (by decide +kernel) rfl rfl (Nat.le_of_ble_eq_true rfl) ?_
  intro p e s m below meth c ls hK hret hlk hex hP hS hl
  have hl : lv_has ls 4 [(0, .ref (ly_a y 0)), (1, .int i), (2, .ref (ly_a y 4))] := hl
  refine lv_aload_n hK.1.1 hK.1.2.1 dL_lose_0 rfl (lv_at hl 2 rfl) ?_
  refine lv_iconst (v := 0) hK.1.1 hK.1.2.1 dL_lose_1 (by decide) ?_
  refine lv_aload_n hK.1.1 hK.1.2.1 dL_lose_2 rfl (lv_at hl 0 rfl) ?_
  refine lv_iload_n hK.1.1 hK.1.2.1 dL_lose_3 rfl (lv_at hl 1 rfl) ?_
  refine gk_callV (n := 1) (As := [.int i]) (rest := [.int 0, .ref (ly_a y 4)]) hK (c_X4_lose l hfl hR (i := i)) (gk_gV q_18_21 q_18_22 q_18_23 q_1_2 q_19_0) ⟨rfl, by decide +kernel, by decide +kernel, by decide +kernel⟩ ⟨(Nat.le_of_ble_eq_true rfl), (Nat.le_of_ble_eq_true rfl)⟩ hP hS (gk_recv hK.2.2.1.1 hP hR.1 rfl) rfl hl.1 rfl (Nat.le_of_ble_eq_true rfl) dL_lose_4 ⟨(Nat.le_of_ble_eq_true rfl), (Nat.le_of_ble_eq_true rfl)⟩ (fun E ce q9 G1 H locs hx hP hS h1 h2 h3 => ?_) (fun v G1 H locs hw hP hS => ?_)
  · obtain ⟨rfl, hG9, hx9⟩ := hx
    rw [hG9] at hP
    refine vx_catch (E := "java/lang/IndexOutOfBoundsException") hK.1.2.2.1 [] ⟨0, 9, 12, 13⟩ [] hex (fun z hz => nomatch hz) (by decide) (by decide) (hK.1.2.2.2 _ q_5_2) (gk_castU hK.2.2.1.2.2.1.2.2.2.1.1) h1 h2 h3 ?_
    refine lv_astore_n (lv' := [(3, .ref q9), (0, .ref (ly_a y 0)), (1, .int i), (2, .ref (ly_a y 4))]) hK.1.1 hK.1.2.1 dL_lose_12 rfl hl (by decide) rfl (fun ls hl => ?_)
    refine lv_iconst (v := 1) hK.1.1 hK.1.2.1 dL_lose_13 (by decide) ?_
    exact gk_iret0 hK.1 hret hlk hP hS (Nat.le_of_ble_eq_true rfl) (Nat.le_of_ble_eq_true rfl) dL_lose_14 (Or.inr (⟨hx9, rfl, hR⟩))
  obtain ⟨f, hf5, rfl, rfl, hR⟩ := hw
  refine W.eq (g2 := F0 m 7 ls [.int (lt f), .int 0, .ref (ly_a y 4)]) rfl ?_
  refine lv_i2l hK.1.1 hK.1.2.1 dL_lose_7 rfl ?_
  refine lo_put hK hP hS hR dL_lose_8 (fun H locs G hP hS hR => ?_)
  refine lv_goto (tgt := 15) hK.1.1 hK.1.2.1 dL_lose_9 (by decide) ?_
  refine lv_iconst (v := 0) hK.1.1 hK.1.2.1 dL_lose_15 (by decide) ?_
  exact gk_iret0 hK.1 hret hlk hP hS (Nat.le_of_ble_eq_true rfl) (Nat.le_of_ble_eq_true rfl) dL_lose_16 (Or.inl (⟨f, hf5, rfl, rfl, hR⟩))
set_option maxHeartbeats 4000000 in
set_option maxRecDepth 100000 in
theorem c_L_lines (l : Launch) {y : ly_T} {A : Nat → Prop} {G : gk_G} {td : Int32} {ru : Nat → Nat → Int32} {fr lv : Nat → Nat} {lt et tl : Nat → Int32} {hf hp : Nat → Option Nat} {ol : Nat → List Nat} {PS : Nat → Prop} {pf : Nat → Nat → Int32} {ov : Int64} {md mq mt : Int32} {mv : Nat → Nat → Int32} {i j : Int32}  (hfl : l.stackTraces = false) (hR : rp y G td ru fr lv lt et tl hf hp ol PS pf ov md mq mt mv) (hin5 : ∀ f, f < 5 → ∀ q ∈ ol f, PS q) : gk_M0 l yL_lines (Cond.codeWith yL_lines cL_lines 5 (some .int) [(0, 10, 13, 13)]) 8 160 16 128 y A [.ref (ly_a y 0), .int i, .int j, .ref (ly_a y 4)] G (fun v G1 => (∃ f k t, f < 5 ∧ i = nI f ∧ (ol f)[k]? = some t ∧ j = nI k ∧ v = some (.int 0) ∧ rp y G1 td ru fr lv lt et tl hf hp ol PS pf (pf 0 t).toInt64 md mq mt mv) ∨ ((rg_out i 5 ∨ ∃ f, f < 5 ∧ i = nI f ∧ rg_out j (ol f).length) ∧ v = some (.int 1) ∧ rp y G1 td ru fr lv lt et tl hf hp ol PS pf ov md mq mt mv)) := by
  refine gk_ofW (cc := cL_lines) (maxL := 5) (ret := (some .int)) (own := RL) (by decide +kernel) rfl rfl (Nat.le_of_ble_eq_true rfl) ?_
  intro p e s m below meth c ls hK hret hlk hex hP hS hl
  have hl : lv_has ls 5 [(0, .ref (ly_a y 0)), (1, .int i), (2, .int j), (3, .ref (ly_a y 4))] := hl
  refine lv_aload_n hK.1.1 hK.1.2.1 dL_lines_0 rfl (lv_at hl 3 rfl) ?_
  refine lv_iconst (v := 0) hK.1.1 hK.1.2.1 dL_lines_1 (by decide) ?_
  refine lv_aload_n hK.1.1 hK.1.2.1 dL_lines_2 rfl (lv_at hl 0 rfl) ?_
  refine lv_iload_n hK.1.1 hK.1.2.1 dL_lines_3 rfl (lv_at hl 1 rfl) ?_
  refine lv_iload_n hK.1.1 hK.1.2.1 dL_lines_4 rfl (lv_at hl 2 rfl) ?_
  refine gk_callV (n := 2) (As := [.int i, .int j]) (rest := [.int 0, .ref (ly_a y 4)]) hK (c_X4_lines l hfl hR (i := i) (j := j) hin5) (gk_gV q_21_12 q_21_13 q_21_14 q_1_2 q_21_15) ⟨rfl, by decide +kernel, by decide +kernel, by decide +kernel⟩ ⟨(Nat.le_of_ble_eq_true rfl), (Nat.le_of_ble_eq_true rfl)⟩ hP hS (gk_recv hK.2.2.1.1 hP hR.1 rfl) rfl hl.1 rfl (Nat.le_of_ble_eq_true rfl) dL_lines_5 ⟨(Nat.le_of_ble_eq_true rfl), (Nat.le_of_ble_eq_true rfl)⟩ (fun E ce q9 G1 H locs hx hP hS h1 h2 h3 => ?_) (fun v G1 H locs hw hP hS => ?_)
  · obtain ⟨rfl, hG9, hx9⟩ := hx
    rw [hG9] at hP
    refine vx_catch (E := "java/lang/IndexOutOfBoundsException") hK.1.2.2.1 [] ⟨0, 10, 13, 13⟩ [] hex (fun z hz => nomatch hz) (by decide) (by decide) (hK.1.2.2.2 _ q_5_2) (gk_castU hK.2.2.1.2.2.1.2.2.2.1.1) h1 h2 h3 ?_
    refine lv_astore (lv' := [(4, .ref q9), (0, .ref (ly_a y 0)), (1, .int i), (2, .int j), (3, .ref (ly_a y 4))]) hK.1.1 hK.1.2.1 dL_lines_13 hl (by decide) rfl (fun ls hl => ?_)
    refine lv_iconst (v := 1) hK.1.1 hK.1.2.1 dL_lines_15 (by decide) ?_
    exact gk_iret0 hK.1 hret hlk hP hS (Nat.le_of_ble_eq_true rfl) (Nat.le_of_ble_eq_true rfl) dL_lines_16 (Or.inr (⟨hx9, rfl, hR⟩))
  obtain ⟨f, k, t, hf5, rfl, htk, rfl, rfl, hG9⟩ := hw
  rw [hG9] at hP
  refine W.eq (g2 := F0 m 8 ls [.int (pf 0 t), .int 0, .ref (ly_a y 4)]) rfl ?_
  refine lv_i2l hK.1.1 hK.1.2.1 dL_lines_8 rfl ?_
  refine lo_put hK hP hS hR dL_lines_9 (fun H locs G hP hS hR => ?_)
  refine lv_goto (tgt := 17) hK.1.1 hK.1.2.1 dL_lines_10 (by decide) ?_
  refine lv_iconst (v := 0) hK.1.1 hK.1.2.1 dL_lines_17 (by decide) ?_
  exact gk_iret0 hK.1 hret hlk hP hS (Nat.le_of_ble_eq_true rfl) (Nat.le_of_ble_eq_true rfl) dL_lines_18 (Or.inl (⟨f, k, t, hf5, rfl, htk, rfl, rfl, hR⟩))
set_option maxHeartbeats 4000000 in
set_option maxRecDepth 100000 in
theorem c_L_turn (l : Launch) {y : ly_T} {A : Nat → Prop} {G : gk_G} {td : Int32} {ru : Nat → Nat → Int32} {fr lv : Nat → Nat} {lt et tl : Nat → Int32} {hf hp : Nat → Option Nat} {ol : Nat → List Nat} {PS : Nat → Prop} {pf : Nat → Nat → Int32} {ov : Int64} {md mq mt : Int32} {mv : Nat → Nat → Int32} {i : Int32}  (hfl : l.stackTraces = false) (hR : rp y G td ru fr lv lt et tl hf hp ol PS pf ov md mq mt mv) (hLl : ∀ f, f < 5 → PS (lv f)) (hin5 : ∀ f, f < 5 → ∀ q ∈ ol f, PS q) (hlen5 : ∀ f, f < 5 → (ol f).length < 512) : gk_M0 l yL_turn (Cond.codeWith yL_turn cL_turn 4 (some .int) [(0, 9, 12, 13)]) 9 300 3 1509 y A [.ref (ly_a y 0), .int i, .ref (ly_a y 4)] G (fun v G1 => (∃ f q, f < 5 ∧ i = nI f ∧ ¬ PS q ∧ v = some (.int 0) ∧ rp y G1 td ru fr (va_up lv f q) (va_up lt f td) (va_up et f 1) (va_up tl f (t_sum (t_tpf td ru fr lv hp ol pf f q) (tl f) (t_tth td ru fr lv hp ol pf f q))) hf hp (va_up ol f (t_tkp td ru fr lv hp ol pf f q)) (fun t => PS t ∨ t = q) (t_tpf td ru fr lv hp ol pf f q) (nI (t_tth td ru fr lv hp ol pf f q).length).toInt64 md mq mt mv) ∨ (rg_out i 5 ∧ v = some (.int 1) ∧ rp y G1 td ru fr lv lt et tl hf hp ol PS pf ov md mq mt mv)) := by
  refine gk_ofW (cc := cL_turn) (maxL := 4) (ret := (some .int)) (own := RL) (by decide +kernel) rfl rfl (Nat.le_of_ble_eq_true rfl) ?_
  intro p e s m below meth c ls hK hret hlk hex hP hS hl
  have hl : lv_has ls 4 [(0, .ref (ly_a y 0)), (1, .int i), (2, .ref (ly_a y 4))] := hl
  refine lv_aload_n hK.1.1 hK.1.2.1 dL_turn_0 rfl (lv_at hl 2 rfl) ?_
  refine lv_iconst (v := 0) hK.1.1 hK.1.2.1 dL_turn_1 (by decide) ?_
  refine lv_aload_n hK.1.1 hK.1.2.1 dL_turn_2 rfl (lv_at hl 0 rfl) ?_
  refine lv_iload_n hK.1.1 hK.1.2.1 dL_turn_3 rfl (lv_at hl 1 rfl) ?_
  refine gk_callV (n := 1) (As := [.int i]) (rest := [.int 0, .ref (ly_a y 4)]) hK (c_X4_turn l hfl hR (i := i) hLl hin5 hlen5) (gk_gV q_18_10 q_18_11 q_18_12 q_1_2 q_18_13) ⟨rfl, by decide +kernel, by decide +kernel, by decide +kernel⟩ ⟨(Nat.le_of_ble_eq_true rfl), (Nat.le_of_ble_eq_true rfl)⟩ hP hS (gk_recv hK.2.2.1.1 hP hR.1 rfl) rfl hl.1 rfl (Nat.le_of_ble_eq_true rfl) dL_turn_4 ⟨(Nat.le_of_ble_eq_true rfl), (Nat.le_of_ble_eq_true rfl)⟩ (fun E ce q9 G1 H locs hx hP hS h1 h2 h3 => ?_) (fun v G1 H locs hw hP hS => ?_)
  · obtain ⟨rfl, hG9, hx9⟩ := hx
    rw [hG9] at hP
    refine vx_catch (E := "java/lang/IndexOutOfBoundsException") hK.1.2.2.1 [] ⟨0, 9, 12, 13⟩ [] hex (fun z hz => nomatch hz) (by decide) (by decide) (hK.1.2.2.2 _ q_5_2) (gk_castU hK.2.2.1.2.2.1.2.2.2.1.1) h1 h2 h3 ?_
    refine lv_astore_n (lv' := [(3, .ref q9), (0, .ref (ly_a y 0)), (1, .int i), (2, .ref (ly_a y 4))]) hK.1.1 hK.1.2.1 dL_turn_12 rfl hl (by decide) rfl (fun ls hl => ?_)
    refine lv_iconst (v := 1) hK.1.1 hK.1.2.1 dL_turn_13 (by decide) ?_
    exact gk_iret0 hK.1 hret hlk hP hS (Nat.le_of_ble_eq_true rfl) (Nat.le_of_ble_eq_true rfl) dL_turn_14 (Or.inr (⟨hx9, rfl, hR⟩))
  obtain ⟨f, q, hf5, rfl, hq9, rfl, hR⟩ := hw
  refine W.eq (g2 := F0 m 7 ls [.int (nI (t_tth td ru fr lv hp ol pf f q).length), .int 0, .ref (ly_a y 4)]) rfl ?_
  refine lv_i2l hK.1.1 hK.1.2.1 dL_turn_7 rfl ?_
  refine lo_put hK hP hS hR dL_turn_8 (fun H locs G hP hS hR => ?_)
  refine lv_goto (tgt := 15) hK.1.1 hK.1.2.1 dL_turn_9 (by decide) ?_
  refine lv_iconst (v := 0) hK.1.1 hK.1.2.1 dL_turn_15 (by decide) ?_
  exact gk_iret0 hK.1 hret hlk hP hS (Nat.le_of_ble_eq_true rfl) (Nat.le_of_ble_eq_true rfl) dL_turn_16 (Or.inl (⟨f, q, hf5, rfl, hq9, rfl, hR⟩))
set_option maxHeartbeats 4000000 in
set_option maxRecDepth 100000 in
theorem c_L_name (l : Launch) {y : ly_T} {A : Nat → Prop} {G : gk_G} {td : Int32} {ru : Nat → Nat → Int32} {fr lv : Nat → Nat} {lt et tl : Nat → Int32} {hf hp : Nat → Option Nat} {ol : Nat → List Nat} {PS : Nat → Prop} {pf : Nat → Nat → Int32} {ov : Int64} {md mq mt : Int32} {mv : Nat → Nat → Int32} {i j : Int32}  (hfl : l.stackTraces = false) (hR : rp y G td ru fr lv lt et tl hf hp ol PS pf ov md mq mt mv) (hin5 : ∀ f, f < 5 → ∀ q ∈ ol f, PS q) : gk_M0 l yL_name (Cond.codeWith yL_name cL_name 5 (some .int) [(0, 10, 13, 13)]) 8 160 16 128 y A [.ref (ly_a y 0), .int i, .int j, .ref (ly_a y 4)] G (fun v G1 => (∃ f k t, f < 5 ∧ i = nI f ∧ (ol f)[k]? = some t ∧ j = nI k ∧ v = some (.int 0) ∧ rp y G1 td ru fr lv lt et tl hf hp ol PS pf (if ru (fr f) 8 = 0 then nI ((ol f).length - k) else 1000 * pf 1 t + nI (t_cnt pf (ol f) k (pf 1 t))).toInt64 md mq mt mv) ∨ ((rg_out i 5 ∨ ∃ f, f < 5 ∧ i = nI f ∧ rg_out j (ol f).length) ∧ v = some (.int 1) ∧ rp y G1 td ru fr lv lt et tl hf hp ol PS pf ov md mq mt mv)) := by
  refine gk_ofW (cc := cL_name) (maxL := 5) (ret := (some .int)) (own := RL) (by decide +kernel) rfl rfl (Nat.le_of_ble_eq_true rfl) ?_
  intro p e s m below meth c ls hK hret hlk hex hP hS hl
  have hl : lv_has ls 5 [(0, .ref (ly_a y 0)), (1, .int i), (2, .int j), (3, .ref (ly_a y 4))] := hl
  refine lv_aload_n hK.1.1 hK.1.2.1 dL_name_0 rfl (lv_at hl 3 rfl) ?_
  refine lv_iconst (v := 0) hK.1.1 hK.1.2.1 dL_name_1 (by decide) ?_
  refine lv_aload_n hK.1.1 hK.1.2.1 dL_name_2 rfl (lv_at hl 0 rfl) ?_
  refine lv_iload_n hK.1.1 hK.1.2.1 dL_name_3 rfl (lv_at hl 1 rfl) ?_
  refine lv_iload_n hK.1.1 hK.1.2.1 dL_name_4 rfl (lv_at hl 2 rfl) ?_
  refine gk_callV (n := 2) (As := [.int i, .int j]) (rest := [.int 0, .ref (ly_a y 4)]) hK (c_X4_name l hfl hR (i := i) (j := j) hin5) (gk_gV q_22_6 q_22_7 q_22_8 q_1_2 q_22_9) ⟨rfl, by decide +kernel, by decide +kernel, by decide +kernel⟩ ⟨(Nat.le_of_ble_eq_true rfl), (Nat.le_of_ble_eq_true rfl)⟩ hP hS (gk_recv hK.2.2.1.1 hP hR.1 rfl) rfl hl.1 rfl (Nat.le_of_ble_eq_true rfl) dL_name_5 ⟨(Nat.le_of_ble_eq_true rfl), (Nat.le_of_ble_eq_true rfl)⟩ (fun E ce q9 G1 H locs hx hP hS h1 h2 h3 => ?_) (fun v G1 H locs hw hP hS => ?_)
  · obtain ⟨rfl, hG9, hx9⟩ := hx
    rw [hG9] at hP
    refine vx_catch (E := "java/lang/IndexOutOfBoundsException") hK.1.2.2.1 [] ⟨0, 10, 13, 13⟩ [] hex (fun z hz => nomatch hz) (by decide) (by decide) (hK.1.2.2.2 _ q_5_2) (gk_castU hK.2.2.1.2.2.1.2.2.2.1.1) h1 h2 h3 ?_
    refine lv_astore (lv' := [(4, .ref q9), (0, .ref (ly_a y 0)), (1, .int i), (2, .int j), (3, .ref (ly_a y 4))]) hK.1.1 hK.1.2.1 dL_name_13 hl (by decide) rfl (fun ls hl => ?_)
    refine lv_iconst (v := 1) hK.1.1 hK.1.2.1 dL_name_15 (by decide) ?_
    exact gk_iret0 hK.1 hret hlk hP hS (Nat.le_of_ble_eq_true rfl) (Nat.le_of_ble_eq_true rfl) dL_name_16 (Or.inr (⟨hx9, rfl, hR⟩))
  obtain ⟨f, k, t, hf5, rfl, htk, rfl, rfl, hG9⟩ := hw
  rw [hG9] at hP
  refine W.eq (g2 := F0 m 8 ls [.int (if ru (fr f) 8 = 0 then nI ((ol f).length - k) else 1000 * pf 1 t + nI (t_cnt pf (ol f) k (pf 1 t))), .int 0, .ref (ly_a y 4)]) rfl ?_
  refine lv_i2l hK.1.1 hK.1.2.1 dL_name_8 rfl ?_
  refine lo_put hK hP hS hR dL_name_9 (fun H locs G hP hS hR => ?_)
  refine lv_goto (tgt := 17) hK.1.1 hK.1.2.1 dL_name_10 (by decide) ?_
  refine lv_iconst (v := 0) hK.1.1 hK.1.2.1 dL_name_17 (by decide) ?_
  exact gk_iret0 hK.1 hret hlk hP hS (Nat.le_of_ble_eq_true rfl) (Nat.le_of_ble_eq_true rfl) dL_name_18 (Or.inl (⟨f, k, t, hf5, rfl, htk, rfl, rfl, hR⟩))
