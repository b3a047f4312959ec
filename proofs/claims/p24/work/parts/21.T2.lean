/-! the class: the calls that write one field or two -/
set_option maxHeartbeats 4000000 in
set_option maxRecDepth 100000 in
theorem c_X4_setDue (l : Launch) {y : ly_T} {A : Nat → Prop} {G : gk_G} {td : Int32} {ru : Nat → Nat → Int32} {fr lv : Nat → Nat} {lt et tl : Nat → Int32} {hf hp : Nat → Option Nat} {ol : Nat → List Nat} {PS : Nat → Prop} {pf : Nat → Nat → Int32} {i size wd mo le : Int32}  (hfl : l.stackTraces = false) (hR : rp y G td ru fr lv lt et tl hf hp ol PS pf) : gk_M l yX4_setDue (Cond.code yX4_setDue cX4_setDue 7 none) 7 110 16 128 y A [.ref (ly_a y 0), .int i, .int size, .int wd, .int mo, .int le] G (fun v G1 => ∃ r, r < 3 ∧ i = nI r ∧ v = none ∧ (rg_in size 0 10000 ∧ rg_in wd (-1) 6 ∧ rg_in mo (-1) 29 ∧ rg_in le 0 100) ∧ rp y G1 td (rp_u2 (rp_u2 (rp_u2 (rp_u2 ru r 1 size) r 2 wd) r 3 mo) r 4 le) fr lv lt et tl hf hp ol PS pf) (fun E G1 => (E = "java/lang/IndexOutOfBoundsException" ∧ G1 = G ∧ rg_out i 3) ∨ (E = "java/lang/IllegalArgumentException" ∧ G1 = G ∧ ¬ rg_out i 3 ∧ ¬ (rg_in size 0 10000 ∧ rg_in wd (-1) 6 ∧ rg_in mo (-1) 29 ∧ rg_in le 0 100))) := by
  refine gk_ofX (cc := cX4_setDue) (maxL := 7) (ret := none) (own := RX4) (by decide +kernel) rfl rfl (Nat.le_of_ble_eq_true rfl) ?_
  intro p e s m below meth c ls hK hret hlk hex hP hS hl
  have hl : lv_has ls 7 [(0, .ref (ly_a y 0)), (1, .int i), (2, .int size), (3, .int wd), (4, .int mo), (5, .int le)] := hl
  refine lv_aload_n hK.1.1 hK.1.2.1 dX4_setDue_0 rfl (lv_at hl 0 rfl) ?_
  refine lv_iload_n hK.1.1 hK.1.2.1 dX4_setDue_1 rfl (lv_at hl 1 rfl) ?_
  refine gk_callV (n := 1) (As := [.int i]) (rest := []) hK (c_X4_ruleOf l hfl hR (i := i)) (gk_gV q_12_21 q_12_22 q_12_23 q_1_2 q_13_0) ⟨rfl, by decide +kernel, by decide +kernel, by decide +kernel⟩ ⟨(Nat.le_of_ble_eq_true rfl), (Nat.le_of_ble_eq_true rfl)⟩ hP hS (gk_recv hK.2.2.1.1 hP hR.1 rfl) rfl hl.1 rfl (Nat.le_of_ble_eq_true rfl) dX4_setDue_2 ⟨(Nat.le_of_ble_eq_true rfl), (Nat.le_of_ble_eq_true rfl)⟩ (fun E ce q9 G1 H locs hx hP hS h1 h2 h3 => gk_out hex hlk hP hS h1 h2 h3 (Or.inl hx) (Nat.le_of_ble_eq_true rfl) (Nat.le_of_ble_eq_true rfl)) (fun v G1 H locs hw hP hS => ?_)
  obtain ⟨r_1, hr_1, rfl, rfl, hG9⟩ := hw
  rw [hG9] at hP
  refine W.eq (g2 := F0 m 5 ls [.ref (ly_f y 0 r_1)]) rfl ?_
  refine lv_astore (lv' := [(6, .ref (ly_f y 0 r_1)), (0, .ref (ly_a y 0)), (1, .int (nI r_1)), (2, .int size), (3, .int wd), (4, .int mo), (5, .int le)]) hK.1.1 hK.1.2.1 dX4_setDue_5 hl (by decide) rfl (fun ls hl => ?_)
  refine lv_iload_n hK.1.1 hK.1.2.1 dX4_setDue_7 rfl (lv_at hl 3 rfl) ?_
  refine lv_iconst (v := 0) hK.1.1 hK.1.2.1 dX4_setDue_8 (by decide) ?_
  refine lv_sipush (v := 10000) hK.1.1 hK.1.2.1 dX4_setDue_9 (by decide) ?_
  refine gk_callS (n := 3) (As := [.int size, .int 0, .int 10000]) (rest := []) hK (c_X4_requireRange l hfl hR (x := size) (a := 0) (b := 10000)) (gk_gS q_13_1 q_13_2 q_1_2 q_13_3) ⟨by decide +kernel, by decide +kernel, by decide +kernel⟩ ⟨(Nat.le_of_ble_eq_true rfl), (Nat.le_of_ble_eq_true rfl)⟩ hP hS rfl hl.1 rfl (Nat.le_of_ble_eq_true rfl) dX4_setDue_12 ⟨(Nat.le_of_ble_eq_true rfl), (Nat.le_of_ble_eq_true rfl)⟩ (fun E ce q9 G1 H locs hx hP hS h1 h2 h3 => gk_out hex hlk hP hS h1 h2 h3 (Or.inr ⟨hx.1, hx.2.1, rg_out_no hr_1 (by decide), fun h => hx.2.2 h.1⟩) (Nat.le_of_ble_eq_true rfl) (Nat.le_of_ble_eq_true rfl)) (fun v G1 H locs hw hP hS => ?_)
  obtain ⟨rfl, hG9, g_2⟩ := hw
  rw [hG9] at hP
  refine W.eq (g2 := F0 m 15 ls []) rfl ?_
  refine lv_iload_n hK.1.1 hK.1.2.1 dX4_setDue_15 rfl (lv_at hl 4 rfl) ?_
  refine lv_iconst (v := (-1)) hK.1.1 hK.1.2.1 dX4_setDue_16 (by decide) ?_
  refine lv_bipush (v := 6) hK.1.1 hK.1.2.1 dX4_setDue_17 (by decide) ?_
  refine gk_callS (n := 3) (As := [.int wd, .int (-1), .int 6]) (rest := []) hK (c_X4_requireRange l hfl hR (x := wd) (a := (-1)) (b := 6)) (gk_gS q_13_1 q_13_2 q_1_2 q_13_3) ⟨by decide +kernel, by decide +kernel, by decide +kernel⟩ ⟨(Nat.le_of_ble_eq_true rfl), (Nat.le_of_ble_eq_true rfl)⟩ hP hS rfl hl.1 rfl (Nat.le_of_ble_eq_true rfl) dX4_setDue_19 ⟨(Nat.le_of_ble_eq_true rfl), (Nat.le_of_ble_eq_true rfl)⟩ (fun E ce q9 G1 H locs hx hP hS h1 h2 h3 => gk_out hex hlk hP hS h1 h2 h3 (Or.inr ⟨hx.1, hx.2.1, rg_out_no hr_1 (by decide), fun h => hx.2.2 h.2.1⟩) (Nat.le_of_ble_eq_true rfl) (Nat.le_of_ble_eq_true rfl)) (fun v G1 H locs hw hP hS => ?_)
  obtain ⟨rfl, hG9, g_3⟩ := hw
  rw [hG9] at hP
  refine W.eq (g2 := F0 m 22 ls []) rfl ?_
  refine lv_iload hK.1.1 hK.1.2.1 dX4_setDue_22 (lv_at hl 5 rfl) ?_
  refine lv_iconst (v := (-1)) hK.1.1 hK.1.2.1 dX4_setDue_24 (by decide) ?_
  refine lv_bipush (v := 29) hK.1.1 hK.1.2.1 dX4_setDue_25 (by decide) ?_
  refine gk_callS (n := 3) (As := [.int mo, .int (-1), .int 29]) (rest := []) hK (c_X4_requireRange l hfl hR (x := mo) (a := (-1)) (b := 29)) (gk_gS q_13_1 q_13_2 q_1_2 q_13_3) ⟨by decide +kernel, by decide +kernel, by decide +kernel⟩ ⟨(Nat.le_of_ble_eq_true rfl), (Nat.le_of_ble_eq_true rfl)⟩ hP hS rfl hl.1 rfl (Nat.le_of_ble_eq_true rfl) dX4_setDue_27 ⟨(Nat.le_of_ble_eq_true rfl), (Nat.le_of_ble_eq_true rfl)⟩ (fun E ce q9 G1 H locs hx hP hS h1 h2 h3 => gk_out hex hlk hP hS h1 h2 h3 (Or.inr ⟨hx.1, hx.2.1, rg_out_no hr_1 (by decide), fun h => hx.2.2 h.2.2.1⟩) (Nat.le_of_ble_eq_true rfl) (Nat.le_of_ble_eq_true rfl)) (fun v G1 H locs hw hP hS => ?_)
  obtain ⟨rfl, hG9, g_4⟩ := hw
  rw [hG9] at hP
  refine W.eq (g2 := F0 m 30 ls []) rfl ?_
  refine lv_iload hK.1.1 hK.1.2.1 dX4_setDue_30 (lv_at hl 6 rfl) ?_
  refine lv_iconst (v := 0) hK.1.1 hK.1.2.1 dX4_setDue_32 (by decide) ?_
  refine lv_bipush (v := 100) hK.1.1 hK.1.2.1 dX4_setDue_33 (by decide) ?_
  refine gk_callS (n := 3) (As := [.int le, .int 0, .int 100]) (rest := []) hK (c_X4_requireRange l hfl hR (x := le) (a := 0) (b := 100)) (gk_gS q_13_1 q_13_2 q_1_2 q_13_3) ⟨by decide +kernel, by decide +kernel, by decide +kernel⟩ ⟨(Nat.le_of_ble_eq_true rfl), (Nat.le_of_ble_eq_true rfl)⟩ hP hS rfl hl.1 rfl (Nat.le_of_ble_eq_true rfl) dX4_setDue_35 ⟨(Nat.le_of_ble_eq_true rfl), (Nat.le_of_ble_eq_true rfl)⟩ (fun E ce q9 G1 H locs hx hP hS h1 h2 h3 => gk_out hex hlk hP hS h1 h2 h3 (Or.inr ⟨hx.1, hx.2.1, rg_out_no hr_1 (by decide), fun h => hx.2.2 h.2.2.2⟩) (Nat.le_of_ble_eq_true rfl) (Nat.le_of_ble_eq_true rfl)) (fun v G1 H locs hw hP hS => ?_)
  obtain ⟨rfl, hG9, g_5⟩ := hw
  rw [hG9] at hP
  refine W.eq (g2 := F0 m 38 ls []) rfl ?_
  refine lv_aload hK.1.1 hK.1.2.1 dX4_setDue_38 (lv_at hl 0 rfl) ?_
  refine lv_iload_n hK.1.1 hK.1.2.1 dX4_setDue_40 rfl (lv_at hl 3 rfl) ?_
  refine tw_42 hK hP hS hR hr_1 dX4_setDue_41 (fun H locs G hP hS hR => ?_)
  refine lv_aload hK.1.1 hK.1.2.1 dX4_setDue_44 (lv_at hl 0 rfl) ?_
  refine lv_iload_n hK.1.1 hK.1.2.1 dX4_setDue_46 rfl (lv_at hl 4 rfl) ?_
  refine tw_46 hK hP hS hR hr_1 dX4_setDue_47 (fun H locs G hP hS hR => ?_)
  refine lv_aload hK.1.1 hK.1.2.1 dX4_setDue_50 (lv_at hl 0 rfl) ?_
  refine lv_iload hK.1.1 hK.1.2.1 dX4_setDue_52 (lv_at hl 5 rfl) ?_
  refine tw_49 hK hP hS hR hr_1 dX4_setDue_54 (fun H locs G hP hS hR => ?_)
  refine lv_aload hK.1.1 hK.1.2.1 dX4_setDue_57 (lv_at hl 0 rfl) ?_
  refine lv_iload hK.1.1 hK.1.2.1 dX4_setDue_59 (lv_at hl 6 rfl) ?_
  refine tw_52 hK hP hS hR hr_1 dX4_setDue_61 (fun H locs G hP hS hR => ?_)
  exact vx_ret (gk_vret0 hK.1 hret hlk hP hS (Nat.le_of_ble_eq_true rfl) (Nat.le_of_ble_eq_true rfl) dX4_setDue_64 ⟨r_1, hr_1, rfl, rfl, ⟨g_2, g_3, g_4, g_5⟩, hR⟩)
set_option maxHeartbeats 4000000 in
set_option maxRecDepth 100000 in
theorem c_X4_setOld (l : Launch) {y : ly_T} {A : Nat → Prop} {G : gk_G} {td : Int32} {ru : Nat → Nat → Int32} {fr lv : Nat → Nat} {lt et tl : Nat → Int32} {hf hp : Nat → Option Nat} {ol : Nat → List Nat} {PS : Nat → Prop} {pf : Nat → Nat → Int32} {i kp gr b1 b2 b3 : Int32}  (hfl : l.stackTraces = false) (hR : rp y G td ru fr lv lt et tl hf hp ol PS pf) (hb1 : b1 = 0 ∨ b1 = 1) (hb2 : b2 = 0 ∨ b2 = 1) (hb3 : b3 = 0 ∨ b3 = 1) : gk_M l yX4_setOld (Cond.code yX4_setOld cX4_setOld 8 none) 7 110 16 128 y A [.ref (ly_a y 0), .int i, .int kp, .int gr, .int b1, .int b2, .int b3] G (fun v G1 => ∃ r, r < 3 ∧ i = nI r ∧ v = none ∧ (rg_in kp 0 10 ∧ rg_in gr 0 1000) ∧ rp y G1 td (rp_u2 (rp_u2 (rp_u2 (rp_u2 (rp_u2 ru r 5 kp) r 6 gr) r 7 b1) r 8 b2) r 9 b3) fr lv lt et tl hf hp ol PS pf) (fun E G1 => (E = "java/lang/IndexOutOfBoundsException" ∧ G1 = G ∧ rg_out i 3) ∨ (E = "java/lang/IllegalArgumentException" ∧ G1 = G ∧ ¬ rg_out i 3 ∧ ¬ (rg_in kp 0 10 ∧ rg_in gr 0 1000))) := by
  refine gk_ofX (cc := cX4_setOld) (maxL := 8) (ret := none) (own := RX4) (by decide +kernel) rfl rfl (Nat.le_of_ble_eq_true rfl) ?_
  intro p e s m below meth c ls hK hret hlk hex hP hS hl
  have hl : lv_has ls 8 [(0, .ref (ly_a y 0)), (1, .int i), (2, .int kp), (3, .int gr), (4, .int b1), (5, .int b2), (6, .int b3)] := hl
  refine lv_aload_n hK.1.1 hK.1.2.1 dX4_setOld_0 rfl (lv_at hl 0 rfl) ?_
  refine lv_iload_n hK.1.1 hK.1.2.1 dX4_setOld_1 rfl (lv_at hl 1 rfl) ?_
  refine gk_callV (n := 1) (As := [.int i]) (rest := []) hK (c_X4_ruleOf l hfl hR (i := i)) (gk_gV q_12_21 q_12_22 q_12_23 q_1_2 q_13_0) ⟨rfl, by decide +kernel, by decide +kernel, by decide +kernel⟩ ⟨(Nat.le_of_ble_eq_true rfl), (Nat.le_of_ble_eq_true rfl)⟩ hP hS (gk_recv hK.2.2.1.1 hP hR.1 rfl) rfl hl.1 rfl (Nat.le_of_ble_eq_true rfl) dX4_setOld_2 ⟨(Nat.le_of_ble_eq_true rfl), (Nat.le_of_ble_eq_true rfl)⟩ (fun E ce q9 G1 H locs hx hP hS h1 h2 h3 => gk_out hex hlk hP hS h1 h2 h3 (Or.inl hx) (Nat.le_of_ble_eq_true rfl) (Nat.le_of_ble_eq_true rfl)) (fun v G1 H locs hw hP hS => ?_)
  obtain ⟨r_1, hr_1, rfl, rfl, hG9⟩ := hw
  rw [hG9] at hP
  refine W.eq (g2 := F0 m 5 ls [.ref (ly_f y 0 r_1)]) rfl ?_
  refine lv_astore (lv' := [(7, .ref (ly_f y 0 r_1)), (0, .ref (ly_a y 0)), (1, .int (nI r_1)), (2, .int kp), (3, .int gr), (4, .int b1), (5, .int b2), (6, .int b3)]) hK.1.1 hK.1.2.1 dX4_setOld_5 hl (by decide) rfl (fun ls hl => ?_)
  refine lv_iload_n hK.1.1 hK.1.2.1 dX4_setOld_7 rfl (lv_at hl 3 rfl) ?_
  refine lv_iconst (v := 0) hK.1.1 hK.1.2.1 dX4_setOld_8 (by decide) ?_
  refine lv_bipush (v := 10) hK.1.1 hK.1.2.1 dX4_setOld_9 (by decide) ?_
  refine gk_callS (n := 3) (As := [.int kp, .int 0, .int 10]) (rest := []) hK (c_X4_requireRange l hfl hR (x := kp) (a := 0) (b := 10)) (gk_gS q_13_1 q_13_2 q_1_2 q_13_3) ⟨by decide +kernel, by decide +kernel, by decide +kernel⟩ ⟨(Nat.le_of_ble_eq_true rfl), (Nat.le_of_ble_eq_true rfl)⟩ hP hS rfl hl.1 rfl (Nat.le_of_ble_eq_true rfl) dX4_setOld_11 ⟨(Nat.le_of_ble_eq_true rfl), (Nat.le_of_ble_eq_true rfl)⟩ (fun E ce q9 G1 H locs hx hP hS h1 h2 h3 => gk_out hex hlk hP hS h1 h2 h3 (Or.inr ⟨hx.1, hx.2.1, rg_out_no hr_1 (by decide), fun h => hx.2.2 h.1⟩) (Nat.le_of_ble_eq_true rfl) (Nat.le_of_ble_eq_true rfl)) (fun v G1 H locs hw hP hS => ?_)
  obtain ⟨rfl, hG9, g_2⟩ := hw
  rw [hG9] at hP
  refine W.eq (g2 := F0 m 14 ls []) rfl ?_
  refine lv_iload_n hK.1.1 hK.1.2.1 dX4_setOld_14 rfl (lv_at hl 4 rfl) ?_
  refine lv_iconst (v := 0) hK.1.1 hK.1.2.1 dX4_setOld_15 (by decide) ?_
  refine lv_sipush (v := 1000) hK.1.1 hK.1.2.1 dX4_setOld_16 (by decide) ?_
  refine gk_callS (n := 3) (As := [.int gr, .int 0, .int 1000]) (rest := []) hK (c_X4_requireRange l hfl hR (x := gr) (a := 0) (b := 1000)) (gk_gS q_13_1 q_13_2 q_1_2 q_13_3) ⟨by decide +kernel, by decide +kernel, by decide +kernel⟩ ⟨(Nat.le_of_ble_eq_true rfl), (Nat.le_of_ble_eq_true rfl)⟩ hP hS rfl hl.1 rfl (Nat.le_of_ble_eq_true rfl) dX4_setOld_19 ⟨(Nat.le_of_ble_eq_true rfl), (Nat.le_of_ble_eq_true rfl)⟩ (fun E ce q9 G1 H locs hx hP hS h1 h2 h3 => gk_out hex hlk hP hS h1 h2 h3 (Or.inr ⟨hx.1, hx.2.1, rg_out_no hr_1 (by decide), fun h => hx.2.2 h.2⟩) (Nat.le_of_ble_eq_true rfl) (Nat.le_of_ble_eq_true rfl)) (fun v G1 H locs hw hP hS => ?_)
  obtain ⟨rfl, hG9, g_3⟩ := hw
  rw [hG9] at hP
  refine W.eq (g2 := F0 m 22 ls []) rfl ?_
  refine lv_aload hK.1.1 hK.1.2.1 dX4_setOld_22 (lv_at hl 0 rfl) ?_
  refine lv_iload_n hK.1.1 hK.1.2.1 dX4_setOld_24 rfl (lv_at hl 3 rfl) ?_
  refine tw_55 hK hP hS hR hr_1 dX4_setOld_25 (fun H locs G hP hS hR => ?_)
  refine lv_aload hK.1.1 hK.1.2.1 dX4_setOld_28 (lv_at hl 0 rfl) ?_
  refine lv_iload_n hK.1.1 hK.1.2.1 dX4_setOld_30 rfl (lv_at hl 4 rfl) ?_
  refine tw_58 hK hP hS hR hr_1 dX4_setOld_31 (fun H locs G hP hS hR => ?_)
  refine lv_aload hK.1.1 hK.1.2.1 dX4_setOld_34 (lv_at hl 0 rfl) ?_
  refine lv_iload hK.1.1 hK.1.2.1 dX4_setOld_36 (lv_at hl 5 rfl) ?_
  refine tw_61 hK hP hS hR hr_1 hb1 dX4_setOld_38 (fun H locs G hP hS hR => ?_)
  refine lv_aload hK.1.1 hK.1.2.1 dX4_setOld_41 (lv_at hl 0 rfl) ?_
  refine lv_iload hK.1.1 hK.1.2.1 dX4_setOld_43 (lv_at hl 6 rfl) ?_
  refine tw_65 hK hP hS hR hr_1 hb2 dX4_setOld_45 (fun H locs G hP hS hR => ?_)
  refine lv_aload hK.1.1 hK.1.2.1 dX4_setOld_48 (lv_at hl 0 rfl) ?_
  refine lv_iload hK.1.1 hK.1.2.1 dX4_setOld_50 (lv_at hl 7 rfl) ?_
  refine tw_68 hK hP hS hR hr_1 hb3 dX4_setOld_52 (fun H locs G hP hS hR => ?_)
  exact vx_ret (gk_vret0 hK.1 hret hlk hP hS (Nat.le_of_ble_eq_true rfl) (Nat.le_of_ble_eq_true rfl) dX4_setOld_55 ⟨r_1, hr_1, rfl, rfl, ⟨g_2, g_3⟩, hR⟩)
set_option maxHeartbeats 4000000 in
set_option maxRecDepth 100000 in
theorem c_X4_give (l : Launch) {y : ly_T} {A : Nat → Prop} {G : gk_G} {td : Int32} {ru : Nat → Nat → Int32} {fr lv : Nat → Nat} {lt et tl : Nat → Int32} {hf hp : Nat → Option Nat} {ol : Nat → List Nat} {PS : Nat → Prop} {pf : Nat → Nat → Int32} {i j : Int32}  (hfl : l.stackTraces = false) (hR : rp y G td ru fr lv lt et tl hf hp ol PS pf) : gk_M l yX4_give (Cond.code yX4_give cX4_give 6 (some .int)) 7 110 16 128 y A [.ref (ly_a y 0), .int i, .int j] G (fun v G1 => ∃ f r, f < 5 ∧ r < 3 ∧ i = nI f ∧ j = nI r ∧ v = some (.int (nI (fr f))) ∧ rp y G1 td ru (va_up fr f r) lv lt et tl hf hp ol PS pf) (fun E G1 => E = "java/lang/IndexOutOfBoundsException" ∧ G1 = G ∧ (rg_out i 5 ∨ rg_out j 3)) := by
  refine gk_ofX (cc := cX4_give) (maxL := 6) (ret := (some .int)) (own := RX4) (by decide +kernel) rfl rfl (Nat.le_of_ble_eq_true rfl) ?_
  intro p e s m below meth c ls hK hret hlk hex hP hS hl
  have hl : lv_has ls 6 [(0, .ref (ly_a y 0)), (1, .int i), (2, .int j)] := hl
  refine lv_aload_n hK.1.1 hK.1.2.1 dX4_give_0 rfl (lv_at hl 0 rfl) ?_
  refine lv_iload_n hK.1.1 hK.1.2.1 dX4_give_1 rfl (lv_at hl 1 rfl) ?_
  refine gk_callV (n := 1) (As := [.int i]) (rest := []) hK (c_X4_fileOf l hfl hR (i := i)) (gk_gV q_11_13 q_11_14 q_11_15 q_1_2 q_11_16) ⟨rfl, by decide +kernel, by decide +kernel, by decide +kernel⟩ ⟨(Nat.le_of_ble_eq_true rfl), (Nat.le_of_ble_eq_true rfl)⟩ hP hS (gk_recv hK.2.2.1.1 hP hR.1 rfl) rfl hl.1 rfl (Nat.le_of_ble_eq_true rfl) dX4_give_2 ⟨(Nat.le_of_ble_eq_true rfl), (Nat.le_of_ble_eq_true rfl)⟩ (fun E ce q9 G1 H locs hx hP hS h1 h2 h3 => gk_out hex hlk hP hS h1 h2 h3 ⟨hx.1, hx.2.1, Or.inl hx.2.2⟩ (Nat.le_of_ble_eq_true rfl) (Nat.le_of_ble_eq_true rfl)) (fun v G1 H locs hw hP hS => ?_)
  obtain ⟨f_1, hf_1, rfl, rfl, hG9⟩ := hw
  rw [hG9] at hP
  refine W.eq (g2 := F0 m 5 ls [.ref (ly_f y 1 f_1)]) rfl ?_
  refine lv_astore_n (lv' := [(3, .ref (ly_f y 1 f_1)), (0, .ref (ly_a y 0)), (1, .int (nI f_1)), (2, .int j)]) hK.1.1 hK.1.2.1 dX4_give_5 rfl hl (by decide) rfl (fun ls hl => ?_)
  refine lv_aload_n hK.1.1 hK.1.2.1 dX4_give_6 rfl (lv_at hl 1 rfl) ?_
  refine lv_iload_n hK.1.1 hK.1.2.1 dX4_give_7 rfl (lv_at hl 3 rfl) ?_
  refine gk_callV (n := 1) (As := [.int j]) (rest := []) hK (c_X4_ruleOf l hfl hR (i := j)) (gk_gV q_12_21 q_12_22 q_12_23 q_1_2 q_13_0) ⟨rfl, by decide +kernel, by decide +kernel, by decide +kernel⟩ ⟨(Nat.le_of_ble_eq_true rfl), (Nat.le_of_ble_eq_true rfl)⟩ hP hS (gk_recv hK.2.2.1.1 hP hR.1 rfl) rfl hl.1 rfl (Nat.le_of_ble_eq_true rfl) dX4_give_8 ⟨(Nat.le_of_ble_eq_true rfl), (Nat.le_of_ble_eq_true rfl)⟩ (fun E ce q9 G1 H locs hx hP hS h1 h2 h3 => gk_out hex hlk hP hS h1 h2 h3 ⟨hx.1, hx.2.1, Or.inr hx.2.2⟩ (Nat.le_of_ble_eq_true rfl) (Nat.le_of_ble_eq_true rfl)) (fun v G1 H locs hw hP hS => ?_)
  obtain ⟨r_2, hr_2, rfl, rfl, hG9⟩ := hw
  rw [hG9] at hP
  refine W.eq (g2 := F0 m 11 ls [.ref (ly_f y 0 r_2)]) rfl ?_
  refine lv_astore (lv' := [(4, .ref (ly_f y 0 r_2)), (3, .ref (ly_f y 1 f_1)), (0, .ref (ly_a y 0)), (1, .int (nI f_1)), (2, .int (nI r_2))]) hK.1.1 hK.1.2.1 dX4_give_11 hl (by decide) rfl (fun ls hl => ?_)
  refine lv_aload_n hK.1.1 hK.1.2.1 dX4_give_13 rfl (lv_at hl 1 rfl) ?_
  refine tr_75 hK hP hR hf_1 dX4_give_14 ?_
  refine tr_79 hK hP hR (hR.2.2.2.1 f_1 hf_1).1 dX4_give_17 ?_
  refine lv_istore (lv' := [(5, .int (nI (fr f_1))), (4, .ref (ly_f y 0 r_2)), (3, .ref (ly_f y 1 f_1)), (0, .ref (ly_a y 0)), (1, .int (nI f_1)), (2, .int (nI r_2))]) hK.1.1 hK.1.2.1 dX4_give_20 hl (by decide) rfl (fun ls hl => ?_)
  refine lv_aload_n hK.1.1 hK.1.2.1 dX4_give_22 rfl (lv_at hl 2 rfl) ?_
  refine lv_aload hK.1.1 hK.1.2.1 dX4_give_23 (lv_at hl 1 rfl) ?_
  refine tw_75 hK hP hS hR hf_1 hr_2 dX4_give_25 (fun H locs G hP hS hR => ?_)
  refine lv_iload hK.1.1 hK.1.2.1 dX4_give_28 (lv_at hl 0 rfl) ?_
  exact vx_ret (gk_iret0 hK.1 hret hlk hP hS (Nat.le_of_ble_eq_true rfl) (Nat.le_of_ble_eq_true rfl) dX4_give_30 ⟨f_1, r_2, hf_1, hr_2, rfl, rfl, rfl, hR⟩)
set_option maxHeartbeats 4000000 in
set_option maxRecDepth 100000 in
theorem c_X4_open (l : Launch) {y : ly_T} {A : Nat → Prop} {G : gk_G} {td : Int32} {ru : Nat → Nat → Int32} {fr lv : Nat → Nat} {lt et tl : Nat → Int32} {hf hp : Nat → Option Nat} {ol : Nat → List Nat} {PS : Nat → Prop} {pf : Nat → Nat → Int32} {i j : Int32}  (hfl : l.stackTraces = false) (hR : rp y G td ru fr lv lt et tl hf hp ol PS pf) : gk_M l yX4_open (Cond.code yX4_open cX4_open 5 none) 7 110 16 128 y A [.ref (ly_a y 0), .int i, .int j] G (fun v G1 => ∃ h f, h < 4 ∧ f < 5 ∧ i = nI h ∧ j = nI f ∧ v = none ∧ rp y G1 td ru fr lv lt et tl (va_up hf h (some f)) (va_up hp h (some (lv f))) ol PS pf) (fun E G1 => E = "java/lang/IndexOutOfBoundsException" ∧ G1 = G ∧ (rg_out i 4 ∨ rg_out j 5)) := by
  refine gk_ofX (cc := cX4_open) (maxL := 5) (ret := none) (own := RX4) (by decide +kernel) rfl rfl (Nat.le_of_ble_eq_true rfl) ?_
  intro p e s m below meth c ls hK hret hlk hex hP hS hl
  have hl : lv_has ls 5 [(0, .ref (ly_a y 0)), (1, .int i), (2, .int j)] := hl
  refine lv_aload_n hK.1.1 hK.1.2.1 dX4_open_0 rfl (lv_at hl 0 rfl) ?_
  refine lv_iload_n hK.1.1 hK.1.2.1 dX4_open_1 rfl (lv_at hl 1 rfl) ?_
  refine gk_callV (n := 1) (As := [.int i]) (rest := []) hK (c_X4_holderOf l hfl hR (i := i)) (gk_gV q_10_20 q_10_21 q_10_22 q_1_2 q_10_23) ⟨rfl, by decide +kernel, by decide +kernel, by decide +kernel⟩ ⟨(Nat.le_of_ble_eq_true rfl), (Nat.le_of_ble_eq_true rfl)⟩ hP hS (gk_recv hK.2.2.1.1 hP hR.1 rfl) rfl hl.1 rfl (Nat.le_of_ble_eq_true rfl) dX4_open_2 ⟨(Nat.le_of_ble_eq_true rfl), (Nat.le_of_ble_eq_true rfl)⟩ (fun E ce q9 G1 H locs hx hP hS h1 h2 h3 => gk_out hex hlk hP hS h1 h2 h3 ⟨hx.1, hx.2.1, Or.inl hx.2.2⟩ (Nat.le_of_ble_eq_true rfl) (Nat.le_of_ble_eq_true rfl)) (fun v G1 H locs hw hP hS => ?_)
  obtain ⟨h_1, hh_1, rfl, rfl, hG9⟩ := hw
  rw [hG9] at hP
  refine W.eq (g2 := F0 m 5 ls [.ref (ly_f y 2 h_1)]) rfl ?_
  refine lv_astore_n (lv' := [(3, .ref (ly_f y 2 h_1)), (0, .ref (ly_a y 0)), (1, .int (nI h_1)), (2, .int j)]) hK.1.1 hK.1.2.1 dX4_open_5 rfl hl (by decide) rfl (fun ls hl => ?_)
  refine lv_aload_n hK.1.1 hK.1.2.1 dX4_open_6 rfl (lv_at hl 1 rfl) ?_
  refine lv_iload_n hK.1.1 hK.1.2.1 dX4_open_7 rfl (lv_at hl 3 rfl) ?_
  refine gk_callV (n := 1) (As := [.int j]) (rest := []) hK (c_X4_fileOf l hfl hR (i := j)) (gk_gV q_11_13 q_11_14 q_11_15 q_1_2 q_11_16) ⟨rfl, by decide +kernel, by decide +kernel, by decide +kernel⟩ ⟨(Nat.le_of_ble_eq_true rfl), (Nat.le_of_ble_eq_true rfl)⟩ hP hS (gk_recv hK.2.2.1.1 hP hR.1 rfl) rfl hl.1 rfl (Nat.le_of_ble_eq_true rfl) dX4_open_8 ⟨(Nat.le_of_ble_eq_true rfl), (Nat.le_of_ble_eq_true rfl)⟩ (fun E ce q9 G1 H locs hx hP hS h1 h2 h3 => gk_out hex hlk hP hS h1 h2 h3 ⟨hx.1, hx.2.1, Or.inr hx.2.2⟩ (Nat.le_of_ble_eq_true rfl) (Nat.le_of_ble_eq_true rfl)) (fun v G1 H locs hw hP hS => ?_)
  obtain ⟨f_2, hf_2, rfl, rfl, hG9⟩ := hw
  rw [hG9] at hP
  refine W.eq (g2 := F0 m 11 ls [.ref (ly_f y 1 f_2)]) rfl ?_
  refine lv_astore (lv' := [(4, .ref (ly_f y 1 f_2)), (3, .ref (ly_f y 2 h_1)), (0, .ref (ly_a y 0)), (1, .int (nI h_1)), (2, .int (nI f_2))]) hK.1.1 hK.1.2.1 dX4_open_11 hl (by decide) rfl (fun ls hl => ?_)
  refine lv_aload_n hK.1.1 hK.1.2.1 dX4_open_13 rfl (lv_at hl 1 rfl) ?_
  refine lv_aload hK.1.1 hK.1.2.1 dX4_open_14 (lv_at hl 0 rfl) ?_
  refine tw_86 hK hP hS hR hh_1 (some f_2) (fun _ h => by cases h; exact hf_2) dX4_open_16 (fun H locs G hP hS hR => ?_)
  refine lv_aload_n hK.1.1 hK.1.2.1 dX4_open_19 rfl (lv_at hl 1 rfl) ?_
  refine lv_aload hK.1.1 hK.1.2.1 dX4_open_20 (lv_at hl 0 rfl) ?_
  refine tr_90 hK hP hR hf_2 dX4_open_22 ?_
  refine tw_94 hK hP hS hR hh_1 (some (lv f_2)) dX4_open_25 (fun H locs G hP hS hR => ?_)
  exact vx_ret (gk_vret0 hK.1 hret hlk hP hS (Nat.le_of_ble_eq_true rfl) (Nat.le_of_ble_eq_true rfl) dX4_open_28 ⟨h_1, f_2, hh_1, hf_2, rfl, rfl, rfl, hR⟩)
set_option maxHeartbeats 4000000 in
set_option maxRecDepth 100000 in
theorem c_X4_shut (l : Launch) {y : ly_T} {A : Nat → Prop} {G : gk_G} {td : Int32} {ru : Nat → Nat → Int32} {fr lv : Nat → Nat} {lt et tl : Nat → Int32} {hf hp : Nat → Option Nat} {ol : Nat → List Nat} {PS : Nat → Prop} {pf : Nat → Nat → Int32} {i : Int32}  (hfl : l.stackTraces = false) (hR : rp y G td ru fr lv lt et tl hf hp ol PS pf) : gk_M l yX4_shut (Cond.code yX4_shut cX4_shut 4 (some .boolean)) 7 110 16 128 y A [.ref (ly_a y 0), .int i] G (fun v G1 => ∃ h, h < 4 ∧ i = nI h ∧ v = some (.int (rg_b (hp h).isSome)) ∧ rp y G1 td ru fr lv lt et tl (va_up hf h none) (va_up hp h none) ol PS pf) (fun E G1 => E = "java/lang/IndexOutOfBoundsException" ∧ G1 = G ∧ rg_out i 4) := by
  refine gk_ofX (cc := cX4_shut) (maxL := 4) (ret := (some .boolean)) (own := RX4) (by decide +kernel) rfl rfl (Nat.le_of_ble_eq_true rfl) ?_
  intro p e s m below meth c ls hK hret hlk hex hP hS hl
  have hl : lv_has ls 4 [(0, .ref (ly_a y 0)), (1, .int i)] := hl
  refine lv_aload_n hK.1.1 hK.1.2.1 dX4_shut_0 rfl (lv_at hl 0 rfl) ?_
  refine lv_iload_n hK.1.1 hK.1.2.1 dX4_shut_1 rfl (lv_at hl 1 rfl) ?_
  refine gk_callV (n := 1) (As := [.int i]) (rest := []) hK (c_X4_holderOf l hfl hR (i := i)) (gk_gV q_10_20 q_10_21 q_10_22 q_1_2 q_10_23) ⟨rfl, by decide +kernel, by decide +kernel, by decide +kernel⟩ ⟨(Nat.le_of_ble_eq_true rfl), (Nat.le_of_ble_eq_true rfl)⟩ hP hS (gk_recv hK.2.2.1.1 hP hR.1 rfl) rfl hl.1 rfl (Nat.le_of_ble_eq_true rfl) dX4_shut_2 ⟨(Nat.le_of_ble_eq_true rfl), (Nat.le_of_ble_eq_true rfl)⟩ (fun E ce q9 G1 H locs hx hP hS h1 h2 h3 => gk_out hex hlk hP hS h1 h2 h3 hx (Nat.le_of_ble_eq_true rfl) (Nat.le_of_ble_eq_true rfl)) (fun v G1 H locs hw hP hS => ?_)
  obtain ⟨h_1, hh_1, rfl, rfl, hG9⟩ := hw
  rw [hG9] at hP
  refine W.eq (g2 := F0 m 5 ls [.ref (ly_f y 2 h_1)]) rfl ?_
  refine lv_astore_n (lv' := [(2, .ref (ly_f y 2 h_1)), (0, .ref (ly_a y 0)), (1, .int (nI h_1))]) hK.1.1 hK.1.2.1 dX4_shut_5 rfl hl (by decide) rfl (fun ls hl => ?_)
  refine lv_aload_n hK.1.1 hK.1.2.1 dX4_shut_6 rfl (lv_at hl 0 rfl) ?_
  rcases ep_3 : hp h_1 with _ | t_2
  · refine tr_94 hK hP hR hh_1 dX4_shut_7 ?_
    rw [ep_3]
    refine W.eq (g2 := F0 m 10 ls [.null]) rfl ?_
    refine lv_ifnullN (tgt := 17) hK.1.1 hK.1.2.1 dX4_shut_10 (by decide) ?_
    refine lv_iconst (v := 0) hK.1.1 hK.1.2.1 dX4_shut_17 (by decide) ?_
    refine lv_istore_n (lv' := [(3, .int 0), (2, .ref (ly_f y 2 h_1)), (0, .ref (ly_a y 0)), (1, .int (nI h_1))]) hK.1.1 hK.1.2.1 dX4_shut_18 rfl hl (by decide) rfl (fun ls hl => ?_)
    refine lv_aload_n hK.1.1 hK.1.2.1 dX4_shut_19 rfl (lv_at hl 1 rfl) ?_
    refine lv_null hK.1.1 hK.1.2.1 dX4_shut_20 ?_
    refine tw_86 hK hP hS hR hh_1 none (fun _ h => by cases h) dX4_shut_21 (fun H locs G hP hS hR => ?_)
    refine lv_aload_n hK.1.1 hK.1.2.1 dX4_shut_24 rfl (lv_at hl 1 rfl) ?_
    refine lv_null hK.1.1 hK.1.2.1 dX4_shut_25 ?_
    refine tw_94 hK hP hS hR hh_1 none dX4_shut_26 (fun H locs G hP hS hR => ?_)
    refine lv_iload_n hK.1.1 hK.1.2.1 dX4_shut_29 rfl (lv_at hl 0 rfl) ?_
    exact vx_ret (gk_zret0 hK.1 hret (by first | decide | exact (rp_nz (by first | assumption | (simp; done))).1) hlk hP hS (Nat.le_of_ble_eq_true rfl) (Nat.le_of_ble_eq_true rfl) dX4_shut_30 ⟨h_1, hh_1, rfl, by rw [ep_3]; rfl, hR⟩)
  · refine tr_94 hK hP hR hh_1 dX4_shut_7 ?_
    rw [ep_3]
    refine W.eq (g2 := F0 m 10 ls [.ref t_2]) rfl ?_
    refine lv_ifnull hK.1.1 hK.1.2.1 dX4_shut_10 ?_
    refine lv_iconst (v := 1) hK.1.1 hK.1.2.1 dX4_shut_13 (by decide) ?_
    refine lv_goto (tgt := 18) hK.1.1 hK.1.2.1 dX4_shut_14 (by decide) ?_
    refine lv_istore_n (lv' := [(3, .int 1), (2, .ref (ly_f y 2 h_1)), (0, .ref (ly_a y 0)), (1, .int (nI h_1))]) hK.1.1 hK.1.2.1 dX4_shut_18 rfl hl (by decide) rfl (fun ls hl => ?_)
    refine lv_aload_n hK.1.1 hK.1.2.1 dX4_shut_19 rfl (lv_at hl 1 rfl) ?_
    refine lv_null hK.1.1 hK.1.2.1 dX4_shut_20 ?_
    refine tw_86 hK hP hS hR hh_1 none (fun _ h => by cases h) dX4_shut_21 (fun H locs G hP hS hR => ?_)
    refine lv_aload_n hK.1.1 hK.1.2.1 dX4_shut_24 rfl (lv_at hl 1 rfl) ?_
    refine lv_null hK.1.1 hK.1.2.1 dX4_shut_25 ?_
    refine tw_94 hK hP hS hR hh_1 none dX4_shut_26 (fun H locs G hP hS hR => ?_)
    refine lv_iload_n hK.1.1 hK.1.2.1 dX4_shut_29 rfl (lv_at hl 0 rfl) ?_
    exact vx_ret (gk_zret0 hK.1 hret (by first | decide | exact (rp_nz (by first | assumption | (simp; done))).1) hlk hP hS (Nat.le_of_ble_eq_true rfl) (Nat.le_of_ble_eq_true rfl) dX4_shut_30 ⟨h_1, hh_1, rfl, by rw [ep_3]; rfl, hR⟩)
set_option maxHeartbeats 4000000 in
set_option maxRecDepth 100000 in
theorem c_X4_tell (l : Launch) {y : ly_T} {A : Nat → Prop} {G : gk_G} {td : Int32} {ru : Nat → Nat → Int32} {fr lv : Nat → Nat} {lt et tl : Nat → Int32} {hf hp : Nat → Option Nat} {ol : Nat → List Nat} {PS : Nat → Prop} {pf : Nat → Nat → Int32} {i : Int32}  (hfl : l.stackTraces = false) (hR : rp y G td ru fr lv lt et tl hf hp ol PS pf) : gk_M l yX4_tell (Cond.code yX4_tell cX4_tell 5 (some .boolean)) 7 110 16 128 y A [.ref (ly_a y 0), .int i] G (fun v G1 => ∃ h f, h < 4 ∧ f < 5 ∧ i = nI h ∧ hf h = some f ∧ v = some (.int (rg_b (decide (¬ hp h = some (lv f))))) ∧ rp y G1 td ru fr lv lt et tl hf (va_up hp h (some (lv f))) ol PS pf) (fun E G1 => (E = "java/lang/IndexOutOfBoundsException" ∧ G1 = G ∧ rg_out i 4) ∨ (E = "java/lang/IllegalStateException" ∧ G1 = G ∧ ∃ h, h < 4 ∧ i = nI h ∧ hf h = none)) := by
  refine gk_ofX (cc := cX4_tell) (maxL := 5) (ret := (some .boolean)) (own := RX4) (by decide +kernel) rfl rfl (Nat.le_of_ble_eq_true rfl) ?_
  intro p e s m below meth c ls hK hret hlk hex hP hS hl
  have hl : lv_has ls 5 [(0, .ref (ly_a y 0)), (1, .int i)] := hl
  refine lv_aload_n hK.1.1 hK.1.2.1 dX4_tell_0 rfl (lv_at hl 0 rfl) ?_
  refine lv_iload_n hK.1.1 hK.1.2.1 dX4_tell_1 rfl (lv_at hl 1 rfl) ?_
  refine gk_callV (n := 1) (As := [.int i]) (rest := []) hK (c_X4_holderOf l hfl hR (i := i)) (gk_gV q_10_20 q_10_21 q_10_22 q_1_2 q_10_23) ⟨rfl, by decide +kernel, by decide +kernel, by decide +kernel⟩ ⟨(Nat.le_of_ble_eq_true rfl), (Nat.le_of_ble_eq_true rfl)⟩ hP hS (gk_recv hK.2.2.1.1 hP hR.1 rfl) rfl hl.1 rfl (Nat.le_of_ble_eq_true rfl) dX4_tell_2 ⟨(Nat.le_of_ble_eq_true rfl), (Nat.le_of_ble_eq_true rfl)⟩ (fun E ce q9 G1 H locs hx hP hS h1 h2 h3 => gk_out hex hlk hP hS h1 h2 h3 (Or.inl hx) (Nat.le_of_ble_eq_true rfl) (Nat.le_of_ble_eq_true rfl)) (fun v G1 H locs hw hP hS => ?_)
  obtain ⟨h_1, hh_1, rfl, rfl, hG9⟩ := hw
  rw [hG9] at hP
  refine W.eq (g2 := F0 m 5 ls [.ref (ly_f y 2 h_1)]) rfl ?_
  refine lv_astore_n (lv' := [(2, .ref (ly_f y 2 h_1)), (0, .ref (ly_a y 0)), (1, .int (nI h_1))]) hK.1.1 hK.1.2.1 dX4_tell_5 rfl hl (by decide) rfl (fun ls hl => ?_)
  refine lv_aload_n hK.1.1 hK.1.2.1 dX4_tell_6 rfl (lv_at hl 0 rfl) ?_
  rcases ef_3 : hf h_1 with _ | f_2
  · refine tr_86 hK hP hR hh_1 dX4_tell_7 ?_
    rw [ef_3]
    refine W.eq (g2 := F0 m 10 ls [.null]) rfl ?_
    refine lv_astore_nN (lv' := [(3, .null), (2, .ref (ly_f y 2 h_1)), (0, .ref (ly_a y 0)), (1, .int (nI h_1))]) hK.1.1 hK.1.2.1 dX4_tell_10 rfl hl (by decide) rfl (fun ls hl => ?_)
    refine lv_aload_nN hK.1.1 hK.1.2.1 dX4_tell_11 rfl (lv_at hl 0 rfl) ?_
    refine lv_ifnonnullN hK.1.1 hK.1.2.1 dX4_tell_12 ?_
    exact gk_thr2 hK hfl hK.2.2.1.2.1.1 hP hS hl.1 hex hlk dX4_tell_15 dX4_tell_18 dX4_tell_19 dX4_tell_21 dX4_tell_24 ⟨(Nat.le_of_ble_eq_true rfl), (Nat.le_of_ble_eq_true rfl), (Nat.le_of_ble_eq_true rfl), (Nat.le_of_ble_eq_true rfl)⟩ ⟨(Nat.le_of_ble_eq_true rfl), (Nat.le_of_ble_eq_true rfl)⟩ (Or.inr ⟨rfl, rfl, h_1, hh_1, rfl, ef_3⟩)
  · have hf_2 : f_2 < 5 := (hR.2.2.2.2.1.1 h_1 hh_1).1 f_2 ef_3
    refine tr_86 hK hP hR hh_1 dX4_tell_7 ?_
    rw [ef_3]
    refine W.eq (g2 := F0 m 10 ls [.ref (ly_f y 1 f_2)]) rfl ?_
    refine lv_astore_n (lv' := [(3, .ref (ly_f y 1 f_2)), (2, .ref (ly_f y 2 h_1)), (0, .ref (ly_a y 0)), (1, .int (nI h_1))]) hK.1.1 hK.1.2.1 dX4_tell_10 rfl hl (by decide) rfl (fun ls hl => ?_)
    refine lv_aload_n hK.1.1 hK.1.2.1 dX4_tell_11 rfl (lv_at hl 0 rfl) ?_
    refine lv_ifnonnull (tgt := 25) hK.1.1 hK.1.2.1 dX4_tell_12 (by decide) ?_
    refine lv_aload_n hK.1.1 hK.1.2.1 dX4_tell_25 rfl (lv_at hl 1 rfl) ?_
    refine tr_94 hK hP hR hh_1 dX4_tell_26 ?_
    refine lv_aload_n hK.1.1 hK.1.2.1 dX4_tell_29 rfl (lv_at hl 0 rfl) ?_
    refine tr_90 hK hP hR hf_2 dX4_tell_30 ?_
    refine lv_acmp_eq (rx := hp h_1) (ry := some (lv f_2)) (tgt := 40) hK.1.1 hK.1.2.1 dX4_tell_33 (by decide) (fun c33_4 => ?_) (fun c33_4 => ?_)
    · refine lv_iconst (v := 0) hK.1.1 hK.1.2.1 dX4_tell_40 (by decide) ?_
      refine lv_istore (lv' := [(4, .int 0), (3, .ref (ly_f y 1 f_2)), (2, .ref (ly_f y 2 h_1)), (0, .ref (ly_a y 0)), (1, .int (nI h_1))]) hK.1.1 hK.1.2.1 dX4_tell_41 hl (by decide) rfl (fun ls hl => ?_)
      refine lv_aload_n hK.1.1 hK.1.2.1 dX4_tell_43 rfl (lv_at hl 2 rfl) ?_
      refine lv_aload_n hK.1.1 hK.1.2.1 dX4_tell_44 rfl (lv_at hl 1 rfl) ?_
      refine tr_90 hK hP hR hf_2 dX4_tell_45 ?_
      refine tw_94 hK hP hS hR hh_1 (some (lv f_2)) dX4_tell_48 (fun H locs G hP hS hR => ?_)
      refine lv_iload hK.1.1 hK.1.2.1 dX4_tell_51 (lv_at hl 0 rfl) ?_
      exact vx_ret (gk_zret0 hK.1 hret (by first | decide | exact (rp_nz (by first | assumption | (simp; done))).1) hlk hP hS (Nat.le_of_ble_eq_true rfl) (Nat.le_of_ble_eq_true rfl) dX4_tell_53 ⟨h_1, f_2, hh_1, hf_2, rfl, ef_3, (by (try simp only [rg_b0, rg_b1, Bool.not_eq_false, Bool.not_eq_true] at c33_4); simp [rg_b, c33_4]), hR⟩)
    · refine lv_iconst (v := 1) hK.1.1 hK.1.2.1 dX4_tell_36 (by decide) ?_
      refine lv_goto (tgt := 41) hK.1.1 hK.1.2.1 dX4_tell_37 (by decide) ?_
      refine lv_istore (lv' := [(4, .int 1), (3, .ref (ly_f y 1 f_2)), (2, .ref (ly_f y 2 h_1)), (0, .ref (ly_a y 0)), (1, .int (nI h_1))]) hK.1.1 hK.1.2.1 dX4_tell_41 hl (by decide) rfl (fun ls hl => ?_)
      refine lv_aload_n hK.1.1 hK.1.2.1 dX4_tell_43 rfl (lv_at hl 2 rfl) ?_
      refine lv_aload_n hK.1.1 hK.1.2.1 dX4_tell_44 rfl (lv_at hl 1 rfl) ?_
      refine tr_90 hK hP hR hf_2 dX4_tell_45 ?_
      refine tw_94 hK hP hS hR hh_1 (some (lv f_2)) dX4_tell_48 (fun H locs G hP hS hR => ?_)
      refine lv_iload hK.1.1 hK.1.2.1 dX4_tell_51 (lv_at hl 0 rfl) ?_
      exact vx_ret (gk_zret0 hK.1 hret (by first | decide | exact (rp_nz (by first | assumption | (simp; done))).1) hlk hP hS (Nat.le_of_ble_eq_true rfl) (Nat.le_of_ble_eq_true rfl) dX4_tell_53 ⟨h_1, f_2, hh_1, hf_2, rfl, ef_3, (by (try simp only [rg_b0, rg_b1, Bool.not_eq_false, Bool.not_eq_true] at c33_4); simp [rg_b, c33_4]), hR⟩)
set_option maxHeartbeats 4000000 in
set_option maxRecDepth 100000 in
theorem c_X4_write (l : Launch) {y : ly_T} {A : Nat → Prop} {G : gk_G} {td : Int32} {ru : Nat → Nat → Int32} {fr lv : Nat → Nat} {lt et tl : Nat → Int32} {hf hp : Nat → Option Nat} {ol : Nat → List Nat} {PS : Nat → Prop} {pf : Nat → Nat → Int32} {i n : Int32}  (hfl : l.stackTraces = false) (hR : rp y G td ru fr lv lt et tl hf hp ol PS pf) (hLp : ∀ h, h < 4 → ∀ t, hp h = some t → PS t) : gk_M l yX4_write (Cond.code yX4_write cX4_write 4 (some .int)) 7 110 16 128 y A [.ref (ly_a y 0), .int i, .int n] G (fun v G1 => ∃ h t, h < 4 ∧ i = nI h ∧ hp h = some t ∧ rg_in n 1 1000 ∧ v = some (.int (pf 0 t + n)) ∧ rp y G1 td ru fr lv lt et tl hf hp ol PS (rp_u2 pf 0 t (pf 0 t + n))) (fun E G1 => (E = "java/lang/IndexOutOfBoundsException" ∧ G1 = G ∧ rg_out i 4) ∨ (E = "java/lang/IllegalArgumentException" ∧ G1 = G ∧ ¬ rg_out i 4 ∧ ¬ rg_in n 1 1000) ∨ (E = "java/lang/IllegalStateException" ∧ G1 = G ∧ rg_in n 1 1000 ∧ ∃ h, h < 4 ∧ i = nI h ∧ hp h = none)) := by
  refine gk_ofX (cc := cX4_write) (maxL := 4) (ret := (some .int)) (own := RX4) (by decide +kernel) rfl rfl (Nat.le_of_ble_eq_true rfl) ?_
  intro p e s m below meth c ls hK hret hlk hex hP hS hl
  have hl : lv_has ls 4 [(0, .ref (ly_a y 0)), (1, .int i), (2, .int n)] := hl
  refine lv_aload_n hK.1.1 hK.1.2.1 dX4_write_0 rfl (lv_at hl 0 rfl) ?_
  refine lv_iload_n hK.1.1 hK.1.2.1 dX4_write_1 rfl (lv_at hl 1 rfl) ?_
  refine gk_callV (n := 1) (As := [.int i]) (rest := []) hK (c_X4_holderOf l hfl hR (i := i)) (gk_gV q_10_20 q_10_21 q_10_22 q_1_2 q_10_23) ⟨rfl, by decide +kernel, by decide +kernel, by decide +kernel⟩ ⟨(Nat.le_of_ble_eq_true rfl), (Nat.le_of_ble_eq_true rfl)⟩ hP hS (gk_recv hK.2.2.1.1 hP hR.1 rfl) rfl hl.1 rfl (Nat.le_of_ble_eq_true rfl) dX4_write_2 ⟨(Nat.le_of_ble_eq_true rfl), (Nat.le_of_ble_eq_true rfl)⟩ (fun E ce q9 G1 H locs hx hP hS h1 h2 h3 => gk_out hex hlk hP hS h1 h2 h3 (Or.inl hx) (Nat.le_of_ble_eq_true rfl) (Nat.le_of_ble_eq_true rfl)) (fun v G1 H locs hw hP hS => ?_)
  obtain ⟨h_1, hh_1, rfl, rfl, hG9⟩ := hw
  rw [hG9] at hP
  refine W.eq (g2 := F0 m 5 ls [.ref (ly_f y 2 h_1)]) rfl ?_
  rcases ep_3 : hp h_1 with _ | t_2
  · refine tr_94 hK hP hR hh_1 dX4_write_5 ?_
    rw [ep_3]
    refine W.eq (g2 := F0 m 8 ls [.null]) rfl ?_
    refine lv_astore_nN (lv' := [(3, .null), (0, .ref (ly_a y 0)), (1, .int (nI h_1)), (2, .int n)]) hK.1.1 hK.1.2.1 dX4_write_8 rfl hl (by decide) rfl (fun ls hl => ?_)
    refine lv_iload_n hK.1.1 hK.1.2.1 dX4_write_9 rfl (lv_at hl 3 rfl) ?_
    refine lv_iconst (v := 1) hK.1.1 hK.1.2.1 dX4_write_10 (by decide) ?_
    refine lv_sipush (v := 1000) hK.1.1 hK.1.2.1 dX4_write_11 (by decide) ?_
    refine gk_callS (n := 3) (As := [.int n, .int 1, .int 1000]) (rest := []) hK (c_X4_requireRange l hfl hR (x := n) (a := 1) (b := 1000)) (gk_gS q_13_1 q_13_2 q_1_2 q_13_3) ⟨by decide +kernel, by decide +kernel, by decide +kernel⟩ ⟨(Nat.le_of_ble_eq_true rfl), (Nat.le_of_ble_eq_true rfl)⟩ hP hS rfl hl.1 rfl (Nat.le_of_ble_eq_true rfl) dX4_write_14 ⟨(Nat.le_of_ble_eq_true rfl), (Nat.le_of_ble_eq_true rfl)⟩ (fun E ce q9 G1 H locs hx hP hS h1 h2 h3 => gk_out hex hlk hP hS h1 h2 h3 (Or.inr (Or.inl ⟨hx.1, hx.2.1, rg_out_no hh_1 (by decide), hx.2.2⟩)) (Nat.le_of_ble_eq_true rfl) (Nat.le_of_ble_eq_true rfl)) (fun v G1 H locs hw hP hS => ?_)
    obtain ⟨rfl, hG9, g_4⟩ := hw
    rw [hG9] at hP
    refine W.eq (g2 := F0 m 17 ls []) rfl ?_
    refine lv_aload_nN hK.1.1 hK.1.2.1 dX4_write_17 rfl (lv_at hl 0 rfl) ?_
    refine lv_ifnonnullN hK.1.1 hK.1.2.1 dX4_write_18 ?_
    exact gk_thr2 hK hfl hK.2.2.1.2.1.1 hP hS hl.1 hex hlk dX4_write_21 dX4_write_24 dX4_write_25 dX4_write_27 dX4_write_30 ⟨(Nat.le_of_ble_eq_true rfl), (Nat.le_of_ble_eq_true rfl), (Nat.le_of_ble_eq_true rfl), (Nat.le_of_ble_eq_true rfl)⟩ ⟨(Nat.le_of_ble_eq_true rfl), (Nat.le_of_ble_eq_true rfl)⟩ (Or.inr (Or.inr ⟨rfl, rfl, g_4, h_1, hh_1, rfl, ep_3⟩))
  · have ht_2 : PS t_2 := hLp h_1 hh_1 t_2 ep_3
    refine tr_94 hK hP hR hh_1 dX4_write_5 ?_
    rw [ep_3]
    refine W.eq (g2 := F0 m 8 ls [.ref t_2]) rfl ?_
    refine lv_astore_n (lv' := [(3, .ref t_2), (0, .ref (ly_a y 0)), (1, .int (nI h_1)), (2, .int n)]) hK.1.1 hK.1.2.1 dX4_write_8 rfl hl (by decide) rfl (fun ls hl => ?_)
    refine lv_iload_n hK.1.1 hK.1.2.1 dX4_write_9 rfl (lv_at hl 3 rfl) ?_
    refine lv_iconst (v := 1) hK.1.1 hK.1.2.1 dX4_write_10 (by decide) ?_
    refine lv_sipush (v := 1000) hK.1.1 hK.1.2.1 dX4_write_11 (by decide) ?_
    refine gk_callS (n := 3) (As := [.int n, .int 1, .int 1000]) (rest := []) hK (c_X4_requireRange l hfl hR (x := n) (a := 1) (b := 1000)) (gk_gS q_13_1 q_13_2 q_1_2 q_13_3) ⟨by decide +kernel, by decide +kernel, by decide +kernel⟩ ⟨(Nat.le_of_ble_eq_true rfl), (Nat.le_of_ble_eq_true rfl)⟩ hP hS rfl hl.1 rfl (Nat.le_of_ble_eq_true rfl) dX4_write_14 ⟨(Nat.le_of_ble_eq_true rfl), (Nat.le_of_ble_eq_true rfl)⟩ (fun E ce q9 G1 H locs hx hP hS h1 h2 h3 => gk_out hex hlk hP hS h1 h2 h3 (Or.inr (Or.inl ⟨hx.1, hx.2.1, rg_out_no hh_1 (by decide), hx.2.2⟩)) (Nat.le_of_ble_eq_true rfl) (Nat.le_of_ble_eq_true rfl)) (fun v G1 H locs hw hP hS => ?_)
    obtain ⟨rfl, hG9, g_5⟩ := hw
    rw [hG9] at hP
    refine W.eq (g2 := F0 m 17 ls []) rfl ?_
    refine lv_aload_n hK.1.1 hK.1.2.1 dX4_write_17 rfl (lv_at hl 0 rfl) ?_
    refine lv_ifnonnull (tgt := 31) hK.1.1 hK.1.2.1 dX4_write_18 (by decide) ?_
    refine lv_aload_n hK.1.1 hK.1.2.1 dX4_write_31 rfl (lv_at hl 0 rfl) ?_
    refine lv_dup hK.1.1 hK.1.2.1 dX4_write_32 rfl ?_
    refine tr_104 hK hP hR ht_2 dX4_write_33 ?_
    refine lv_iload_n hK.1.1 hK.1.2.1 dX4_write_36 rfl (lv_at hl 3 rfl) ?_
    refine lv_iadd hK.1.1 hK.1.2.1 dX4_write_37 ?_
    refine tw_104 hK hP hS hR ht_2 dX4_write_38 (fun H locs G hP hS hR => ?_)
    refine lv_aload_n hK.1.1 hK.1.2.1 dX4_write_41 rfl (lv_at hl 0 rfl) ?_
    refine tr_104 hK hP hR ht_2 dX4_write_42 ?_
    exact vx_ret (gk_iret0 hK.1 hret hlk hP hS (Nat.le_of_ble_eq_true rfl) (Nat.le_of_ble_eq_true rfl) dX4_write_45 ⟨h_1, t_2, hh_1, rfl, ep_3, g_5, by rw [rp_u2s], hR⟩)
set_option maxHeartbeats 4000000 in
set_option maxRecDepth 100000 in
theorem c_X4_advance (l : Launch) {y : ly_T} {A : Nat → Prop} {G : gk_G} {td : Int32} {ru : Nat → Nat → Int32} {fr lv : Nat → Nat} {lt et tl : Nat → Int32} {hf hp : Nat → Option Nat} {ol : Nat → List Nat} {PS : Nat → Prop} {pf : Nat → Nat → Int32} {n : Int32}  (hfl : l.stackTraces = false) (hR : rp y G td ru fr lv lt et tl hf hp ol PS pf) : gk_M l yX4_advance (Cond.code yX4_advance cX4_advance 2 (some .int)) 7 110 16 128 y A [.ref (ly_a y 0), .int n] G (fun v G1 => rg_in n 1 100 ∧ td + n ≤ 5000 ∧ v = some (.int (td + n)) ∧ rp y G1 (td + n) ru fr lv lt et tl hf hp ol PS pf) (fun E G1 => (E = "java/lang/IllegalArgumentException" ∧ G1 = G ∧ ¬ rg_in n 1 100) ∨ (E = "java/lang/IllegalStateException" ∧ G1 = G ∧ rg_in n 1 100 ∧ ¬ td + n ≤ 5000)) := by
  refine gk_ofX (cc := cX4_advance) (maxL := 2) (ret := (some .int)) (own := RX4) (by decide +kernel) rfl rfl (Nat.le_of_ble_eq_true rfl) ?_
  intro p e s m below meth c ls hK hret hlk hex hP hS hl
  have hl : lv_has ls 2 [(0, .ref (ly_a y 0)), (1, .int n)] := hl
  refine lv_iload_n hK.1.1 hK.1.2.1 dX4_advance_0 rfl (lv_at hl 1 rfl) ?_
  refine lv_iconst (v := 1) hK.1.1 hK.1.2.1 dX4_advance_1 (by decide) ?_
  refine lv_bipush (v := 100) hK.1.1 hK.1.2.1 dX4_advance_2 (by decide) ?_
  refine gk_callS (n := 3) (As := [.int n, .int 1, .int 100]) (rest := []) hK (c_X4_requireRange l hfl hR (x := n) (a := 1) (b := 100)) (gk_gS q_13_1 q_13_2 q_1_2 q_13_3) ⟨by decide +kernel, by decide +kernel, by decide +kernel⟩ ⟨(Nat.le_of_ble_eq_true rfl), (Nat.le_of_ble_eq_true rfl)⟩ hP hS rfl hl.1 rfl (Nat.le_of_ble_eq_true rfl) dX4_advance_4 ⟨(Nat.le_of_ble_eq_true rfl), (Nat.le_of_ble_eq_true rfl)⟩ (fun E ce q9 G1 H locs hx hP hS h1 h2 h3 => gk_out hex hlk hP hS h1 h2 h3 (Or.inl hx) (Nat.le_of_ble_eq_true rfl) (Nat.le_of_ble_eq_true rfl)) (fun v G1 H locs hw hP hS => ?_)
  obtain ⟨rfl, hG9, g_1⟩ := hw
  rw [hG9] at hP
  refine W.eq (g2 := F0 m 7 ls []) rfl ?_
  refine lv_aload_n hK.1.1 hK.1.2.1 dX4_advance_7 rfl (lv_at hl 0 rfl) ?_
  refine tr_109 hK hP hR dX4_advance_8 ?_
  refine lv_iload_n hK.1.1 hK.1.2.1 dX4_advance_11 rfl (lv_at hl 1 rfl) ?_
  refine lv_iadd hK.1.1 hK.1.2.1 dX4_advance_12 ?_
  refine lv_sipush (v := 5000) hK.1.1 hK.1.2.1 dX4_advance_13 (by decide) ?_
  refine lv_icmp_le (tgt := 29) hK.1.1 hK.1.2.1 dX4_advance_16 (by decide) (fun c16_2 => ?_) (fun c16_2 => ?_)
  · refine lv_aload_n hK.1.1 hK.1.2.1 dX4_advance_29 rfl (lv_at hl 0 rfl) ?_
    refine lv_dup hK.1.1 hK.1.2.1 dX4_advance_30 rfl ?_
    refine tr_109 hK hP hR dX4_advance_31 ?_
    refine lv_iload_n hK.1.1 hK.1.2.1 dX4_advance_34 rfl (lv_at hl 1 rfl) ?_
    refine lv_iadd hK.1.1 hK.1.2.1 dX4_advance_35 ?_
    refine tw_109 hK hP hS hR dX4_advance_36 (fun H locs G hP hS hR => ?_)
    refine lv_aload_n hK.1.1 hK.1.2.1 dX4_advance_39 rfl (lv_at hl 0 rfl) ?_
    refine tr_109 hK hP hR dX4_advance_40 ?_
    exact vx_ret (gk_iret0 hK.1 hret hlk hP hS (Nat.le_of_ble_eq_true rfl) (Nat.le_of_ble_eq_true rfl) dX4_advance_43 ⟨g_1, c16_2, rfl, hR⟩)
  · exact gk_thr2 hK hfl hK.2.2.1.2.1.2.1 hP hS hl.1 hex hlk dX4_advance_19 dX4_advance_22 dX4_advance_23 dX4_advance_25 dX4_advance_28 ⟨(Nat.le_of_ble_eq_true rfl), (Nat.le_of_ble_eq_true rfl), (Nat.le_of_ble_eq_true rfl), (Nat.le_of_ble_eq_true rfl)⟩ ⟨(Nat.le_of_ble_eq_true rfl), (Nat.le_of_ble_eq_true rfl)⟩ (Or.inr ⟨rfl, rfl, g_1, c16_2⟩)
set_option maxHeartbeats 4000000 in
set_option maxRecDepth 100000 in
theorem c_X4_markTurnedToday (l : Launch) {y : ly_T} {A : Nat → Prop} {G : gk_G} {td : Int32} {ru : Nat → Nat → Int32} {fr lv : Nat → Nat} {lt et tl : Nat → Int32} {hf hp : Nat → Option Nat} {ol : Nat → List Nat} {PS : Nat → Prop} {pf : Nat → Nat → Int32} {f : Nat}  (hR : rp y G td ru fr lv lt et tl hf hp ol PS pf) (hf5 : f < 5) : gk_M0 l yX4_markTurnedToday (Cond.code yX4_markTurnedToday cX4_markTurnedToday 2 none) 0 0 0 0 y A [.ref (ly_a y 0), .ref (ly_f y 1 f)] G (fun v G1 => v = none ∧ rp y G1 td ru fr lv (va_up lt f td) (va_up et f 1) tl hf hp ol PS pf) := by
  refine gk_of0 (cc := cX4_markTurnedToday) (maxL := 2) (ret := none) (own := RX4) (by decide +kernel) rfl rfl (Nat.le_of_ble_eq_true rfl) ?_
  intro p e s m below meth c ls hK hret hlk _ hP hS hl
  have hl : lv_has ls 2 [(0, .ref (ly_a y 0)), (1, .ref (ly_f y 1 f))] := hl
  refine lv_aload_n hK.1.1 hK.1.2.1 dX4_markTurnedToday_0 rfl (lv_at hl 1 rfl) ?_
  refine lv_aload_n hK.1.1 hK.1.2.1 dX4_markTurnedToday_1 rfl (lv_at hl 0 rfl) ?_
  refine tr_109 hK hP hR dX4_markTurnedToday_2 ?_
  refine tw_130 hK hP hS hR hf5 dX4_markTurnedToday_5 (fun H locs G hP hS hR => ?_)
  refine lv_aload_n hK.1.1 hK.1.2.1 dX4_markTurnedToday_8 rfl (lv_at hl 1 rfl) ?_
  refine lv_iconst (v := 1) hK.1.1 hK.1.2.1 dX4_markTurnedToday_9 (by decide) ?_
  refine tw_198 hK hP hS hR hf5 (by decide) dX4_markTurnedToday_10 (fun H locs G hP hS hR => ?_)
  exact gk_vret0 hK.1 hret hlk hP hS (Nat.le_of_ble_eq_true rfl) (Nat.le_of_ble_eq_true rfl) dX4_markTurnedToday_13 ⟨rfl, hR⟩
set_option maxHeartbeats 4000000 in
set_option maxRecDepth 100000 in
theorem c_X4_lose (l : Launch) {y : ly_T} {A : Nat → Prop} {G : gk_G} {td : Int32} {ru : Nat → Nat → Int32} {fr lv : Nat → Nat} {lt et tl : Nat → Int32} {hf hp : Nat → Option Nat} {ol : Nat → List Nat} {PS : Nat → Prop} {pf : Nat → Nat → Int32} {i : Int32}  (hfl : l.stackTraces = false) (hR : rp y G td ru fr lv lt et tl hf hp ol PS pf) : gk_M l yX4_lose (Cond.code yX4_lose cX4_lose 4 (some .int)) 7 110 16 128 y A [.ref (ly_a y 0), .int i] G (fun v G1 => ∃ f, f < 5 ∧ i = nI f ∧ v = some (.int (lt f)) ∧ rp y G1 td ru fr lv (va_up lt f td) (va_up et f 1) tl hf hp ol PS pf) (fun E G1 => E = "java/lang/IndexOutOfBoundsException" ∧ G1 = G ∧ rg_out i 5) := by
  refine gk_ofX (cc := cX4_lose) (maxL := 4) (ret := (some .int)) (own := RX4) (by decide +kernel) rfl rfl (Nat.le_of_ble_eq_true rfl) ?_
  intro p e s m below meth c ls hK hret hlk hex hP hS hl
  have hl : lv_has ls 4 [(0, .ref (ly_a y 0)), (1, .int i)] := hl
  refine lv_aload_n hK.1.1 hK.1.2.1 dX4_lose_0 rfl (lv_at hl 0 rfl) ?_
  refine lv_iload_n hK.1.1 hK.1.2.1 dX4_lose_1 rfl (lv_at hl 1 rfl) ?_
  refine gk_callV (n := 1) (As := [.int i]) (rest := []) hK (c_X4_fileOf l hfl hR (i := i)) (gk_gV q_11_13 q_11_14 q_11_15 q_1_2 q_11_16) ⟨rfl, by decide +kernel, by decide +kernel, by decide +kernel⟩ ⟨(Nat.le_of_ble_eq_true rfl), (Nat.le_of_ble_eq_true rfl)⟩ hP hS (gk_recv hK.2.2.1.1 hP hR.1 rfl) rfl hl.1 rfl (Nat.le_of_ble_eq_true rfl) dX4_lose_2 ⟨(Nat.le_of_ble_eq_true rfl), (Nat.le_of_ble_eq_true rfl)⟩ (fun E ce q9 G1 H locs hx hP hS h1 h2 h3 => gk_out hex hlk hP hS h1 h2 h3 hx (Nat.le_of_ble_eq_true rfl) (Nat.le_of_ble_eq_true rfl)) (fun v G1 H locs hw hP hS => ?_)
  obtain ⟨f_1, hf_1, rfl, rfl, hG9⟩ := hw
  rw [hG9] at hP
  refine W.eq (g2 := F0 m 5 ls [.ref (ly_f y 1 f_1)]) rfl ?_
  refine lv_astore_n (lv' := [(2, .ref (ly_f y 1 f_1)), (0, .ref (ly_a y 0)), (1, .int (nI f_1))]) hK.1.1 hK.1.2.1 dX4_lose_5 rfl hl (by decide) rfl (fun ls hl => ?_)
  refine lv_aload_n hK.1.1 hK.1.2.1 dX4_lose_6 rfl (lv_at hl 0 rfl) ?_
  refine tr_130 hK hP hR hf_1 dX4_lose_7 ?_
  refine lv_istore_n (lv' := [(3, .int (lt f_1)), (2, .ref (ly_f y 1 f_1)), (0, .ref (ly_a y 0)), (1, .int (nI f_1))]) hK.1.1 hK.1.2.1 dX4_lose_10 rfl hl (by decide) rfl (fun ls hl => ?_)
  refine lv_aload_n hK.1.1 hK.1.2.1 dX4_lose_11 rfl (lv_at hl 2 rfl) ?_
  refine lv_aload_n hK.1.1 hK.1.2.1 dX4_lose_12 rfl (lv_at hl 1 rfl) ?_
  refine gk_callV0 (n := 1) (As := [.ref (ly_f y 1 f_1)]) (rest := []) hK (c_X4_markTurnedToday l hR (f := f_1) hf_1) (gk_gV q_7_22 q_7_23 q_8_0 q_1_2 q_8_1) ⟨rfl, by decide +kernel, by decide +kernel, by decide +kernel⟩ ⟨(Nat.le_of_ble_eq_true rfl), (Nat.le_of_ble_eq_true rfl)⟩ hP hS (gk_recv hK.2.2.1.1 hP hR.1 rfl) rfl hl.1 rfl (Nat.le_of_ble_eq_true rfl) dX4_lose_13 ⟨(Nat.le_of_ble_eq_true rfl), (Nat.le_of_ble_eq_true rfl)⟩ (fun v G1 H locs hw hP hS => ?_)
  obtain ⟨rfl, hR⟩ := hw
  refine W.eq (g2 := F0 m 16 ls []) rfl ?_
  refine lv_iload_n hK.1.1 hK.1.2.1 dX4_lose_16 rfl (lv_at hl 0 rfl) ?_
  exact vx_ret (gk_iret0 hK.1 hret hlk hP hS (Nat.le_of_ble_eq_true rfl) (Nat.le_of_ble_eq_true rfl) dX4_lose_17 ⟨f_1, hf_1, rfl, rfl, hR⟩)
set_option maxHeartbeats 4000000 in
set_option maxRecDepth 100000 in
theorem c_X4_day (l : Launch) {y : ly_T} {A : Nat → Prop} {G : gk_G} {td : Int32} {ru : Nat → Nat → Int32} {fr lv : Nat → Nat} {lt et tl : Nat → Int32} {hf hp : Nat → Option Nat} {ol : Nat → List Nat} {PS : Nat → Prop} {pf : Nat → Nat → Int32}  (hR : rp y G td ru fr lv lt et tl hf hp ol PS pf) : gk_M0 l yX4_day (Cond.code yX4_day cX4_day 1 (some .int)) 0 0 0 0 y A [.ref (ly_a y 0)] G (fun v G1 => v = some (.int td) ∧ G1 = G) := by
  refine gk_of0 (cc := cX4_day) (maxL := 1) (ret := (some .int)) (own := RX4) (by decide +kernel) rfl rfl (Nat.le_of_ble_eq_true rfl) ?_
  intro p e s m below meth c ls hK hret hlk _ hP hS hl
  have hl : lv_has ls 1 [(0, .ref (ly_a y 0))] := hl
  refine lv_aload_n hK.1.1 hK.1.2.1 dX4_day_0 rfl (lv_at hl 0 rfl) ?_
  refine tr_109 hK hP hR dX4_day_1 ?_
  exact gk_iret0 hK.1 hret hlk hP hS (Nat.le_of_ble_eq_true rfl) (Nat.le_of_ble_eq_true rfl) dX4_day_4 ⟨rfl, rfl⟩
set_option maxHeartbeats 4000000 in
set_option maxRecDepth 100000 in
theorem c_X4_isTooSoon (l : Launch) {y : ly_T} {A : Nat → Prop} {G : gk_G} {td : Int32} {ru : Nat → Nat → Int32} {fr lv : Nat → Nat} {lt et tl : Nat → Int32} {hf hp : Nat → Option Nat} {ol : Nat → List Nat} {PS : Nat → Prop} {pf : Nat → Nat → Int32} {f : Nat} {d : Int32}  (hR : rp y G td ru fr lv lt et tl hf hp ol PS pf) (hf5 : f < 5) : gk_M0 l yX4_isTooSoon (Cond.code yX4_isTooSoon cX4_isTooSoon 2 (some .boolean)) 0 0 0 0 y A [.ref (ly_f y 1 f), .int d] G (fun v G1 => v = some (.int (rg_b (t_soon (et f) (lt f) d (ru (fr f) 4)))) ∧ G1 = G) := by
  refine gk_of0 (cc := cX4_isTooSoon) (maxL := 2) (ret := (some .boolean)) (own := RX4) (by decide +kernel) rfl rfl (Nat.le_of_ble_eq_true rfl) ?_
  intro p e s m below meth c ls hK hret hlk _ hP hS hl
  have hl : lv_has ls 2 [(0, .ref (ly_f y 1 f)), (1, .int d)] := hl
  refine lv_aload_n hK.1.1 hK.1.2.1 dX4_isTooSoon_0 rfl (lv_at hl 0 rfl) ?_
  refine tr_198 hK hP hR hf5 dX4_isTooSoon_1 ?_
  refine lv_if_eq (tgt := 27) hK.1.1 hK.1.2.1 dX4_isTooSoon_4 (by decide) (fun c4_1 => ?_) (fun c4_1 => ?_)
  · refine lv_iconst (v := 0) hK.1.1 hK.1.2.1 dX4_isTooSoon_27 (by decide) ?_
    exact gk_zret0 hK.1 hret (by first | decide | exact (rp_nz (by first | assumption | (simp; done))).1) hlk hP hS (Nat.le_of_ble_eq_true rfl) (Nat.le_of_ble_eq_true rfl) dX4_isTooSoon_28 ⟨(by (try simp only [rg_b0, rg_b1, Bool.not_eq_false, Bool.not_eq_true] at c4_1); simp [t_soon, rg_b, c4_1]), rfl⟩
  · refine lv_iload_n hK.1.1 hK.1.2.1 dX4_isTooSoon_7 rfl (lv_at hl 1 rfl) ?_
    refine lv_aload_n hK.1.1 hK.1.2.1 dX4_isTooSoon_8 rfl (lv_at hl 0 rfl) ?_
    refine tr_130 hK hP hR hf5 dX4_isTooSoon_9 ?_
    refine lv_isub hK.1.1 hK.1.2.1 dX4_isTooSoon_12 ?_
    refine lv_aload_n hK.1.1 hK.1.2.1 dX4_isTooSoon_13 rfl (lv_at hl 0 rfl) ?_
    refine tr_75 hK hP hR hf5 dX4_isTooSoon_14 ?_
    refine tr_52 hK hP hR (hR.2.2.2.1 f hf5).1 dX4_isTooSoon_17 ?_
    refine lv_icmp_ge (tgt := 27) hK.1.1 hK.1.2.1 dX4_isTooSoon_20 (by decide) (fun c20_2 => ?_) (fun c20_2 => ?_)
    · refine lv_iconst (v := 0) hK.1.1 hK.1.2.1 dX4_isTooSoon_27 (by decide) ?_
      exact gk_zret0 hK.1 hret (by first | decide | exact (rp_nz (by first | assumption | (simp; done))).1) hlk hP hS (Nat.le_of_ble_eq_true rfl) (Nat.le_of_ble_eq_true rfl) dX4_isTooSoon_28 ⟨(by (try simp only [rg_b0, rg_b1, Bool.not_eq_false, Bool.not_eq_true] at c4_1 c20_2); simp [t_soon, rg_b, c4_1, c20_2]), rfl⟩
    · refine lv_iconst (v := 1) hK.1.1 hK.1.2.1 dX4_isTooSoon_23 (by decide) ?_
      refine lv_goto (tgt := 28) hK.1.1 hK.1.2.1 dX4_isTooSoon_24 (by decide) ?_
      exact gk_zret0 hK.1 hret (by first | decide | exact (rp_nz (by first | assumption | (simp; done))).1) hlk hP hS (Nat.le_of_ble_eq_true rfl) (Nat.le_of_ble_eq_true rfl) dX4_isTooSoon_28 ⟨(by (try simp only [rg_b0, rg_b1, Bool.not_eq_false, Bool.not_eq_true] at c4_1 c20_2); simp [t_soon, rg_b, c4_1, c20_2]), rfl⟩
set_option maxHeartbeats 4000000 in
set_option maxRecDepth 100000 in
theorem c_J9_floorMod_7cf53 (l : Launch) {y : ly_T} {A : Nat → Prop} {G : gk_G} {td : Int32} {ru : Nat → Nat → Int32} {fr lv : Nat → Nat} {lt et tl : Nat → Int32} {hf hp : Nat → Option Nat} {ol : Nat → List Nat} {PS : Nat → Prop} {pf : Nat → Nat → Int32} {a b : Int32}  (hR : rp y G td ru fr lv lt et tl hf hp ol PS pf) (hb : ¬ b = 0) : gk_M0 l yJ9_floorMod_7cf53 (Cond.code yJ9_floorMod_7cf53 cJ9_floorMod_7cf53 3 (some .int)) 0 0 0 0 y A [.int a, .int b] G (fun v G1 => v = some (.int (t_fm a b)) ∧ G1 = G) := by
  refine gk_of0 (cc := cJ9_floorMod_7cf53) (maxL := 3) (ret := (some .int)) (own := RJ9) (by decide +kernel) rfl rfl (Nat.le_of_ble_eq_true rfl) ?_
  intro p e s m below meth c ls hK hret hlk _ hP hS hl
  have hl : lv_has ls 3 [(0, .int a), (1, .int b)] := hl
  refine lv_iload_n hK.1.1 hK.1.2.1 dJ9_floorMod_7cf53_0 rfl (lv_at hl 0 rfl) ?_
  refine lv_iload_n hK.1.1 hK.1.2.1 dJ9_floorMod_7cf53_1 rfl (lv_at hl 1 rfl) ?_
  refine lv_irem hK.1.1 hK.1.2.1 dJ9_floorMod_7cf53_2 hb ?_
  refine lv_istore_n (lv' := [(2, .int (a - a / b * b)), (0, .int a), (1, .int b)]) hK.1.1 hK.1.2.1 dJ9_floorMod_7cf53_3 rfl hl (by decide) rfl (fun ls hl => ?_)
  refine lv_iload_n hK.1.1 hK.1.2.1 dJ9_floorMod_7cf53_4 rfl (lv_at hl 1 rfl) ?_
  refine lv_iload_n hK.1.1 hK.1.2.1 dJ9_floorMod_7cf53_5 rfl (lv_at hl 2 rfl) ?_
  refine lv_ixor hK.1.1 hK.1.2.1 dJ9_floorMod_7cf53_6 ?_
  refine lv_if_ge (tgt := 18) hK.1.1 hK.1.2.1 dJ9_floorMod_7cf53_7 (by decide) (fun c7_1 => ?_) (fun c7_1 => ?_)
  · refine lv_iload_n hK.1.1 hK.1.2.1 dJ9_floorMod_7cf53_18 rfl (lv_at hl 0 rfl) ?_
    exact gk_iret0 hK.1 hret hlk hP hS (Nat.le_of_ble_eq_true rfl) (Nat.le_of_ble_eq_true rfl) dJ9_floorMod_7cf53_19 ⟨(by rw [t_fm, if_neg (fun h => absurd h.1 (Int32.not_lt.mpr c7_1))]), rfl⟩
  · refine lv_iload_n hK.1.1 hK.1.2.1 dJ9_floorMod_7cf53_10 rfl (lv_at hl 0 rfl) ?_
    refine lv_if_eq (tgt := 18) hK.1.1 hK.1.2.1 dJ9_floorMod_7cf53_11 (by decide) (fun c11_2 => ?_) (fun c11_2 => ?_)
    · refine lv_iload_n hK.1.1 hK.1.2.1 dJ9_floorMod_7cf53_18 rfl (lv_at hl 0 rfl) ?_
      exact gk_iret0 hK.1 hret hlk hP hS (Nat.le_of_ble_eq_true rfl) (Nat.le_of_ble_eq_true rfl) dJ9_floorMod_7cf53_19 ⟨(by rw [t_fm, if_neg (fun h => h.2 c11_2)]), rfl⟩
    · refine lv_iload_n hK.1.1 hK.1.2.1 dJ9_floorMod_7cf53_14 rfl (lv_at hl 0 rfl) ?_
      refine lv_iload_n hK.1.1 hK.1.2.1 dJ9_floorMod_7cf53_15 rfl (lv_at hl 2 rfl) ?_
      refine lv_iadd hK.1.1 hK.1.2.1 dJ9_floorMod_7cf53_16 ?_
      exact gk_iret0 hK.1 hret hlk hP hS (Nat.le_of_ble_eq_true rfl) (Nat.le_of_ble_eq_true rfl) dJ9_floorMod_7cf53_17 ⟨(by rw [t_fm, if_pos ⟨Int32.not_le.mp c7_1, c11_2⟩]), rfl⟩
set_option maxHeartbeats 4000000 in
set_option maxRecDepth 100000 in
theorem c_X4_hasWeekdayCome (l : Launch) {y : ly_T} {A : Nat → Prop} {G : gk_G} {td : Int32} {ru : Nat → Nat → Int32} {fr lv : Nat → Nat} {lt et tl : Nat → Int32} {hf hp : Nat → Option Nat} {ol : Nat → List Nat} {PS : Nat → Prop} {pf : Nat → Nat → Int32} {a b d : Int32}  (hR : rp y G td ru fr lv lt et tl hf hp ol PS pf) : gk_M0 l yX4_hasWeekdayCome (Cond.code yX4_hasWeekdayCome cX4_hasWeekdayCome 4 (some .boolean)) 1 30 0 0 y A [.int a, .int b, .int d] G (fun v G1 => v = some (.int (rg_b (t_come a b d 7))) ∧ G1 = G) := by
  refine gk_of0 (cc := cX4_hasWeekdayCome) (maxL := 4) (ret := (some .boolean)) (own := RX4) (by decide +kernel) rfl rfl (Nat.le_of_ble_eq_true rfl) ?_
  intro p e s m below meth c ls hK hret hlk _ hP hS hl
  have hl : lv_has ls 4 [(0, .int a), (1, .int b), (2, .int d)] := hl
  refine lv_iload_n hK.1.1 hK.1.2.1 dX4_hasWeekdayCome_0 rfl (lv_at hl 1 rfl) ?_
  refine lv_iconst (v := 1) hK.1.1 hK.1.2.1 dX4_hasWeekdayCome_1 (by decide) ?_
  refine lv_iadd hK.1.1 hK.1.2.1 dX4_hasWeekdayCome_2 ?_
  refine lv_istore_n (lv' := [(3, .int (b + 1)), (0, .int a), (1, .int b), (2, .int d)]) hK.1.1 hK.1.2.1 dX4_hasWeekdayCome_3 rfl hl (by decide) rfl (fun ls hl => ?_)
  refine lv_iload_n hK.1.1 hK.1.2.1 dX4_hasWeekdayCome_4 rfl (lv_at hl 1 rfl) ?_
  refine lv_iconst (v := (-1)) hK.1.1 hK.1.2.1 dX4_hasWeekdayCome_5 (by decide) ?_
  refine lv_icmp_eq (tgt := 27) hK.1.1 hK.1.2.1 dX4_hasWeekdayCome_6 (by decide) (fun c6_1 => ?_) (fun c6_1 => ?_)
  · refine lv_iconst (v := 0) hK.1.1 hK.1.2.1 dX4_hasWeekdayCome_27 (by decide) ?_
    exact gk_zret0 hK.1 hret (by first | decide | exact (rp_nz (by first | assumption | (simp; done))).1) hlk hP hS (Nat.le_of_ble_eq_true rfl) (Nat.le_of_ble_eq_true rfl) dX4_hasWeekdayCome_28 ⟨(by rw [show t_come a b d _ = false from decide_eq_false (fun h => h.1 c6_1)]; rfl), rfl⟩
  · refine lv_iload_n hK.1.1 hK.1.2.1 dX4_hasWeekdayCome_9 rfl (lv_at hl 0 rfl) ?_
    refine lv_iload_n hK.1.1 hK.1.2.1 dX4_hasWeekdayCome_10 rfl (lv_at hl 1 rfl) ?_
    refine lv_iload_n hK.1.1 hK.1.2.1 dX4_hasWeekdayCome_11 rfl (lv_at hl 0 rfl) ?_
    refine lv_isub hK.1.1 hK.1.2.1 dX4_hasWeekdayCome_12 ?_
    refine lv_bipush (v := 7) hK.1.1 hK.1.2.1 dX4_hasWeekdayCome_13 (by decide) ?_
    refine gk_callS0 (n := 2) (As := [.int (a - (b + 1)), .int 7]) (rest := [.int (b + 1)]) hK (c_J9_floorMod_7cf53 l hR (a := (a - (b + 1))) (b := 7) (by decide)) (gk_gS q_4_22 q_4_23 q_5_0 q_5_1) ⟨by decide +kernel, by decide +kernel, by decide +kernel⟩ ⟨(Nat.le_of_ble_eq_true rfl), (Nat.le_of_ble_eq_true rfl)⟩ hP hS rfl hl.1 rfl (Nat.le_of_ble_eq_true rfl) dX4_hasWeekdayCome_15 ⟨(Nat.le_of_ble_eq_true rfl), (Nat.le_of_ble_eq_true rfl)⟩ (fun v G1 H locs hw hP hS => ?_)
    obtain ⟨rfl, hG9⟩ := hw
    rw [hG9] at hP
    refine W.eq (g2 := F0 m 18 ls [.int (t_fm (a - (b + 1)) 7), .int (b + 1)]) rfl ?_
    refine lv_iadd hK.1.1 hK.1.2.1 dX4_hasWeekdayCome_18 ?_
    refine lv_iload_n hK.1.1 hK.1.2.1 dX4_hasWeekdayCome_19 rfl (lv_at hl 3 rfl) ?_
    refine lv_icmp_gt (tgt := 27) hK.1.1 hK.1.2.1 dX4_hasWeekdayCome_20 (by decide) (fun c20_2 => ?_) (fun c20_2 => ?_)
    · refine lv_iconst (v := 0) hK.1.1 hK.1.2.1 dX4_hasWeekdayCome_27 (by decide) ?_
      exact gk_zret0 hK.1 hret (by first | decide | exact (rp_nz (by first | assumption | (simp; done))).1) hlk hP hS (Nat.le_of_ble_eq_true rfl) (Nat.le_of_ble_eq_true rfl) dX4_hasWeekdayCome_28 ⟨(by rw [show t_come a b d _ = false from decide_eq_false (fun h => absurd h.2 (Int32.not_le.mpr c20_2))]; rfl), rfl⟩
    · refine lv_iconst (v := 1) hK.1.1 hK.1.2.1 dX4_hasWeekdayCome_23 (by decide) ?_
      refine lv_goto (tgt := 28) hK.1.1 hK.1.2.1 dX4_hasWeekdayCome_24 (by decide) ?_
      exact gk_zret0 hK.1 hret (by first | decide | exact (rp_nz (by first | assumption | (simp; done))).1) hlk hP hS (Nat.le_of_ble_eq_true rfl) (Nat.le_of_ble_eq_true rfl) dX4_hasWeekdayCome_28 ⟨(by rw [show t_come a b d _ = true from decide_eq_true ⟨c6_1, Int32.not_lt.mp c20_2⟩]; rfl), rfl⟩
set_option maxHeartbeats 4000000 in
set_option maxRecDepth 100000 in
theorem c_X4_hasMonthlyCome (l : Launch) {y : ly_T} {A : Nat → Prop} {G : gk_G} {td : Int32} {ru : Nat → Nat → Int32} {fr lv : Nat → Nat} {lt et tl : Nat → Int32} {hf hp : Nat → Option Nat} {ol : Nat → List Nat} {PS : Nat → Prop} {pf : Nat → Nat → Int32} {a b d : Int32}  (hR : rp y G td ru fr lv lt et tl hf hp ol PS pf) : gk_M0 l yX4_hasMonthlyCome (Cond.code yX4_hasMonthlyCome cX4_hasMonthlyCome 4 (some .boolean)) 1 30 0 0 y A [.int a, .int b, .int d] G (fun v G1 => v = some (.int (rg_b (t_come a b d 30))) ∧ G1 = G) := by
  refine gk_of0 (cc := cX4_hasMonthlyCome) (maxL := 4) (ret := (some .boolean)) (own := RX4) (by decide +kernel) rfl rfl (Nat.le_of_ble_eq_true rfl) ?_
  intro p e s m below meth c ls hK hret hlk _ hP hS hl
  have hl : lv_has ls 4 [(0, .int a), (1, .int b), (2, .int d)] := hl
  refine lv_iload_n hK.1.1 hK.1.2.1 dX4_hasMonthlyCome_0 rfl (lv_at hl 1 rfl) ?_
  refine lv_iconst (v := 1) hK.1.1 hK.1.2.1 dX4_hasMonthlyCome_1 (by decide) ?_
  refine lv_iadd hK.1.1 hK.1.2.1 dX4_hasMonthlyCome_2 ?_
  refine lv_istore_n (lv' := [(3, .int (b + 1)), (0, .int a), (1, .int b), (2, .int d)]) hK.1.1 hK.1.2.1 dX4_hasMonthlyCome_3 rfl hl (by decide) rfl (fun ls hl => ?_)
  refine lv_iload_n hK.1.1 hK.1.2.1 dX4_hasMonthlyCome_4 rfl (lv_at hl 1 rfl) ?_
  refine lv_iconst (v := (-1)) hK.1.1 hK.1.2.1 dX4_hasMonthlyCome_5 (by decide) ?_
  refine lv_icmp_eq (tgt := 27) hK.1.1 hK.1.2.1 dX4_hasMonthlyCome_6 (by decide) (fun c6_1 => ?_) (fun c6_1 => ?_)
  · refine lv_iconst (v := 0) hK.1.1 hK.1.2.1 dX4_hasMonthlyCome_27 (by decide) ?_
    exact gk_zret0 hK.1 hret (by first | decide | exact (rp_nz (by first | assumption | (simp; done))).1) hlk hP hS (Nat.le_of_ble_eq_true rfl) (Nat.le_of_ble_eq_true rfl) dX4_hasMonthlyCome_28 ⟨(by rw [show t_come a b d _ = false from decide_eq_false (fun h => h.1 c6_1)]; rfl), rfl⟩
  · refine lv_iload_n hK.1.1 hK.1.2.1 dX4_hasMonthlyCome_9 rfl (lv_at hl 0 rfl) ?_
    refine lv_iload_n hK.1.1 hK.1.2.1 dX4_hasMonthlyCome_10 rfl (lv_at hl 1 rfl) ?_
    refine lv_iload_n hK.1.1 hK.1.2.1 dX4_hasMonthlyCome_11 rfl (lv_at hl 0 rfl) ?_
    refine lv_isub hK.1.1 hK.1.2.1 dX4_hasMonthlyCome_12 ?_
    refine lv_bipush (v := 30) hK.1.1 hK.1.2.1 dX4_hasMonthlyCome_13 (by decide) ?_
    refine gk_callS0 (n := 2) (As := [.int (a - (b + 1)), .int 30]) (rest := [.int (b + 1)]) hK (c_J9_floorMod_7cf53 l hR (a := (a - (b + 1))) (b := 30) (by decide)) (gk_gS q_4_22 q_4_23 q_5_0 q_5_1) ⟨by decide +kernel, by decide +kernel, by decide +kernel⟩ ⟨(Nat.le_of_ble_eq_true rfl), (Nat.le_of_ble_eq_true rfl)⟩ hP hS rfl hl.1 rfl (Nat.le_of_ble_eq_true rfl) dX4_hasMonthlyCome_15 ⟨(Nat.le_of_ble_eq_true rfl), (Nat.le_of_ble_eq_true rfl)⟩ (fun v G1 H locs hw hP hS => ?_)
    obtain ⟨rfl, hG9⟩ := hw
    rw [hG9] at hP
    refine W.eq (g2 := F0 m 18 ls [.int (t_fm (a - (b + 1)) 30), .int (b + 1)]) rfl ?_
    refine lv_iadd hK.1.1 hK.1.2.1 dX4_hasMonthlyCome_18 ?_
    refine lv_iload_n hK.1.1 hK.1.2.1 dX4_hasMonthlyCome_19 rfl (lv_at hl 3 rfl) ?_
    refine lv_icmp_gt (tgt := 27) hK.1.1 hK.1.2.1 dX4_hasMonthlyCome_20 (by decide) (fun c20_2 => ?_) (fun c20_2 => ?_)
    · refine lv_iconst (v := 0) hK.1.1 hK.1.2.1 dX4_hasMonthlyCome_27 (by decide) ?_
      exact gk_zret0 hK.1 hret (by first | decide | exact (rp_nz (by first | assumption | (simp; done))).1) hlk hP hS (Nat.le_of_ble_eq_true rfl) (Nat.le_of_ble_eq_true rfl) dX4_hasMonthlyCome_28 ⟨(by rw [show t_come a b d _ = false from decide_eq_false (fun h => absurd h.2 (Int32.not_le.mpr c20_2))]; rfl), rfl⟩
    · refine lv_iconst (v := 1) hK.1.1 hK.1.2.1 dX4_hasMonthlyCome_23 (by decide) ?_
      refine lv_goto (tgt := 28) hK.1.1 hK.1.2.1 dX4_hasMonthlyCome_24 (by decide) ?_
      exact gk_zret0 hK.1 hret (by first | decide | exact (rp_nz (by first | assumption | (simp; done))).1) hlk hP hS (Nat.le_of_ble_eq_true rfl) (Nat.le_of_ble_eq_true rfl) dX4_hasMonthlyCome_28 ⟨(by rw [show t_come a b d _ = true from decide_eq_true ⟨c6_1, Int32.not_lt.mp c20_2⟩]; rfl), rfl⟩
set_option maxHeartbeats 4000000 in
set_option maxRecDepth 100000 in
theorem c_X4_isDueOn (l : Launch) {y : ly_T} {A : Nat → Prop} {G : gk_G} {td : Int32} {ru : Nat → Nat → Int32} {fr lv : Nat → Nat} {lt et tl : Nat → Int32} {hf hp : Nat → Option Nat} {ol : Nat → List Nat} {PS : Nat → Prop} {pf : Nat → Nat → Int32} {f : Nat} {d : Int32}  (hR : rp y G td ru fr lv lt et tl hf hp ol PS pf) (hf5 : f < 5) (hLl : ∀ f, f < 5 → PS (lv f)) : gk_M0 l yX4_isDueOn (Cond.code yX4_isDueOn cX4_isDueOn 5 (some .boolean)) 2 60 0 0 y A [.ref (ly_f y 1 f), .int d] G (fun v G1 => v = some (.int (rg_b (t_due (pf 0 (lv f)) (ru (fr f) 1) (ru (fr f) 2) (ru (fr f) 3) (ru (fr f) 4) (et f) (lt f) d))) ∧ G1 = G) := by
  refine gk_of0 (cc := cX4_isDueOn) (maxL := 5) (ret := (some .boolean)) (own := RX4) (by decide +kernel) rfl rfl (Nat.le_of_ble_eq_true rfl) ?_
  intro p e s m below meth c ls hK hret hlk _ hP hS hl
  have hl : lv_has ls 5 [(0, .ref (ly_f y 1 f)), (1, .int d)] := hl
  refine lv_aload_n hK.1.1 hK.1.2.1 dX4_isDueOn_0 rfl (lv_at hl 0 rfl) ?_
  refine tr_75 hK hP hR hf5 dX4_isDueOn_1 ?_
  refine lv_astore_n (lv' := [(2, .ref (ly_f y 0 (fr f))), (0, .ref (ly_f y 1 f)), (1, .int d)]) hK.1.1 hK.1.2.1 dX4_isDueOn_4 rfl hl (by decide) rfl (fun ls hl => ?_)
  refine lv_aload_n hK.1.1 hK.1.2.1 dX4_isDueOn_5 rfl (lv_at hl 1 rfl) ?_
  refine tr_90 hK hP hR hf5 dX4_isDueOn_6 ?_
  refine tr_104 hK hP hR (hLl f hf5) dX4_isDueOn_9 ?_
  refine lv_istore_n (lv' := [(3, .int (pf 0 (lv f))), (2, .ref (ly_f y 0 (fr f))), (0, .ref (ly_f y 1 f)), (1, .int d)]) hK.1.1 hK.1.2.1 dX4_isDueOn_12 rfl hl (by decide) rfl (fun ls hl => ?_)
  refine lv_iload_n hK.1.1 hK.1.2.1 dX4_isDueOn_13 rfl (lv_at hl 0 rfl) ?_
  refine lv_if_eq (tgt := 25) hK.1.1 hK.1.2.1 dX4_isDueOn_14 (by decide) (fun c14_1 => ?_) (fun c14_1 => ?_)
  · refine lv_iconst (v := 0) hK.1.1 hK.1.2.1 dX4_isDueOn_25 (by decide) ?_
    exact gk_zret0 hK.1 hret (by first | decide | exact (rp_nz (by first | assumption | (simp; done))).1) hlk hP hS (Nat.le_of_ble_eq_true rfl) (Nat.le_of_ble_eq_true rfl) dX4_isDueOn_26 ⟨(by (try simp only [rg_b0, rg_b1, Bool.not_eq_false, Bool.not_eq_true] at c14_1); simp [t_due, rg_b, c14_1]), rfl⟩
  · refine lv_aload_n hK.1.1 hK.1.2.1 dX4_isDueOn_17 rfl (lv_at hl 2 rfl) ?_
    refine lv_iload_n hK.1.1 hK.1.2.1 dX4_isDueOn_18 rfl (lv_at hl 3 rfl) ?_
    refine gk_callS0 (n := 2) (As := [.ref (ly_f y 1 f), .int d]) (rest := []) hK (c_X4_isTooSoon l hR (f := f) (d := d) hf5) (gk_gS q_4_14 q_4_15 q_1_2 q_4_16) ⟨by decide +kernel, by decide +kernel, by decide +kernel⟩ ⟨(Nat.le_of_ble_eq_true rfl), (Nat.le_of_ble_eq_true rfl)⟩ hP hS rfl hl.1 rfl (Nat.le_of_ble_eq_true rfl) dX4_isDueOn_19 ⟨(Nat.le_of_ble_eq_true rfl), (Nat.le_of_ble_eq_true rfl)⟩ (fun v G1 H locs hw hP hS => ?_)
    obtain ⟨rfl, hG9⟩ := hw
    rw [hG9] at hP
    refine W.eq (g2 := F0 m 22 ls [.int (rg_b (t_soon (et f) (lt f) d (ru (fr f) 4)))]) rfl ?_
    refine lv_if_eq (tgt := 27) hK.1.1 hK.1.2.1 dX4_isDueOn_22 (by decide) (fun c22_2 => ?_) (fun c22_2 => ?_)
    · refine lv_aload_n hK.1.1 hK.1.2.1 dX4_isDueOn_27 rfl (lv_at hl 1 rfl) ?_
      refine tr_42 hK hP hR (hR.2.2.2.1 f hf5).1 dX4_isDueOn_28 ?_
      refine lv_if_eq (tgt := 46) hK.1.1 hK.1.2.1 dX4_isDueOn_31 (by decide) (fun c31_3 => ?_) (fun c31_3 => ?_)
      · refine lv_iconst (v := 0) hK.1.1 hK.1.2.1 dX4_isDueOn_46 (by decide) ?_
        refine lv_istore (lv' := [(4, .int 0), (3, .int (pf 0 (lv f))), (2, .ref (ly_f y 0 (fr f))), (0, .ref (ly_f y 1 f)), (1, .int d)]) hK.1.1 hK.1.2.1 dX4_isDueOn_47 hl (by decide) rfl (fun ls hl => ?_)
        refine lv_iload hK.1.1 hK.1.2.1 dX4_isDueOn_49 (lv_at hl 0 rfl) ?_
        refine lv_if_ne (tgt := 84) hK.1.1 hK.1.2.1 dX4_isDueOn_51 (by decide) (fun c => absurd c (by decide)) (fun _ => ?_)
        refine lv_aload_n hK.1.1 hK.1.2.1 dX4_isDueOn_54 rfl (lv_at hl 2 rfl) ?_
        refine tr_46 hK hP hR (hR.2.2.2.1 f hf5).1 dX4_isDueOn_55 ?_
        refine lv_aload_n hK.1.1 hK.1.2.1 dX4_isDueOn_58 rfl (lv_at hl 3 rfl) ?_
        refine tr_130 hK hP hR hf5 dX4_isDueOn_59 ?_
        refine lv_iload_n hK.1.1 hK.1.2.1 dX4_isDueOn_62 rfl (lv_at hl 4 rfl) ?_
        refine gk_callS0 (n := 3) (As := [.int (ru (fr f) 2), .int (lt f), .int d]) (rest := []) hK (c_X4_hasWeekdayCome l hR (a := (ru (fr f) 2)) (b := (lt f)) (d := d)) (gk_gS q_4_19 q_4_20 q_1_2 q_4_21) ⟨by decide +kernel, by decide +kernel, by decide +kernel⟩ ⟨(Nat.le_of_ble_eq_true rfl), (Nat.le_of_ble_eq_true rfl)⟩ hP hS rfl hl.1 rfl (Nat.le_of_ble_eq_true rfl) dX4_isDueOn_63 ⟨(Nat.le_of_ble_eq_true rfl), (Nat.le_of_ble_eq_true rfl)⟩ (fun v G1 H locs hw hP hS => ?_)
        obtain ⟨rfl, hG9⟩ := hw
        rw [hG9] at hP
        refine W.eq (g2 := F0 m 66 ls [.int (rg_b (t_come (ru (fr f) 2) (lt f) d 7))]) rfl ?_
        refine lv_if_ne (tgt := 84) hK.1.1 hK.1.2.1 dX4_isDueOn_66 (by decide) (fun c66_4 => ?_) (fun c66_4 => ?_)
        · refine lv_iconst (v := 1) hK.1.1 hK.1.2.1 dX4_isDueOn_84 (by decide) ?_
          refine lv_goto (tgt := 89) hK.1.1 hK.1.2.1 dX4_isDueOn_85 (by decide) ?_
          exact gk_zret0 hK.1 hret (by first | decide | exact (rp_nz (by first | assumption | (simp; done))).1) hlk hP hS (Nat.le_of_ble_eq_true rfl) (Nat.le_of_ble_eq_true rfl) dX4_isDueOn_89 ⟨(by (try simp only [rg_b0, rg_b1, Bool.not_eq_false, Bool.not_eq_true] at c14_1 c22_2 c31_3 c66_4); simp [t_due, rg_b, c14_1, c22_2, c31_3, c66_4]), rfl⟩
        · refine lv_aload_n hK.1.1 hK.1.2.1 dX4_isDueOn_69 rfl (lv_at hl 2 rfl) ?_
          refine tr_49 hK hP hR (hR.2.2.2.1 f hf5).1 dX4_isDueOn_70 ?_
          refine lv_aload_n hK.1.1 hK.1.2.1 dX4_isDueOn_73 rfl (lv_at hl 3 rfl) ?_
          refine tr_130 hK hP hR hf5 dX4_isDueOn_74 ?_
          refine lv_iload_n hK.1.1 hK.1.2.1 dX4_isDueOn_77 rfl (lv_at hl 4 rfl) ?_
          refine gk_callS0 (n := 3) (As := [.int (ru (fr f) 3), .int (lt f), .int d]) (rest := []) hK (c_X4_hasMonthlyCome l hR (a := (ru (fr f) 3)) (b := (lt f)) (d := d)) (gk_gS q_5_2 q_5_3 q_1_2 q_5_4) ⟨by decide +kernel, by decide +kernel, by decide +kernel⟩ ⟨(Nat.le_of_ble_eq_true rfl), (Nat.le_of_ble_eq_true rfl)⟩ hP hS rfl hl.1 rfl (Nat.le_of_ble_eq_true rfl) dX4_isDueOn_78 ⟨(Nat.le_of_ble_eq_true rfl), (Nat.le_of_ble_eq_true rfl)⟩ (fun v G1 H locs hw hP hS => ?_)
          obtain ⟨rfl, hG9⟩ := hw
          rw [hG9] at hP
          refine W.eq (g2 := F0 m 81 ls [.int (rg_b (t_come (ru (fr f) 3) (lt f) d 30))]) rfl ?_
          refine lv_if_eq (tgt := 88) hK.1.1 hK.1.2.1 dX4_isDueOn_81 (by decide) (fun c81_5 => ?_) (fun c81_5 => ?_)
          · refine lv_iconst (v := 0) hK.1.1 hK.1.2.1 dX4_isDueOn_88 (by decide) ?_
            exact gk_zret0 hK.1 hret (by first | decide | exact (rp_nz (by first | assumption | (simp; done))).1) hlk hP hS (Nat.le_of_ble_eq_true rfl) (Nat.le_of_ble_eq_true rfl) dX4_isDueOn_89 ⟨(by (try simp only [rg_b0, rg_b1, Bool.not_eq_false, Bool.not_eq_true] at c14_1 c22_2 c31_3 c66_4 c81_5); simp [t_due, rg_b, c14_1, c22_2, c31_3, c66_4, c81_5]), rfl⟩
          · refine lv_iconst (v := 1) hK.1.1 hK.1.2.1 dX4_isDueOn_84 (by decide) ?_
            refine lv_goto (tgt := 89) hK.1.1 hK.1.2.1 dX4_isDueOn_85 (by decide) ?_
            exact gk_zret0 hK.1 hret (by first | decide | exact (rp_nz (by first | assumption | (simp; done))).1) hlk hP hS (Nat.le_of_ble_eq_true rfl) (Nat.le_of_ble_eq_true rfl) dX4_isDueOn_89 ⟨(by (try simp only [rg_b0, rg_b1, Bool.not_eq_false, Bool.not_eq_true] at c14_1 c22_2 c31_3 c66_4 c81_5); simp [t_due, rg_b, c14_1, c22_2, c31_3, c66_4, c81_5]), rfl⟩
      · refine lv_iload_n hK.1.1 hK.1.2.1 dX4_isDueOn_34 rfl (lv_at hl 0 rfl) ?_
        refine lv_aload_n hK.1.1 hK.1.2.1 dX4_isDueOn_35 rfl (lv_at hl 1 rfl) ?_
        refine tr_42 hK hP hR (hR.2.2.2.1 f hf5).1 dX4_isDueOn_36 ?_
        refine lv_icmp_lt (tgt := 46) hK.1.1 hK.1.2.1 dX4_isDueOn_39 (by decide) (fun c39_6 => ?_) (fun c39_6 => ?_)
        · refine lv_iconst (v := 0) hK.1.1 hK.1.2.1 dX4_isDueOn_46 (by decide) ?_
          refine lv_istore (lv' := [(4, .int 0), (3, .int (pf 0 (lv f))), (2, .ref (ly_f y 0 (fr f))), (0, .ref (ly_f y 1 f)), (1, .int d)]) hK.1.1 hK.1.2.1 dX4_isDueOn_47 hl (by decide) rfl (fun ls hl => ?_)
          refine lv_iload hK.1.1 hK.1.2.1 dX4_isDueOn_49 (lv_at hl 0 rfl) ?_
          refine lv_if_ne (tgt := 84) hK.1.1 hK.1.2.1 dX4_isDueOn_51 (by decide) (fun c => absurd c (by decide)) (fun _ => ?_)
          refine lv_aload_n hK.1.1 hK.1.2.1 dX4_isDueOn_54 rfl (lv_at hl 2 rfl) ?_
          refine tr_46 hK hP hR (hR.2.2.2.1 f hf5).1 dX4_isDueOn_55 ?_
          refine lv_aload_n hK.1.1 hK.1.2.1 dX4_isDueOn_58 rfl (lv_at hl 3 rfl) ?_
          refine tr_130 hK hP hR hf5 dX4_isDueOn_59 ?_
          refine lv_iload_n hK.1.1 hK.1.2.1 dX4_isDueOn_62 rfl (lv_at hl 4 rfl) ?_
          refine gk_callS0 (n := 3) (As := [.int (ru (fr f) 2), .int (lt f), .int d]) (rest := []) hK (c_X4_hasWeekdayCome l hR (a := (ru (fr f) 2)) (b := (lt f)) (d := d)) (gk_gS q_4_19 q_4_20 q_1_2 q_4_21) ⟨by decide +kernel, by decide +kernel, by decide +kernel⟩ ⟨(Nat.le_of_ble_eq_true rfl), (Nat.le_of_ble_eq_true rfl)⟩ hP hS rfl hl.1 rfl (Nat.le_of_ble_eq_true rfl) dX4_isDueOn_63 ⟨(Nat.le_of_ble_eq_true rfl), (Nat.le_of_ble_eq_true rfl)⟩ (fun v G1 H locs hw hP hS => ?_)
          obtain ⟨rfl, hG9⟩ := hw
          rw [hG9] at hP
          refine W.eq (g2 := F0 m 66 ls [.int (rg_b (t_come (ru (fr f) 2) (lt f) d 7))]) rfl ?_
          refine lv_if_ne (tgt := 84) hK.1.1 hK.1.2.1 dX4_isDueOn_66 (by decide) (fun c66_7 => ?_) (fun c66_7 => ?_)
          · refine lv_iconst (v := 1) hK.1.1 hK.1.2.1 dX4_isDueOn_84 (by decide) ?_
            refine lv_goto (tgt := 89) hK.1.1 hK.1.2.1 dX4_isDueOn_85 (by decide) ?_
            exact gk_zret0 hK.1 hret (by first | decide | exact (rp_nz (by first | assumption | (simp; done))).1) hlk hP hS (Nat.le_of_ble_eq_true rfl) (Nat.le_of_ble_eq_true rfl) dX4_isDueOn_89 ⟨(by (try simp only [rg_b0, rg_b1, Bool.not_eq_false, Bool.not_eq_true] at c14_1 c22_2 c31_3 c39_6 c66_7); simp [t_due, rg_b, c14_1, c22_2, c31_3, c39_6, c66_7]), rfl⟩
          · refine lv_aload_n hK.1.1 hK.1.2.1 dX4_isDueOn_69 rfl (lv_at hl 2 rfl) ?_
            refine tr_49 hK hP hR (hR.2.2.2.1 f hf5).1 dX4_isDueOn_70 ?_
            refine lv_aload_n hK.1.1 hK.1.2.1 dX4_isDueOn_73 rfl (lv_at hl 3 rfl) ?_
            refine tr_130 hK hP hR hf5 dX4_isDueOn_74 ?_
            refine lv_iload_n hK.1.1 hK.1.2.1 dX4_isDueOn_77 rfl (lv_at hl 4 rfl) ?_
            refine gk_callS0 (n := 3) (As := [.int (ru (fr f) 3), .int (lt f), .int d]) (rest := []) hK (c_X4_hasMonthlyCome l hR (a := (ru (fr f) 3)) (b := (lt f)) (d := d)) (gk_gS q_5_2 q_5_3 q_1_2 q_5_4) ⟨by decide +kernel, by decide +kernel, by decide +kernel⟩ ⟨(Nat.le_of_ble_eq_true rfl), (Nat.le_of_ble_eq_true rfl)⟩ hP hS rfl hl.1 rfl (Nat.le_of_ble_eq_true rfl) dX4_isDueOn_78 ⟨(Nat.le_of_ble_eq_true rfl), (Nat.le_of_ble_eq_true rfl)⟩ (fun v G1 H locs hw hP hS => ?_)
            obtain ⟨rfl, hG9⟩ := hw
            rw [hG9] at hP
            refine W.eq (g2 := F0 m 81 ls [.int (rg_b (t_come (ru (fr f) 3) (lt f) d 30))]) rfl ?_
            refine lv_if_eq (tgt := 88) hK.1.1 hK.1.2.1 dX4_isDueOn_81 (by decide) (fun c81_8 => ?_) (fun c81_8 => ?_)
            · refine lv_iconst (v := 0) hK.1.1 hK.1.2.1 dX4_isDueOn_88 (by decide) ?_
              exact gk_zret0 hK.1 hret (by first | decide | exact (rp_nz (by first | assumption | (simp; done))).1) hlk hP hS (Nat.le_of_ble_eq_true rfl) (Nat.le_of_ble_eq_true rfl) dX4_isDueOn_89 ⟨(by (try simp only [rg_b0, rg_b1, Bool.not_eq_false, Bool.not_eq_true] at c14_1 c22_2 c31_3 c39_6 c66_7 c81_8); simp [t_due, rg_b, c14_1, c22_2, c31_3, c39_6, c66_7, c81_8]), rfl⟩
            · refine lv_iconst (v := 1) hK.1.1 hK.1.2.1 dX4_isDueOn_84 (by decide) ?_
              refine lv_goto (tgt := 89) hK.1.1 hK.1.2.1 dX4_isDueOn_85 (by decide) ?_
              exact gk_zret0 hK.1 hret (by first | decide | exact (rp_nz (by first | assumption | (simp; done))).1) hlk hP hS (Nat.le_of_ble_eq_true rfl) (Nat.le_of_ble_eq_true rfl) dX4_isDueOn_89 ⟨(by (try simp only [rg_b0, rg_b1, Bool.not_eq_false, Bool.not_eq_true] at c14_1 c22_2 c31_3 c39_6 c66_7 c81_8); simp [t_due, rg_b, c14_1, c22_2, c31_3, c39_6, c66_7, c81_8]), rfl⟩
        · refine lv_iconst (v := 1) hK.1.1 hK.1.2.1 dX4_isDueOn_42 (by decide) ?_
          refine lv_goto (tgt := 47) hK.1.1 hK.1.2.1 dX4_isDueOn_43 (by decide) ?_
          refine lv_istore (lv' := [(4, .int 1), (3, .int (pf 0 (lv f))), (2, .ref (ly_f y 0 (fr f))), (0, .ref (ly_f y 1 f)), (1, .int d)]) hK.1.1 hK.1.2.1 dX4_isDueOn_47 hl (by decide) rfl (fun ls hl => ?_)
          refine lv_iload hK.1.1 hK.1.2.1 dX4_isDueOn_49 (lv_at hl 0 rfl) ?_
          refine lv_if_ne (tgt := 84) hK.1.1 hK.1.2.1 dX4_isDueOn_51 (by decide) (fun _ => ?_) (fun c => absurd c (by decide))
          refine lv_iconst (v := 1) hK.1.1 hK.1.2.1 dX4_isDueOn_84 (by decide) ?_
          refine lv_goto (tgt := 89) hK.1.1 hK.1.2.1 dX4_isDueOn_85 (by decide) ?_
          exact gk_zret0 hK.1 hret (by first | decide | exact (rp_nz (by first | assumption | (simp; done))).1) hlk hP hS (Nat.le_of_ble_eq_true rfl) (Nat.le_of_ble_eq_true rfl) dX4_isDueOn_89 ⟨(by (try simp only [rg_b0, rg_b1, Bool.not_eq_false, Bool.not_eq_true] at c14_1 c22_2 c31_3 c39_6); simp [t_due, rg_b, c14_1, c22_2, c31_3, c39_6]), rfl⟩
    · refine lv_iconst (v := 0) hK.1.1 hK.1.2.1 dX4_isDueOn_25 (by decide) ?_
      exact gk_zret0 hK.1 hret (by first | decide | exact (rp_nz (by first | assumption | (simp; done))).1) hlk hP hS (Nat.le_of_ble_eq_true rfl) (Nat.le_of_ble_eq_true rfl) dX4_isDueOn_26 ⟨(by (try simp only [rg_b0, rg_b1, Bool.not_eq_false, Bool.not_eq_true] at c14_1 c22_2); simp [t_due, rg_b, c14_1, c22_2]), rfl⟩
