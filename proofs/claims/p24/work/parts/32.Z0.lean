/-! the calls that ask, where they answer: nothing is made -/
theorem rg_bt {b : Bool} (h : ¬ rg_b b = 0) : rg_b b = 1 := (rg_b01 b).resolve_left h
set_option maxHeartbeats 4000000 in
set_option maxRecDepth 100000 in
theorem c0_X4_fileOf (l : Launch) {y : ly_T} {A : Nat → Prop} {G : gk_G} {td : Int32} {ru : Nat → Nat → Int32} {fr lv : Nat → Nat} {lt et tl : Nat → Int32} {hf hp : Nat → Option Nat} {ol : Nat → List Nat} {PS : Nat → Prop} {pf : Nat → Nat → Int32} {f : Nat}  (hR : rp y G td ru fr lv lt et tl hf hp ol PS pf) (hf : f < 5) : gk_M0 l yX4_fileOf (Cond.code yX4_fileOf cX4_fileOf 2 (some (.object "LogTurner$LogFile"))) 0 0 0 0 y A [.ref (ly_a y 0), .int (nI f)] G (fun v G1 => v = some (.ref (ly_f y 1 f)) ∧ G1 = G) := by
  refine gk_of0 (cc := cX4_fileOf) (maxL := 2) (ret := (some (.object "LogTurner$LogFile"))) (own := RX4) (by decide +kernel) rfl rfl (Nat.le_of_ble_eq_true rfl) ?_
  intro p e s m below meth c ls hK hret hlk _ hP hS hl
  have hl : lv_has ls 2 [(0, .ref (ly_a y 0)), (1, .int (nI f))] := hl
  refine lv_iload_n hK.1.1 hK.1.2.1 dX4_fileOf_0 rfl (lv_at hl 1 rfl) ?_
  refine lv_if_lt (tgt := 9) hK.1.1 hK.1.2.1 dX4_fileOf_1 (by decide) (fun c => absurd c (nI_pos (by omega))) (fun _ => ?_)
  refine lv_iload_n hK.1.1 hK.1.2.1 dX4_fileOf_4 rfl (lv_at hl 1 rfl) ?_
  refine lv_iconst (v := 5) hK.1.1 hK.1.2.1 dX4_fileOf_5 (by decide) ?_
  refine lv_icmp_lt (tgt := 19) hK.1.1 hK.1.2.1 dX4_fileOf_6 (by decide) (fun _ => ?_) (fun c => absurd (nI_lt (b := 5) hf (by decide)) c)
  refine lv_aload_n hK.1.1 hK.1.2.1 dX4_fileOf_19 rfl (lv_at hl 0 rfl) ?_
  refine tr_17 hK hP hR dX4_fileOf_20 ?_
  refine lv_iload_n hK.1.1 hK.1.2.1 dX4_fileOf_23 rfl (lv_at hl 1 rfl) ?_
  refine ta_files hK hP hR (i := f) hf dX4_fileOf_24 ?_
  exact gk_aret0 hK.1 hret (by first | exact Or.inl ⟨_, rfl⟩ | exact Or.inr ⟨_, rfl⟩) (by first | exact Or.inr ⟨_, rfl⟩ | exact Or.inl rfl | exact va_rf_or _) hlk hP hS (Nat.le_of_ble_eq_true rfl) (Nat.le_of_ble_eq_true rfl) dX4_fileOf_25 ⟨rfl, rfl⟩
set_option maxHeartbeats 4000000 in
set_option maxRecDepth 100000 in
theorem c0_X4_holderOf (l : Launch) {y : ly_T} {A : Nat → Prop} {G : gk_G} {td : Int32} {ru : Nat → Nat → Int32} {fr lv : Nat → Nat} {lt et tl : Nat → Int32} {hf hp : Nat → Option Nat} {ol : Nat → List Nat} {PS : Nat → Prop} {pf : Nat → Nat → Int32} {h : Nat}  (hR : rp y G td ru fr lv lt et tl hf hp ol PS pf) (hh : h < 4) : gk_M0 l yX4_holderOf (Cond.code yX4_holderOf cX4_holderOf 2 (some (.object "LogTurner$Holder"))) 0 0 0 0 y A [.ref (ly_a y 0), .int (nI h)] G (fun v G1 => v = some (.ref (ly_f y 2 h)) ∧ G1 = G) := by
  refine gk_of0 (cc := cX4_holderOf) (maxL := 2) (ret := (some (.object "LogTurner$Holder"))) (own := RX4) (by decide +kernel) rfl rfl (Nat.le_of_ble_eq_true rfl) ?_
  intro p e s m below meth c ls hK hret hlk _ hP hS hl
  have hl : lv_has ls 2 [(0, .ref (ly_a y 0)), (1, .int (nI h))] := hl
  refine lv_iload_n hK.1.1 hK.1.2.1 dX4_holderOf_0 rfl (lv_at hl 1 rfl) ?_
  refine lv_if_lt (tgt := 9) hK.1.1 hK.1.2.1 dX4_holderOf_1 (by decide) (fun c => absurd c (nI_pos (by omega))) (fun _ => ?_)
  refine lv_iload_n hK.1.1 hK.1.2.1 dX4_holderOf_4 rfl (lv_at hl 1 rfl) ?_
  refine lv_iconst (v := 4) hK.1.1 hK.1.2.1 dX4_holderOf_5 (by decide) ?_
  refine lv_icmp_lt (tgt := 19) hK.1.1 hK.1.2.1 dX4_holderOf_6 (by decide) (fun _ => ?_) (fun c => absurd (nI_lt (b := 4) hh (by decide)) c)
  refine lv_aload_n hK.1.1 hK.1.2.1 dX4_holderOf_19 rfl (lv_at hl 0 rfl) ?_
  refine tr_23 hK hP hR dX4_holderOf_20 ?_
  refine lv_iload_n hK.1.1 hK.1.2.1 dX4_holderOf_23 rfl (lv_at hl 1 rfl) ?_
  refine ta_holders hK hP hR (i := h) hh dX4_holderOf_24 ?_
  exact gk_aret0 hK.1 hret (by first | exact Or.inl ⟨_, rfl⟩ | exact Or.inr ⟨_, rfl⟩) (by first | exact Or.inr ⟨_, rfl⟩ | exact Or.inl rfl | exact va_rf_or _) hlk hP hS (Nat.le_of_ble_eq_true rfl) (Nat.le_of_ble_eq_true rfl) dX4_holderOf_25 ⟨rfl, rfl⟩
set_option maxHeartbeats 4000000 in
set_option maxRecDepth 100000 in
theorem c0_X4_live (l : Launch) {y : ly_T} {A : Nat → Prop} {G : gk_G} {td : Int32} {ru : Nat → Nat → Int32} {fr lv : Nat → Nat} {lt et tl : Nat → Int32} {hf hp : Nat → Option Nat} {ol : Nat → List Nat} {PS : Nat → Prop} {pf : Nat → Nat → Int32} {f : Nat}  (hR : rp y G td ru fr lv lt et tl hf hp ol PS pf) (hf5 : f < 5) (hLl : ∀ f, f < 5 → PS (lv f)) : gk_M0 l yX4_live (Cond.code yX4_live cX4_live 2 (some .int)) 1 30 0 0 y A [.ref (ly_a y 0), .int (nI f)] G (fun v G1 => v = some (.int (pf 0 (lv f))) ∧ G1 = G) := by
  refine gk_of0 (cc := cX4_live) (maxL := 2) (ret := (some .int)) (own := RX4) (by decide +kernel) rfl rfl (Nat.le_of_ble_eq_true rfl) ?_
  intro p e s m below meth c ls hK hret hlk _ hP hS hl
  have hl : lv_has ls 2 [(0, .ref (ly_a y 0)), (1, .int (nI f))] := hl
  refine lv_aload_n hK.1.1 hK.1.2.1 dX4_live_0 rfl (lv_at hl 0 rfl) ?_
  refine lv_iload_n hK.1.1 hK.1.2.1 dX4_live_1 rfl (lv_at hl 1 rfl) ?_
  refine gk_callV0 (n := 1) (As := [.int (nI f)]) (rest := []) hK (c0_X4_fileOf l hR hf5) (gk_gV q_11_13 q_11_14 q_11_15 q_1_2 q_11_16) ⟨rfl, by decide +kernel, by decide +kernel, by decide +kernel⟩ ⟨(Nat.le_of_ble_eq_true rfl), (Nat.le_of_ble_eq_true rfl)⟩ hP hS (gk_recv hK.2.2.1.1 hP hR.1 rfl) rfl hl.1 rfl (Nat.le_of_ble_eq_true rfl) dX4_live_2 ⟨(Nat.le_of_ble_eq_true rfl), (Nat.le_of_ble_eq_true rfl)⟩ (fun v G1 H locs hw hP hS => ?_)
  obtain ⟨rfl, hG9⟩ := hw
  rw [hG9] at hP
  refine W.eq (g2 := F0 m 5 ls [.ref (ly_f y 1 f)]) rfl ?_
  refine tr_90 hK hP hR hf5 dX4_live_5 ?_
  refine tr_104 hK hP hR (hLl _ hf5) dX4_live_8 ?_
  exact gk_iret0 hK.1 hret hlk hP hS (Nat.le_of_ble_eq_true rfl) (Nat.le_of_ble_eq_true rfl) dX4_live_11 ⟨rfl, rfl⟩
set_option maxHeartbeats 4000000 in
set_option maxRecDepth 100000 in
theorem c0_X4_olds (l : Launch) {y : ly_T} {A : Nat → Prop} {G : gk_G} {td : Int32} {ru : Nat → Nat → Int32} {fr lv : Nat → Nat} {lt et tl : Nat → Int32} {hf hp : Nat → Option Nat} {ol : Nat → List Nat} {PS : Nat → Prop} {pf : Nat → Nat → Int32} {f : Nat}  (hR : rp y G td ru fr lv lt et tl hf hp ol PS pf) (hf5 : f < 5) : gk_M0 l yX4_olds (Cond.code yX4_olds cX4_olds 2 (some .int)) 1 30 0 0 y A [.ref (ly_a y 0), .int (nI f)] G (fun v G1 => v = some (.int (nI (ol f).length)) ∧ G1 = G) := by
  refine gk_of0 (cc := cX4_olds) (maxL := 2) (ret := (some .int)) (own := RX4) (by decide +kernel) rfl rfl (Nat.le_of_ble_eq_true rfl) ?_
  intro p e s m below meth c ls hK hret hlk _ hP hS hl
  have hl : lv_has ls 2 [(0, .ref (ly_a y 0)), (1, .int (nI f))] := hl
  refine lv_aload_n hK.1.1 hK.1.2.1 dX4_olds_0 rfl (lv_at hl 0 rfl) ?_
  refine lv_iload_n hK.1.1 hK.1.2.1 dX4_olds_1 rfl (lv_at hl 1 rfl) ?_
  refine gk_callV0 (n := 1) (As := [.int (nI f)]) (rest := []) hK (c0_X4_fileOf l hR hf5) (gk_gV q_11_13 q_11_14 q_11_15 q_1_2 q_11_16) ⟨rfl, by decide +kernel, by decide +kernel, by decide +kernel⟩ ⟨(Nat.le_of_ble_eq_true rfl), (Nat.le_of_ble_eq_true rfl)⟩ hP hS (gk_recv hK.2.2.1.1 hP hR.1 rfl) rfl hl.1 rfl (Nat.le_of_ble_eq_true rfl) dX4_olds_2 ⟨(Nat.le_of_ble_eq_true rfl), (Nat.le_of_ble_eq_true rfl)⟩ (fun v G1 H locs hw hP hS => ?_)
  obtain ⟨rfl, hG9⟩ := hw
  rw [hG9] at hP
  refine W.eq (g2 := F0 m 5 ls [.ref (ly_f y 1 f)]) rfl ?_
  refine tr_137 hK hP hR hf5 dX4_olds_5 ?_
  refine gk_callV0 (n := 0) (As := []) (rest := []) hK (c_list_size l hR hf5) (gk_gV q_5_13 q_5_14 q_5_15 q_2_13 q_5_16) ⟨rfl, by decide +kernel, by decide +kernel, by decide +kernel⟩ ⟨(Nat.le_of_ble_eq_true rfl), (Nat.le_of_ble_eq_true rfl)⟩ hP hS (rp_recvL hK.2.2.1 hP hR hf5) rfl hl.1 rfl (Nat.le_of_ble_eq_true rfl) dX4_olds_8 ⟨(Nat.le_of_ble_eq_true rfl), (Nat.le_of_ble_eq_true rfl)⟩ (fun v G1 H locs hw hP hS => ?_)
  obtain ⟨rfl, hG9⟩ := hw
  rw [hG9] at hP
  refine W.eq (g2 := F0 m 11 ls [.int (nI (ol f).length)]) rfl ?_
  exact gk_iret0 hK.1 hret hlk hP hS (Nat.le_of_ble_eq_true rfl) (Nat.le_of_ble_eq_true rfl) dX4_olds_11 ⟨rfl, rfl⟩
set_option maxHeartbeats 4000000 in
set_option maxRecDepth 100000 in
theorem c0_X4_thrown (l : Launch) {y : ly_T} {A : Nat → Prop} {G : gk_G} {td : Int32} {ru : Nat → Nat → Int32} {fr lv : Nat → Nat} {lt et tl : Nat → Int32} {hf hp : Nat → Option Nat} {ol : Nat → List Nat} {PS : Nat → Prop} {pf : Nat → Nat → Int32} {f : Nat}  (hR : rp y G td ru fr lv lt et tl hf hp ol PS pf) (hf5 : f < 5) : gk_M0 l yX4_thrown (Cond.code yX4_thrown cX4_thrown 2 (some .int)) 1 30 0 0 y A [.ref (ly_a y 0), .int (nI f)] G (fun v G1 => v = some (.int (tl f)) ∧ G1 = G) := by
  refine gk_of0 (cc := cX4_thrown) (maxL := 2) (ret := (some .int)) (own := RX4) (by decide +kernel) rfl rfl (Nat.le_of_ble_eq_true rfl) ?_
  intro p e s m below meth c ls hK hret hlk _ hP hS hl
  have hl : lv_has ls 2 [(0, .ref (ly_a y 0)), (1, .int (nI f))] := hl
  refine lv_aload_n hK.1.1 hK.1.2.1 dX4_thrown_0 rfl (lv_at hl 0 rfl) ?_
  refine lv_iload_n hK.1.1 hK.1.2.1 dX4_thrown_1 rfl (lv_at hl 1 rfl) ?_
  refine gk_callV0 (n := 1) (As := [.int (nI f)]) (rest := []) hK (c0_X4_fileOf l hR hf5) (gk_gV q_11_13 q_11_14 q_11_15 q_1_2 q_11_16) ⟨rfl, by decide +kernel, by decide +kernel, by decide +kernel⟩ ⟨(Nat.le_of_ble_eq_true rfl), (Nat.le_of_ble_eq_true rfl)⟩ hP hS (gk_recv hK.2.2.1.1 hP hR.1 rfl) rfl hl.1 rfl (Nat.le_of_ble_eq_true rfl) dX4_thrown_2 ⟨(Nat.le_of_ble_eq_true rfl), (Nat.le_of_ble_eq_true rfl)⟩ (fun v G1 H locs hw hP hS => ?_)
  obtain ⟨rfl, hG9⟩ := hw
  rw [hG9] at hP
  refine W.eq (g2 := F0 m 5 ls [.ref (ly_f y 1 f)]) rfl ?_
  refine tr_160 hK hP hR hf5 dX4_thrown_5 ?_
  exact gk_iret0 hK.1 hret hlk hP hS (Nat.le_of_ble_eq_true rfl) (Nat.le_of_ble_eq_true rfl) dX4_thrown_8 ⟨rfl, rfl⟩
set_option maxHeartbeats 4000000 in
set_option maxRecDepth 100000 in
theorem c0_X4_isDue (l : Launch) {y : ly_T} {A : Nat → Prop} {G : gk_G} {td : Int32} {ru : Nat → Nat → Int32} {fr lv : Nat → Nat} {lt et tl : Nat → Int32} {hf hp : Nat → Option Nat} {ol : Nat → List Nat} {PS : Nat → Prop} {pf : Nat → Nat → Int32} {f : Nat}  (hR : rp y G td ru fr lv lt et tl hf hp ol PS pf) (hf5 : f < 5) (hLl : ∀ f, f < 5 → PS (lv f)) : gk_M0 l yX4_isDue (Cond.code yX4_isDue cX4_isDue 2 (some .boolean)) 3 100 0 0 y A [.ref (ly_a y 0), .int (nI f)] G (fun v G1 => v = some (.int (rg_b (t_due (pf 0 (lv f)) (ru (fr f) 1) (ru (fr f) 2) (ru (fr f) 3) (ru (fr f) 4) (et f) (lt f) td))) ∧ G1 = G) := by
  refine gk_of0 (cc := cX4_isDue) (maxL := 2) (ret := (some .boolean)) (own := RX4) (by decide +kernel) rfl rfl (Nat.le_of_ble_eq_true rfl) ?_
  intro p e s m below meth c ls hK hret hlk _ hP hS hl
  have hl : lv_has ls 2 [(0, .ref (ly_a y 0)), (1, .int (nI f))] := hl
  refine lv_aload_n hK.1.1 hK.1.2.1 dX4_isDue_0 rfl (lv_at hl 0 rfl) ?_
  refine lv_iload_n hK.1.1 hK.1.2.1 dX4_isDue_1 rfl (lv_at hl 1 rfl) ?_
  refine gk_callV0 (n := 1) (As := [.int (nI f)]) (rest := []) hK (c0_X4_fileOf l hR hf5) (gk_gV q_11_13 q_11_14 q_11_15 q_1_2 q_11_16) ⟨rfl, by decide +kernel, by decide +kernel, by decide +kernel⟩ ⟨(Nat.le_of_ble_eq_true rfl), (Nat.le_of_ble_eq_true rfl)⟩ hP hS (gk_recv hK.2.2.1.1 hP hR.1 rfl) rfl hl.1 rfl (Nat.le_of_ble_eq_true rfl) dX4_isDue_2 ⟨(Nat.le_of_ble_eq_true rfl), (Nat.le_of_ble_eq_true rfl)⟩ (fun v G1 H locs hw hP hS => ?_)
  obtain ⟨rfl, hG9⟩ := hw
  rw [hG9] at hP
  refine W.eq (g2 := F0 m 5 ls [.ref (ly_f y 1 f)]) rfl ?_
  refine lv_aload_n hK.1.1 hK.1.2.1 dX4_isDue_5 rfl (lv_at hl 0 rfl) ?_
  refine tr_109 hK hP hR dX4_isDue_6 ?_
  refine gk_callS0 (n := 2) (As := [.ref (ly_f y 1 f), .int td]) (rest := []) hK (c_X4_isDueOn l hR (d := td) hf5 hLl) (gk_gS q_4_4 q_4_5 q_1_2 q_4_6) ⟨by decide +kernel, by decide +kernel, by decide +kernel⟩ ⟨(Nat.le_of_ble_eq_true rfl), (Nat.le_of_ble_eq_true rfl)⟩ hP hS rfl hl.1 rfl (Nat.le_of_ble_eq_true rfl) dX4_isDue_9 ⟨(Nat.le_of_ble_eq_true rfl), (Nat.le_of_ble_eq_true rfl)⟩ (fun v G1 H locs hw hP hS => ?_)
  obtain ⟨rfl, hG9⟩ := hw
  rw [hG9] at hP
  refine W.eq (g2 := F0 m 12 ls [.int (rg_b (t_due (pf 0 (lv f)) (ru (fr f) 1) (ru (fr f) 2) (ru (fr f) 3) (ru (fr f) 4) (et f) (lt f) td))]) rfl ?_
  exact gk_zret0 hK.1 hret (rp_nz (rg_b01 _)).1 hlk hP hS (Nat.le_of_ble_eq_true rfl) (Nat.le_of_ble_eq_true rfl) dX4_isDue_12 ⟨rfl, rfl⟩
set_option maxHeartbeats 4000000 in
set_option maxRecDepth 100000 in
theorem c0_X4_nextDue (l : Launch) {y : ly_T} {A : Nat → Prop} {G : gk_G} {td : Int32} {ru : Nat → Nat → Int32} {fr lv : Nat → Nat} {lt et tl : Nat → Int32} {hf hp : Nat → Option Nat} {ol : Nat → List Nat} {PS : Nat → Prop} {pf : Nat → Nat → Int32} {f : Nat}  (hR : rp y G td ru fr lv lt et tl hf hp ol PS pf) (hf5 : f < 5) (hLl : ∀ f, f < 5 → PS (lv f)) : gk_M0 l yX4_nextDue (Cond.code yX4_nextDue cX4_nextDue 4 (some .int)) 3 100 0 0 y A [.ref (ly_a y 0), .int (nI f)] G (fun v G1 => ((∃ a, a < 201 ∧ (∀ b, b < a → t_due (pf 0 (lv f)) (ru (fr f) 1) (ru (fr f) 2) (ru (fr f) 3) (ru (fr f) 4) (et f) (lt f) (td + nI b) = false) ∧ t_due (pf 0 (lv f)) (ru (fr f) 1) (ru (fr f) 2) (ru (fr f) 3) (ru (fr f) 4) (et f) (lt f) (td + nI a) = true ∧ v = some (.int (td + nI a))) ∨ ((∀ b, b < 201 → t_due (pf 0 (lv f)) (ru (fr f) 1) (ru (fr f) 2) (ru (fr f) 3) (ru (fr f) 4) (et f) (lt f) (td + nI b) = false) ∧ v = some (.int (-1)))) ∧ G1 = G) := by
  refine gk_of0 (cc := cX4_nextDue) (maxL := 4) (ret := (some .int)) (own := RX4) (by decide +kernel) rfl rfl (Nat.le_of_ble_eq_true rfl) ?_
  intro p e s m below meth c ls hK hret hlk _ hP hS hl
  have hl : lv_has ls 4 [(0, .ref (ly_a y 0)), (1, .int (nI f))] := hl
  refine lv_aload_n hK.1.1 hK.1.2.1 dX4_nextDue_0 rfl (lv_at hl 0 rfl) ?_
  refine lv_iload_n hK.1.1 hK.1.2.1 dX4_nextDue_1 rfl (lv_at hl 1 rfl) ?_
  refine gk_callV0 (n := 1) (As := [.int (nI f)]) (rest := []) hK (c0_X4_fileOf l hR hf5) (gk_gV q_11_13 q_11_14 q_11_15 q_1_2 q_11_16) ⟨rfl, by decide +kernel, by decide +kernel, by decide +kernel⟩ ⟨(Nat.le_of_ble_eq_true rfl), (Nat.le_of_ble_eq_true rfl)⟩ hP hS (gk_recv hK.2.2.1.1 hP hR.1 rfl) rfl hl.1 rfl (Nat.le_of_ble_eq_true rfl) dX4_nextDue_2 ⟨(Nat.le_of_ble_eq_true rfl), (Nat.le_of_ble_eq_true rfl)⟩ (fun v G1 H locs hw hP hS => ?_)
  obtain ⟨rfl, hG9⟩ := hw
  rw [hG9] at hP
  refine W.eq (g2 := F0 m 5 ls [.ref (ly_f y 1 f)]) rfl ?_
  refine lv_astore_n (lv' := [(2, .ref (ly_f y 1 f)), (0, .ref (ly_a y 0)), (1, .int (nI f))]) hK.1.1 hK.1.2.1 dX4_nextDue_5 rfl hl (by decide) rfl (fun ls hl => ?_)
  refine lv_iconst (v := 0) hK.1.1 hK.1.2.1 dX4_nextDue_6 (by decide) ?_
  refine lv_istore_n (lv' := [(3, .int 0), (2, .ref (ly_f y 1 f)), (0, .ref (ly_a y 0)), (1, .int (nI f))]) hK.1.1 hK.1.2.1 dX4_nextDue_7 rfl hl (by decide) rfl (fun ls hl => ?_)
  have loop : ∀ (dd : Nat) (a : Nat) (ls : Array Slot) (H : Heap) (locs : List Loc), 201 - a = dd → (a ≤ 201) → (∀ b, b < a → t_due (pf 0 (lv f)) (ru (fr f) 1) (ru (fr f) 2) (ru (fr f) 3) (ru (fr f) 4) (et f) (lt f) (td + nI b) = false) → gk_P (ly_D y) A G H → va_S A s.heap H locs → lv_has ls 4 [(3, .int (nI a)), (2, .ref (ly_f y 1 f)), (0, .ref (ly_a y 0)), (1, .int (nI f))] → W p l e { frames := 3, cells := 0, slots := 0, locals := 100 } s m [.ref (ly_a y 0), .int (nI f)].toArray below meth c H locs (0 + 0) (0 + 0) (MQ below (gk_Q y A (fun v G1 => ((∃ a, a < 201 ∧ (∀ b, b < a → t_due (pf 0 (lv f)) (ru (fr f) 1) (ru (fr f) 2) (ru (fr f) 3) (ru (fr f) 4) (et f) (lt f) (td + nI b) = false) ∧ t_due (pf 0 (lv f)) (ru (fr f) 1) (ru (fr f) 2) (ru (fr f) 3) (ru (fr f) 4) (et f) (lt f) (td + nI a) = true ∧ v = some (.int (td + nI a))) ∨ ((∀ b, b < 201 → t_due (pf 0 (lv f)) (ru (fr f) 1) (ru (fr f) 2) (ru (fr f) 3) (ru (fr f) 4) (et f) (lt f) (td + nI b) = false) ∧ v = some (.int (-1)))) ∧ G1 = G)) [.ref (ly_a y 0), .int (nI f)].toArray s 0 0 A) (F0 m 8 ls []) := by
    intro dd
    induction dd using Nat.strongRecOn with
    | _ dd ih =>
    intro a ls H locs hdd ha hno hP hS hl
    refine lv_iload_n hK.1.1 hK.1.2.1 dX4_nextDue_8 rfl (lv_at hl 0 rfl) ?_
    refine lv_sipush (v := 200) hK.1.1 hK.1.2.1 dX4_nextDue_9 (by decide) ?_
    refine lv_icmp_gt (tgt := 41) hK.1.1 hK.1.2.1 dX4_nextDue_12 (by decide) (fun c12_1 => ?_) (fun c12_1 => ?_)
    · have ha9 : a = 201 := by have := (nI_ltI (a := 200) (by decide) (by omega)).mp c12_1; omega
      refine lv_iconst (v := (-1)) hK.1.1 hK.1.2.1 dX4_nextDue_41 (by decide) ?_
      exact gk_iret0 hK.1 hret hlk hP hS (Nat.le_of_ble_eq_true rfl) (Nat.le_of_ble_eq_true rfl) dX4_nextDue_42 ⟨Or.inr ⟨by rw [← ha9]; exact hno, rfl⟩, rfl⟩
    · have ha9 : a < 201 := Nat.lt_of_not_le (fun h => c12_1 (nI_lt (a := 200) (by omega) (by omega)))
      refine lv_aload_n hK.1.1 hK.1.2.1 dX4_nextDue_15 rfl (lv_at hl 1 rfl) ?_
      refine lv_aload_n hK.1.1 hK.1.2.1 dX4_nextDue_16 rfl (lv_at hl 2 rfl) ?_
      refine tr_109 hK hP hR dX4_nextDue_17 ?_
      refine lv_iload_n hK.1.1 hK.1.2.1 dX4_nextDue_20 rfl (lv_at hl 0 rfl) ?_
      refine lv_iadd hK.1.1 hK.1.2.1 dX4_nextDue_21 ?_
      refine gk_callS0 (n := 2) (As := [.ref (ly_f y 1 f), .int (td + (nI a))]) (rest := []) hK (c_X4_isDueOn l hR (d := (td + (nI a))) hf5 hLl) (gk_gS q_4_4 q_4_5 q_1_2 q_4_6) ⟨by decide +kernel, by decide +kernel, by decide +kernel⟩ ⟨(Nat.le_of_ble_eq_true rfl), (Nat.le_of_ble_eq_true rfl)⟩ hP hS rfl hl.1 rfl (Nat.le_of_ble_eq_true rfl) dX4_nextDue_22 ⟨(Nat.le_of_ble_eq_true rfl), (Nat.le_of_ble_eq_true rfl)⟩ (fun v G1 H locs hw hP hS => ?_)
      obtain ⟨rfl, hG9⟩ := hw
      rw [hG9] at hP
      refine W.eq (g2 := F0 m 25 ls [.int (rg_b (t_due (pf 0 (lv f)) (ru (fr f) 1) (ru (fr f) 2) (ru (fr f) 3) (ru (fr f) 4) (et f) (lt f) (td + (nI a))))]) rfl ?_
      refine lv_if_eq (tgt := 35) hK.1.1 hK.1.2.1 dX4_nextDue_25 (by decide) (fun c25_2 => ?_) (fun c25_2 => ?_)
      · have hna := c25_2
        refine lv_iinc (v := nI (a + 1)) (lv' := [(3, .int (nI (a + 1))), (2, .ref (ly_f y 1 f)), (0, .ref (ly_a y 0)), (1, .int (nI f))]) hK.1.1 hK.1.2.1 dX4_nextDue_35 hl (k := 0) rfl (nI_1 a) (by decide) rfl (fun ls hl => ?_)
        refine lv_goto (tgt := 8) hK.1.1 hK.1.2.1 dX4_nextDue_38 (by decide) ?_
        exact ih (201 - (a + 1)) (by omega)  (a + 1) ls _ _ rfl (by omega) (fun b hb => by by_cases hba : b = a; (rw [hba]; exact rg_b0.mp hna); (exact hno b (by omega))) hP hS (lv_sub hl [0, 1, 2, 3] rfl)
      · refine lv_aload_n hK.1.1 hK.1.2.1 dX4_nextDue_28 rfl (lv_at hl 2 rfl) ?_
        refine tr_109 hK hP hR dX4_nextDue_29 ?_
        refine lv_iload_n hK.1.1 hK.1.2.1 dX4_nextDue_32 rfl (lv_at hl 0 rfl) ?_
        refine lv_iadd hK.1.1 hK.1.2.1 dX4_nextDue_33 ?_
        exact gk_iret0 hK.1 hret hlk hP hS (Nat.le_of_ble_eq_true rfl) (Nat.le_of_ble_eq_true rfl) dX4_nextDue_34 ⟨Or.inl ⟨a, ha9, hno, by cases hz : t_due (pf 0 (lv f)) (ru (fr f) 1) (ru (fr f) 2) (ru (fr f) 3) (ru (fr f) 4) (et f) (lt f) (td + nI a) with | true => rfl | false => exact absurd (rg_b0.mpr hz) c25_2, rfl⟩, rfl⟩
  exact loop _ 0 ls _ _ rfl (by omega) (fun b hb => absurd hb (Nat.not_lt_zero b)) hP hS (lv_sub hl [0, 1, 2, 3] rfl)
set_option maxHeartbeats 4000000 in
set_option maxRecDepth 100000 in
theorem c0_X4_oldPartOf (l : Launch) {y : ly_T} {A : Nat → Prop} {G : gk_G} {td : Int32} {ru : Nat → Nat → Int32} {fr lv : Nat → Nat} {lt et tl : Nat → Int32} {hf hp : Nat → Option Nat} {ol : Nat → List Nat} {PS : Nat → Prop} {pf : Nat → Nat → Int32} {f k t : Nat}  (hR : rp y G td ru fr lv lt et tl hf hp ol PS pf) (hf5 : f < 5) (hin : ∀ q ∈ ol f, PS q) (htk : (ol f)[k]? = some t) : gk_M0 l yX4_oldPartOf (Cond.code yX4_oldPartOf cX4_oldPartOf 2 (some (.object "LogTurner$Part"))) 3 90 0 0 y A [.ref (ly_f y 1 f), .int (nI k)] G (fun v G1 => v = some (.ref t) ∧ G1 = G) := by
  refine gk_of0 (cc := cX4_oldPartOf) (maxL := 2) (ret := (some (.object "LogTurner$Part"))) (own := RX4) (by decide +kernel) rfl rfl (Nat.le_of_ble_eq_true rfl) ?_
  intro p e s m below meth c ls hK hret hlk _ hP hS hl
  have hl : lv_has ls 2 [(0, .ref (ly_f y 1 f)), (1, .int (nI k))] := hl
  have hn9 := rp_len hR hf5
  have hk9 := (List.getElem?_eq_some_iff.mp htk).1
  refine lv_iload_n hK.1.1 hK.1.2.1 dX4_oldPartOf_0 rfl (lv_at hl 1 rfl) ?_
  refine lv_if_lt (tgt := 15) hK.1.1 hK.1.2.1 dX4_oldPartOf_1 (by decide) (fun c => absurd c (nI_pos (by omega))) (fun _ => ?_)
  refine lv_iload_n hK.1.1 hK.1.2.1 dX4_oldPartOf_4 rfl (lv_at hl 1 rfl) ?_
  refine lv_aload_n hK.1.1 hK.1.2.1 dX4_oldPartOf_5 rfl (lv_at hl 0 rfl) ?_
  refine tr_137 hK hP hR hf5 dX4_oldPartOf_6 ?_
  refine gk_callV0 (n := 0) (As := []) (rest := [.int (nI k)]) hK (c_list_size l hR hf5) (gk_gV q_5_13 q_5_14 q_5_15 q_2_13 q_5_16) ⟨rfl, by decide +kernel, by decide +kernel, by decide +kernel⟩ ⟨(Nat.le_of_ble_eq_true rfl), (Nat.le_of_ble_eq_true rfl)⟩ hP hS (rp_recvL hK.2.2.1 hP hR hf5) rfl hl.1 rfl (Nat.le_of_ble_eq_true rfl) dX4_oldPartOf_9 ⟨(Nat.le_of_ble_eq_true rfl), (Nat.le_of_ble_eq_true rfl)⟩ (fun v G1 H locs hw hP hS => ?_)
  obtain ⟨rfl, hG9⟩ := hw
  rw [hG9] at hP
  refine W.eq (g2 := F0 m 12 ls [.int (nI (ol f).length), .int (nI k)]) rfl ?_
  refine lv_icmp_lt (tgt := 25) hK.1.1 hK.1.2.1 dX4_oldPartOf_12 (by decide) (fun _ => ?_) (fun c => absurd (nI_lt hk9 (by omega)) c)
  refine lv_aload_n hK.1.1 hK.1.2.1 dX4_oldPartOf_25 rfl (lv_at hl 0 rfl) ?_
  refine tr_137 hK hP hR hf5 dX4_oldPartOf_26 ?_
  refine lv_iload_n hK.1.1 hK.1.2.1 dX4_oldPartOf_29 rfl (lv_at hl 1 rfl) ?_
  refine gk_callV0 (n := 1) (As := [.int (nI k)]) (rest := []) hK (c_list_get l hR hf5 htk) (gk_gV q_8_8 q_8_9 q_8_10 q_2_13 q_8_11) ⟨rfl, by decide +kernel, by decide +kernel, by decide +kernel⟩ ⟨(Nat.le_of_ble_eq_true rfl), (Nat.le_of_ble_eq_true rfl)⟩ hP hS (rp_recvL hK.2.2.1 hP hR hf5) rfl hl.1 rfl (Nat.le_of_ble_eq_true rfl) dX4_oldPartOf_30 ⟨(Nat.le_of_ble_eq_true rfl), (Nat.le_of_ble_eq_true rfl)⟩ (fun v G1 H locs hw hP hS => ?_)
  obtain ⟨rfl, hG9⟩ := hw
  rw [hG9] at hP
  refine W.eq (g2 := F0 m 33 ls [.ref t]) rfl ?_
  refine gk_cast hK.1 hK.2.2.1.1 hP (hR.2.2.2.2.2.2.1 t (hin t (List.mem_of_getElem? htk))) rfl q_5_11 dX4_oldPartOf_33 ?_
  exact gk_aret0 hK.1 hret (by first | exact Or.inl ⟨_, rfl⟩ | exact Or.inr ⟨_, rfl⟩) (by first | exact Or.inr ⟨_, rfl⟩ | exact Or.inl rfl | exact va_rf_or _) hlk hP hS (Nat.le_of_ble_eq_true rfl) (Nat.le_of_ble_eq_true rfl) dX4_oldPartOf_36 ⟨rfl, rfl⟩
set_option maxHeartbeats 4000000 in
set_option maxRecDepth 100000 in
theorem c0_X4_lines (l : Launch) {y : ly_T} {A : Nat → Prop} {G : gk_G} {td : Int32} {ru : Nat → Nat → Int32} {fr lv : Nat → Nat} {lt et tl : Nat → Int32} {hf hp : Nat → Option Nat} {ol : Nat → List Nat} {PS : Nat → Prop} {pf : Nat → Nat → Int32} {f k t : Nat}  (hR : rp y G td ru fr lv lt et tl hf hp ol PS pf) (hf5 : f < 5) (htk : (ol f)[k]? = some t) (hin5 : ∀ f, f < 5 → ∀ q ∈ ol f, PS q) : gk_M0 l yX4_lines (Cond.code yX4_lines cX4_lines 3 (some .int)) 4 120 0 0 y A [.ref (ly_a y 0), .int (nI f), .int (nI k)] G (fun v G1 => v = some (.int (pf 0 t)) ∧ G1 = G) := by
  refine gk_of0 (cc := cX4_lines) (maxL := 3) (ret := (some .int)) (own := RX4) (by decide +kernel) rfl rfl (Nat.le_of_ble_eq_true rfl) ?_
  intro p e s m below meth c ls hK hret hlk _ hP hS hl
  have hl : lv_has ls 3 [(0, .ref (ly_a y 0)), (1, .int (nI f)), (2, .int (nI k))] := hl
  refine lv_aload_n hK.1.1 hK.1.2.1 dX4_lines_0 rfl (lv_at hl 0 rfl) ?_
  refine lv_iload_n hK.1.1 hK.1.2.1 dX4_lines_1 rfl (lv_at hl 1 rfl) ?_
  refine gk_callV0 (n := 1) (As := [.int (nI f)]) (rest := []) hK (c0_X4_fileOf l hR hf5) (gk_gV q_11_13 q_11_14 q_11_15 q_1_2 q_11_16) ⟨rfl, by decide +kernel, by decide +kernel, by decide +kernel⟩ ⟨(Nat.le_of_ble_eq_true rfl), (Nat.le_of_ble_eq_true rfl)⟩ hP hS (gk_recv hK.2.2.1.1 hP hR.1 rfl) rfl hl.1 rfl (Nat.le_of_ble_eq_true rfl) dX4_lines_2 ⟨(Nat.le_of_ble_eq_true rfl), (Nat.le_of_ble_eq_true rfl)⟩ (fun v G1 H locs hw hP hS => ?_)
  obtain ⟨rfl, hG9⟩ := hw
  rw [hG9] at hP
  refine W.eq (g2 := F0 m 5 ls [.ref (ly_f y 1 f)]) rfl ?_
  refine lv_iload_n hK.1.1 hK.1.2.1 dX4_lines_5 rfl (lv_at hl 2 rfl) ?_
  refine gk_callS0 (n := 2) (As := [.ref (ly_f y 1 f), .int (nI k)]) (rest := []) hK (c0_X4_oldPartOf l hR hf5 (hin5 _ hf5) htk) (gk_gS q_11_17 q_11_18 q_1_2 q_11_19) ⟨by decide +kernel, by decide +kernel, by decide +kernel⟩ ⟨(Nat.le_of_ble_eq_true rfl), (Nat.le_of_ble_eq_true rfl)⟩ hP hS rfl hl.1 rfl (Nat.le_of_ble_eq_true rfl) dX4_lines_6 ⟨(Nat.le_of_ble_eq_true rfl), (Nat.le_of_ble_eq_true rfl)⟩ (fun v G1 H locs hw hP hS => ?_)
  obtain ⟨rfl, hG9⟩ := hw
  rw [hG9] at hP
  refine W.eq (g2 := F0 m 9 ls [.ref t]) rfl ?_
  refine tr_104 hK hP hR (hin5 _ hf5 t (List.mem_of_getElem? htk)) dX4_lines_9 ?_
  exact gk_iret0 hK.1 hret hlk hP hS (Nat.le_of_ble_eq_true rfl) (Nat.le_of_ble_eq_true rfl) dX4_lines_12 ⟨rfl, rfl⟩
set_option maxHeartbeats 4000000 in
set_option maxRecDepth 100000 in
theorem c0_X4_isSqueezed (l : Launch) {y : ly_T} {A : Nat → Prop} {G : gk_G} {td : Int32} {ru : Nat → Nat → Int32} {fr lv : Nat → Nat} {lt et tl : Nat → Int32} {hf hp : Nat → Option Nat} {ol : Nat → List Nat} {PS : Nat → Prop} {pf : Nat → Nat → Int32} {f k t : Nat}  (hR : rp y G td ru fr lv lt et tl hf hp ol PS pf) (hf5 : f < 5) (htk : (ol f)[k]? = some t) (hin5 : ∀ f, f < 5 → ∀ q ∈ ol f, PS q) (hsq : ∀ t, PS t → pf 2 t = 0 ∨ pf 2 t = 1) : gk_M0 l yX4_isSqueezed (Cond.code yX4_isSqueezed cX4_isSqueezed 3 (some .boolean)) 4 120 0 0 y A [.ref (ly_a y 0), .int (nI f), .int (nI k)] G (fun v G1 => v = some (.int (pf 2 t)) ∧ G1 = G) := by
  refine gk_of0 (cc := cX4_isSqueezed) (maxL := 3) (ret := (some .boolean)) (own := RX4) (by decide +kernel) rfl rfl (Nat.le_of_ble_eq_true rfl) ?_
  intro p e s m below meth c ls hK hret hlk _ hP hS hl
  have hl : lv_has ls 3 [(0, .ref (ly_a y 0)), (1, .int (nI f)), (2, .int (nI k))] := hl
  refine lv_aload_n hK.1.1 hK.1.2.1 dX4_isSqueezed_0 rfl (lv_at hl 0 rfl) ?_
  refine lv_iload_n hK.1.1 hK.1.2.1 dX4_isSqueezed_1 rfl (lv_at hl 1 rfl) ?_
  refine gk_callV0 (n := 1) (As := [.int (nI f)]) (rest := []) hK (c0_X4_fileOf l hR hf5) (gk_gV q_11_13 q_11_14 q_11_15 q_1_2 q_11_16) ⟨rfl, by decide +kernel, by decide +kernel, by decide +kernel⟩ ⟨(Nat.le_of_ble_eq_true rfl), (Nat.le_of_ble_eq_true rfl)⟩ hP hS (gk_recv hK.2.2.1.1 hP hR.1 rfl) rfl hl.1 rfl (Nat.le_of_ble_eq_true rfl) dX4_isSqueezed_2 ⟨(Nat.le_of_ble_eq_true rfl), (Nat.le_of_ble_eq_true rfl)⟩ (fun v G1 H locs hw hP hS => ?_)
  obtain ⟨rfl, hG9⟩ := hw
  rw [hG9] at hP
  refine W.eq (g2 := F0 m 5 ls [.ref (ly_f y 1 f)]) rfl ?_
  refine lv_iload_n hK.1.1 hK.1.2.1 dX4_isSqueezed_5 rfl (lv_at hl 2 rfl) ?_
  refine gk_callS0 (n := 2) (As := [.ref (ly_f y 1 f), .int (nI k)]) (rest := []) hK (c0_X4_oldPartOf l hR hf5 (hin5 _ hf5) htk) (gk_gS q_11_17 q_11_18 q_1_2 q_11_19) ⟨by decide +kernel, by decide +kernel, by decide +kernel⟩ ⟨(Nat.le_of_ble_eq_true rfl), (Nat.le_of_ble_eq_true rfl)⟩ hP hS rfl hl.1 rfl (Nat.le_of_ble_eq_true rfl) dX4_isSqueezed_6 ⟨(Nat.le_of_ble_eq_true rfl), (Nat.le_of_ble_eq_true rfl)⟩ (fun v G1 H locs hw hP hS => ?_)
  obtain ⟨rfl, hG9⟩ := hw
  rw [hG9] at hP
  refine W.eq (g2 := F0 m 9 ls [.ref t]) rfl ?_
  refine tr_157 hK hP hR (hin5 _ hf5 t (List.mem_of_getElem? htk)) dX4_isSqueezed_9 ?_
  exact gk_zret0 hK.1 hret (rp_nz (hsq t (hin5 _ hf5 t (List.mem_of_getElem? htk)))).1 hlk hP hS (Nat.le_of_ble_eq_true rfl) (Nat.le_of_ble_eq_true rfl) dX4_isSqueezed_12 ⟨rfl, rfl⟩
set_option maxHeartbeats 4000000 in
set_option maxRecDepth 100000 in
theorem c0_X4_name (l : Launch) {y : ly_T} {A : Nat → Prop} {G : gk_G} {td : Int32} {ru : Nat → Nat → Int32} {fr lv : Nat → Nat} {lt et tl : Nat → Int32} {hf hp : Nat → Option Nat} {ol : Nat → List Nat} {PS : Nat → Prop} {pf : Nat → Nat → Int32} {f k t : Nat}  (hR : rp y G td ru fr lv lt et tl hf hp ol PS pf) (hf5 : f < 5) (htk : (ol f)[k]? = some t) (hin5 : ∀ f, f < 5 → ∀ q ∈ ol f, PS q) : gk_M0 l yX4_name (Cond.code yX4_name cX4_name 5 (some .int)) 4 130 0 0 y A [.ref (ly_a y 0), .int (nI f), .int (nI k)] G (fun v G1 => v = some (.int (if ru (fr f) 8 = 0 then nI ((ol f).length - k) else 1000 * pf 1 t + nI (t_cnt pf (ol f) k (pf 1 t)))) ∧ G1 = G) := by
  refine gk_of0 (cc := cX4_name) (maxL := 5) (ret := (some .int)) (own := RX4) (by decide +kernel) rfl rfl (Nat.le_of_ble_eq_true rfl) ?_
  intro p e s m below meth c ls hK hret hlk _ hP hS hl
  have hl : lv_has ls 5 [(0, .ref (ly_a y 0)), (1, .int (nI f)), (2, .int (nI k))] := hl
  refine lv_aload_n hK.1.1 hK.1.2.1 dX4_name_0 rfl (lv_at hl 0 rfl) ?_
  refine lv_iload_n hK.1.1 hK.1.2.1 dX4_name_1 rfl (lv_at hl 1 rfl) ?_
  refine gk_callV0 (n := 1) (As := [.int (nI f)]) (rest := []) hK (c0_X4_fileOf l hR hf5) (gk_gV q_11_13 q_11_14 q_11_15 q_1_2 q_11_16) ⟨rfl, by decide +kernel, by decide +kernel, by decide +kernel⟩ ⟨(Nat.le_of_ble_eq_true rfl), (Nat.le_of_ble_eq_true rfl)⟩ hP hS (gk_recv hK.2.2.1.1 hP hR.1 rfl) rfl hl.1 rfl (Nat.le_of_ble_eq_true rfl) dX4_name_2 ⟨(Nat.le_of_ble_eq_true rfl), (Nat.le_of_ble_eq_true rfl)⟩ (fun v G1 H locs hw hP hS => ?_)
  obtain ⟨rfl, hG9⟩ := hw
  rw [hG9] at hP
  refine W.eq (g2 := F0 m 5 ls [.ref (ly_f y 1 f)]) rfl ?_
  refine lv_astore_n (lv' := [(3, .ref (ly_f y 1 f)), (0, .ref (ly_a y 0)), (1, .int (nI f)), (2, .int (nI k))]) hK.1.1 hK.1.2.1 dX4_name_5 rfl hl (by decide) rfl (fun ls hl => ?_)
  refine lv_aload_n hK.1.1 hK.1.2.1 dX4_name_6 rfl (lv_at hl 0 rfl) ?_
  refine lv_iload_n hK.1.1 hK.1.2.1 dX4_name_7 rfl (lv_at hl 3 rfl) ?_
  refine gk_callS0 (n := 2) (As := [.ref (ly_f y 1 f), .int (nI k)]) (rest := []) hK (c0_X4_oldPartOf l hR hf5 (hin5 _ hf5) htk) (gk_gS q_11_17 q_11_18 q_1_2 q_11_19) ⟨by decide +kernel, by decide +kernel, by decide +kernel⟩ ⟨(Nat.le_of_ble_eq_true rfl), (Nat.le_of_ble_eq_true rfl)⟩ hP hS rfl hl.1 rfl (Nat.le_of_ble_eq_true rfl) dX4_name_8 ⟨(Nat.le_of_ble_eq_true rfl), (Nat.le_of_ble_eq_true rfl)⟩ (fun v G1 H locs hw hP hS => ?_)
  obtain ⟨rfl, hG9⟩ := hw
  rw [hG9] at hP
  refine W.eq (g2 := F0 m 11 ls [.ref t]) rfl ?_
  refine tr_150 hK hP hR (hin5 _ hf5 t (List.mem_of_getElem? htk)) dX4_name_11 ?_
  refine lv_istore (lv' := [(4, .int (pf 1 t)), (3, .ref (ly_f y 1 f)), (0, .ref (ly_a y 0)), (1, .int (nI f)), (2, .int (nI k))]) hK.1.1 hK.1.2.1 dX4_name_14 hl (by decide) rfl (fun ls hl => ?_)
  refine lv_aload_n hK.1.1 hK.1.2.1 dX4_name_16 rfl (lv_at hl 1 rfl) ?_
  refine tr_75 hK hP hR hf5 dX4_name_17 ?_
  refine tr_65 hK hP hR (hR.2.2.2.1 f hf5).1 dX4_name_20 ?_
  refine lv_if_ne (tgt := 36) hK.1.1 hK.1.2.1 dX4_name_23 (by decide) (fun c23_1 => ?_) (fun c23_1 => ?_)
  · refine lv_sipush (v := 1000) hK.1.1 hK.1.2.1 dX4_name_36 (by decide) ?_
    refine lv_iload hK.1.1 hK.1.2.1 dX4_name_39 (lv_at hl 0 rfl) ?_
    refine lv_imul hK.1.1 hK.1.2.1 dX4_name_41 ?_
    refine lv_aload_n hK.1.1 hK.1.2.1 dX4_name_42 rfl (lv_at hl 1 rfl) ?_
    refine tr_137 hK hP hR hf5 dX4_name_43 ?_
    refine lv_iload_n hK.1.1 hK.1.2.1 dX4_name_46 rfl (lv_at hl 4 rfl) ?_
    refine lv_iload hK.1.1 hK.1.2.1 dX4_name_47 (lv_at hl 0 rfl) ?_
    refine gk_callS0 (n := 3) (As := [.ref (ly_f y 3 f), .int (nI k), .int (pf 1 t)]) (rest := [.int (1000 * (pf 1 t))]) hK (c_X4_countOlderOfDay l hR (k := k) (d := (pf 1 t)) hf5 (hin5 _ hf5) (Nat.le_of_lt (List.getElem?_eq_some_iff.mp htk).1)) (gk_gS q_11_20 q_11_21 q_1_2 q_11_22) ⟨by decide +kernel, by decide +kernel, by decide +kernel⟩ ⟨(Nat.le_of_ble_eq_true rfl), (Nat.le_of_ble_eq_true rfl)⟩ hP hS rfl hl.1 rfl (Nat.le_of_ble_eq_true rfl) dX4_name_49 ⟨(Nat.le_of_ble_eq_true rfl), (Nat.le_of_ble_eq_true rfl)⟩ (fun v G1 H locs hw hP hS => ?_)
    obtain ⟨rfl, hG9⟩ := hw
    rw [hG9] at hP
    refine W.eq (g2 := F0 m 52 ls [.int (nI (t_cnt pf (ol f) k (pf 1 t))), .int (1000 * (pf 1 t))]) rfl ?_
    refine lv_iadd hK.1.1 hK.1.2.1 dX4_name_52 ?_
    exact gk_iret0 hK.1 hret hlk hP hS (Nat.le_of_ble_eq_true rfl) (Nat.le_of_ble_eq_true rfl) dX4_name_53 ⟨by rw [if_neg c23_1], rfl⟩
  · refine lv_aload_n hK.1.1 hK.1.2.1 dX4_name_26 rfl (lv_at hl 1 rfl) ?_
    refine tr_137 hK hP hR hf5 dX4_name_27 ?_
    refine gk_callV0 (n := 0) (As := []) (rest := []) hK (c_list_size l hR hf5) (gk_gV q_5_13 q_5_14 q_5_15 q_2_13 q_5_16) ⟨rfl, by decide +kernel, by decide +kernel, by decide +kernel⟩ ⟨(Nat.le_of_ble_eq_true rfl), (Nat.le_of_ble_eq_true rfl)⟩ hP hS (rp_recvL hK.2.2.1 hP hR hf5) rfl hl.1 rfl (Nat.le_of_ble_eq_true rfl) dX4_name_30 ⟨(Nat.le_of_ble_eq_true rfl), (Nat.le_of_ble_eq_true rfl)⟩ (fun v G1 H locs hw hP hS => ?_)
    obtain ⟨rfl, hG9⟩ := hw
    rw [hG9] at hP
    refine W.eq (g2 := F0 m 33 ls [.int (nI (ol f).length)]) rfl ?_
    refine lv_iload_n hK.1.1 hK.1.2.1 dX4_name_33 rfl (lv_at hl 4 rfl) ?_
    refine lv_isub hK.1.1 hK.1.2.1 dX4_name_34 ?_
    rw [pk_sub (Nat.le_of_lt (List.getElem?_eq_some_iff.mp htk).1)]
    exact gk_iret0 hK.1 hret hlk hP hS (Nat.le_of_ble_eq_true rfl) (Nat.le_of_ble_eq_true rfl) dX4_name_35 ⟨by rw [if_pos c23_1], rfl⟩
set_option maxHeartbeats 4000000 in
set_option maxRecDepth 100000 in
theorem c0_X4_holds (l : Launch) {y : ly_T} {A : Nat → Prop} {G : gk_G} {td : Int32} {ru : Nat → Nat → Int32} {fr lv : Nat → Nat} {lt et tl : Nat → Int32} {hf hp : Nat → Option Nat} {ol : Nat → List Nat} {PS : Nat → Prop} {pf : Nat → Nat → Int32} {h : Nat}  (hR : rp y G td ru fr lv lt et tl hf hp ol PS pf) (hh : h < 4) (hHo : ∀ h, h < 4 → ∀ f, hf h = some f → ∃ t, hp h = some t) : gk_M0 l yX4_holds (Cond.code yX4_holds cX4_holds 4 (some .int)) 4 130 0 0 y A [.ref (ly_a y 0), .int (nI h)] G (fun v G1 => ((hf h = none ∧ v = some (.int (-1))) ∨ ∃ f t x, f < 5 ∧ hf h = some f ∧ hp h = some t ∧ t_plc (ol f) t x ∧ v = some (.int (100 * nI f + x))) ∧ G1 = G) := by
  refine gk_of0 (cc := cX4_holds) (maxL := 4) (ret := (some .int)) (own := RX4) (by decide +kernel) rfl rfl (Nat.le_of_ble_eq_true rfl) ?_
  intro p e s m below meth c ls hK hret hlk _ hP hS hl
  have hl : lv_has ls 4 [(0, .ref (ly_a y 0)), (1, .int (nI h))] := hl
  refine lv_aload_n hK.1.1 hK.1.2.1 dX4_holds_0 rfl (lv_at hl 0 rfl) ?_
  refine lv_iload_n hK.1.1 hK.1.2.1 dX4_holds_1 rfl (lv_at hl 1 rfl) ?_
  refine gk_callV0 (n := 1) (As := [.int (nI h)]) (rest := []) hK (c0_X4_holderOf l hR hh) (gk_gV q_10_20 q_10_21 q_10_22 q_1_2 q_10_23) ⟨rfl, by decide +kernel, by decide +kernel, by decide +kernel⟩ ⟨(Nat.le_of_ble_eq_true rfl), (Nat.le_of_ble_eq_true rfl)⟩ hP hS (gk_recv hK.2.2.1.1 hP hR.1 rfl) rfl hl.1 rfl (Nat.le_of_ble_eq_true rfl) dX4_holds_2 ⟨(Nat.le_of_ble_eq_true rfl), (Nat.le_of_ble_eq_true rfl)⟩ (fun v G1 H locs hw hP hS => ?_)
  obtain ⟨rfl, hG9⟩ := hw
  rw [hG9] at hP
  refine W.eq (g2 := F0 m 5 ls [.ref (ly_f y 2 h)]) rfl ?_
  refine lv_astore_n (lv' := [(2, .ref (ly_f y 2 h)), (0, .ref (ly_a y 0)), (1, .int (nI h))]) hK.1.1 hK.1.2.1 dX4_holds_5 rfl hl (by decide) rfl (fun ls hl => ?_)
  refine lv_aload_n hK.1.1 hK.1.2.1 dX4_holds_6 rfl (lv_at hl 0 rfl) ?_
  rcases ef_2 : hf h with _ | f_1
  · refine tr_86 hK hP hR hh dX4_holds_7 ?_
    rw [ef_2]
    refine W.eq (g2 := F0 m 10 ls [.null]) rfl ?_
    refine lv_astore_nN (lv' := [(3, .null), (2, .ref (ly_f y 2 h)), (0, .ref (ly_a y 0)), (1, .int (nI h))]) hK.1.1 hK.1.2.1 dX4_holds_10 rfl hl (by decide) rfl (fun ls hl => ?_)
    refine lv_aload_nN hK.1.1 hK.1.2.1 dX4_holds_11 rfl (lv_at hl 0 rfl) ?_
    refine lv_ifnonnullN hK.1.1 hK.1.2.1 dX4_holds_12 ?_
    refine lv_iconst (v := (-1)) hK.1.1 hK.1.2.1 dX4_holds_15 (by decide) ?_
    exact gk_iret0 hK.1 hret hlk hP hS (Nat.le_of_ble_eq_true rfl) (Nat.le_of_ble_eq_true rfl) dX4_holds_16 ⟨Or.inl ⟨rfl, rfl⟩, rfl⟩
  · have hf_1 : f_1 < 5 := (hR.2.2.2.2.1.1 h hh).1 f_1 ef_2
    refine tr_86 hK hP hR hh dX4_holds_7 ?_
    rw [ef_2]
    refine W.eq (g2 := F0 m 10 ls [.ref (ly_f y 1 f_1)]) rfl ?_
    refine lv_astore_n (lv' := [(3, .ref (ly_f y 1 f_1)), (2, .ref (ly_f y 2 h)), (0, .ref (ly_a y 0)), (1, .int (nI h))]) hK.1.1 hK.1.2.1 dX4_holds_10 rfl hl (by decide) rfl (fun ls hl => ?_)
    refine lv_aload_n hK.1.1 hK.1.2.1 dX4_holds_11 rfl (lv_at hl 0 rfl) ?_
    refine lv_ifnonnull (tgt := 17) hK.1.1 hK.1.2.1 dX4_holds_12 (by decide) ?_
    refine lv_bipush (v := 100) hK.1.1 hK.1.2.1 dX4_holds_17 (by decide) ?_
    refine lv_aload_n hK.1.1 hK.1.2.1 dX4_holds_19 rfl (lv_at hl 0 rfl) ?_
    refine tr_163 hK hP hR hf_1 dX4_holds_20 ?_
    refine lv_imul hK.1.1 hK.1.2.1 dX4_holds_23 ?_
    refine lv_aload_n hK.1.1 hK.1.2.1 dX4_holds_24 rfl (lv_at hl 0 rfl) ?_
    refine tr_137 hK hP hR hf_1 dX4_holds_25 ?_
    refine lv_aload_n hK.1.1 hK.1.2.1 dX4_holds_28 rfl (lv_at hl 1 rfl) ?_
    obtain ⟨t, ht⟩ := hHo h hh f_1 ef_2
    refine tr_94 hK hP hR hh dX4_holds_29 ?_
    rw [ht]
    refine W.eq (g2 := F0 m 32 ls [.ref t, .ref (ly_f y 3 f_1), .int (100 * (nI f_1))]) rfl ?_
    refine gk_callS0 (n := 2) (As := [.ref (ly_f y 3 f_1), .ref t]) (rest := [.int (100 * (nI f_1))]) hK (c_X4_placeOf l hR (t := t) hf_1) (gk_gS q_11_2 q_11_3 q_1_2 q_11_4) ⟨by decide +kernel, by decide +kernel, by decide +kernel⟩ ⟨(Nat.le_of_ble_eq_true rfl), (Nat.le_of_ble_eq_true rfl)⟩ hP hS rfl hl.1 rfl (Nat.le_of_ble_eq_true rfl) dX4_holds_32 ⟨(Nat.le_of_ble_eq_true rfl), (Nat.le_of_ble_eq_true rfl)⟩ (fun v G1 H locs hw hP hS => ?_)
    obtain ⟨⟨x, hx9, rfl⟩, hG9⟩ := hw
    rw [hG9] at hP
    refine W.eq (g2 := F0 m 35 ls [.int x, .int (100 * (nI f_1))]) rfl ?_
    refine lv_iadd hK.1.1 hK.1.2.1 dX4_holds_35 ?_
    exact gk_iret0 hK.1 hret hlk hP hS (Nat.le_of_ble_eq_true rfl) (Nat.le_of_ble_eq_true rfl) dX4_holds_36 ⟨Or.inr ⟨f_1, t, x, hf_1, rfl, rfl, hx9, rfl⟩, rfl⟩
/-! the law's calls that ask, where they answer -/
set_option maxHeartbeats 4000000 in
set_option maxRecDepth 100000 in
theorem c0_L_live (l : Launch) {y : ly_T} {A : Nat → Prop} {G : gk_G} {td : Int32} {ru : Nat → Nat → Int32} {fr lv : Nat → Nat} {lt et tl : Nat → Int32} {hf hp : Nat → Option Nat} {ol : Nat → List Nat} {PS : Nat → Prop} {pf : Nat → Nat → Int32} {f : Nat}  (hfl : l.stackTraces = false) (hR : rp y G td ru fr lv lt et tl hf hp ol PS pf) (hf5 : f < 5) (hLl : ∀ f, f < 5 → PS (lv f)) : gk_M0 l yL_live (Cond.codeWith yL_live cL_live 3 (some .int) [(0, 5, 6, 16)]) 2 60 0 0 y A [.ref (ly_a y 0), .int (nI f)] G (fun v G1 => v = some (.int (pf 0 (lv f))) ∧ G1 = G) := by
  refine gk_ofW (cc := cL_live) (maxL := 3) (ret := (some .int)) (own := RL) (by decide +kernel) rfl rfl (Nat.le_of_ble_eq_true rfl) ?_
  intro p e s m below meth c ls hK hret hlk hex hP hS hl
  have hl : lv_has ls 3 [(0, .ref (ly_a y 0)), (1, .int (nI f))] := hl
  refine lv_aload_n hK.1.1 hK.1.2.1 dL_live_0 rfl (lv_at hl 0 rfl) ?_
  refine lv_iload_n hK.1.1 hK.1.2.1 dL_live_1 rfl (lv_at hl 1 rfl) ?_
  refine gk_callV0 (n := 1) (As := [.int (nI f)]) (rest := []) hK (c0_X4_live l hR hf5 hLl) (gk_gV q_15_7 q_15_8 q_15_9 q_1_2 q_15_10) ⟨rfl, by decide +kernel, by decide +kernel, by decide +kernel⟩ ⟨(Nat.le_of_ble_eq_true rfl), (Nat.le_of_ble_eq_true rfl)⟩ hP hS (gk_recv hK.2.2.1.1 hP hR.1 rfl) rfl hl.1 rfl (Nat.le_of_ble_eq_true rfl) dL_live_2 ⟨(Nat.le_of_ble_eq_true rfl), (Nat.le_of_ble_eq_true rfl)⟩ (fun v G1 H locs hw hP hS => ?_)
  obtain ⟨rfl, hG9⟩ := hw
  rw [hG9] at hP
  refine W.eq (g2 := F0 m 5 ls [.int (pf 0 (lv f))]) rfl ?_
  exact gk_iret0 hK.1 hret hlk hP hS (Nat.le_of_ble_eq_true rfl) (Nat.le_of_ble_eq_true rfl) dL_live_5 ⟨rfl, rfl⟩
set_option maxHeartbeats 4000000 in
set_option maxRecDepth 100000 in
theorem c0_L_olds (l : Launch) {y : ly_T} {A : Nat → Prop} {G : gk_G} {td : Int32} {ru : Nat → Nat → Int32} {fr lv : Nat → Nat} {lt et tl : Nat → Int32} {hf hp : Nat → Option Nat} {ol : Nat → List Nat} {PS : Nat → Prop} {pf : Nat → Nat → Int32} {f : Nat}  (hfl : l.stackTraces = false) (hR : rp y G td ru fr lv lt et tl hf hp ol PS pf) (hf5 : f < 5) : gk_M0 l yL_olds (Cond.codeWith yL_olds cL_olds 3 (some .int) [(0, 5, 6, 16)]) 2 60 0 0 y A [.ref (ly_a y 0), .int (nI f)] G (fun v G1 => v = some (.int (nI (ol f).length)) ∧ G1 = G) := by
  refine gk_ofW (cc := cL_olds) (maxL := 3) (ret := (some .int)) (own := RL) (by decide +kernel) rfl rfl (Nat.le_of_ble_eq_true rfl) ?_
  intro p e s m below meth c ls hK hret hlk hex hP hS hl
  have hl : lv_has ls 3 [(0, .ref (ly_a y 0)), (1, .int (nI f))] := hl
  refine lv_aload_n hK.1.1 hK.1.2.1 dL_olds_0 rfl (lv_at hl 0 rfl) ?_
  refine lv_iload_n hK.1.1 hK.1.2.1 dL_olds_1 rfl (lv_at hl 1 rfl) ?_
  refine gk_callV0 (n := 1) (As := [.int (nI f)]) (rest := []) hK (c0_X4_olds l hR hf5) (gk_gV q_16_13 q_16_14 q_16_15 q_1_2 q_16_16) ⟨rfl, by decide +kernel, by decide +kernel, by decide +kernel⟩ ⟨(Nat.le_of_ble_eq_true rfl), (Nat.le_of_ble_eq_true rfl)⟩ hP hS (gk_recv hK.2.2.1.1 hP hR.1 rfl) rfl hl.1 rfl (Nat.le_of_ble_eq_true rfl) dL_olds_2 ⟨(Nat.le_of_ble_eq_true rfl), (Nat.le_of_ble_eq_true rfl)⟩ (fun v G1 H locs hw hP hS => ?_)
  obtain ⟨rfl, hG9⟩ := hw
  rw [hG9] at hP
  refine W.eq (g2 := F0 m 5 ls [.int (nI (ol f).length)]) rfl ?_
  exact gk_iret0 hK.1 hret hlk hP hS (Nat.le_of_ble_eq_true rfl) (Nat.le_of_ble_eq_true rfl) dL_olds_5 ⟨rfl, rfl⟩
set_option maxHeartbeats 4000000 in
set_option maxRecDepth 100000 in
theorem c0_L_thrown (l : Launch) {y : ly_T} {A : Nat → Prop} {G : gk_G} {td : Int32} {ru : Nat → Nat → Int32} {fr lv : Nat → Nat} {lt et tl : Nat → Int32} {hf hp : Nat → Option Nat} {ol : Nat → List Nat} {PS : Nat → Prop} {pf : Nat → Nat → Int32} {f : Nat}  (hfl : l.stackTraces = false) (hR : rp y G td ru fr lv lt et tl hf hp ol PS pf) (hf5 : f < 5) : gk_M0 l yL_thrown (Cond.codeWith yL_thrown cL_thrown 3 (some .int) [(0, 5, 6, 16)]) 2 60 0 0 y A [.ref (ly_a y 0), .int (nI f)] G (fun v G1 => v = some (.int (tl f)) ∧ G1 = G) := by
  refine gk_ofW (cc := cL_thrown) (maxL := 3) (ret := (some .int)) (own := RL) (by decide +kernel) rfl rfl (Nat.le_of_ble_eq_true rfl) ?_
  intro p e s m below meth c ls hK hret hlk hex hP hS hl
  have hl : lv_has ls 3 [(0, .ref (ly_a y 0)), (1, .int (nI f))] := hl
  refine lv_aload_n hK.1.1 hK.1.2.1 dL_thrown_0 rfl (lv_at hl 0 rfl) ?_
  refine lv_iload_n hK.1.1 hK.1.2.1 dL_thrown_1 rfl (lv_at hl 1 rfl) ?_
  refine gk_callV0 (n := 1) (As := [.int (nI f)]) (rest := []) hK (c0_X4_thrown l hR hf5) (gk_gV q_17_23 q_18_0 q_18_1 q_1_2 q_18_2) ⟨rfl, by decide +kernel, by decide +kernel, by decide +kernel⟩ ⟨(Nat.le_of_ble_eq_true rfl), (Nat.le_of_ble_eq_true rfl)⟩ hP hS (gk_recv hK.2.2.1.1 hP hR.1 rfl) rfl hl.1 rfl (Nat.le_of_ble_eq_true rfl) dL_thrown_2 ⟨(Nat.le_of_ble_eq_true rfl), (Nat.le_of_ble_eq_true rfl)⟩ (fun v G1 H locs hw hP hS => ?_)
  obtain ⟨rfl, hG9⟩ := hw
  rw [hG9] at hP
  refine W.eq (g2 := F0 m 5 ls [.int (tl f)]) rfl ?_
  exact gk_iret0 hK.1 hret hlk hP hS (Nat.le_of_ble_eq_true rfl) (Nat.le_of_ble_eq_true rfl) dL_thrown_5 ⟨rfl, rfl⟩
set_option maxHeartbeats 4000000 in
set_option maxRecDepth 100000 in
theorem c0_L_isDue (l : Launch) {y : ly_T} {A : Nat → Prop} {G : gk_G} {td : Int32} {ru : Nat → Nat → Int32} {fr lv : Nat → Nat} {lt et tl : Nat → Int32} {hf hp : Nat → Option Nat} {ol : Nat → List Nat} {PS : Nat → Prop} {pf : Nat → Nat → Int32} {f : Nat}  (hfl : l.stackTraces = false) (hR : rp y G td ru fr lv lt et tl hf hp ol PS pf) (hf5 : f < 5) (hLl : ∀ f, f < 5 → PS (lv f)) : gk_M0 l yL_isDue (Cond.codeWith yL_isDue cL_isDue 3 (some .int) [(0, 13, 14, 16)]) 4 130 0 0 y A [.ref (ly_a y 0), .int (nI f)] G (fun v G1 => v = some (.int (rg_b (t_due (pf 0 (lv f)) (ru (fr f) 1) (ru (fr f) 2) (ru (fr f) 3) (ru (fr f) 4) (et f) (lt f) td))) ∧ G1 = G) := by
  refine gk_ofW (cc := cL_isDue) (maxL := 3) (ret := (some .int)) (own := RL) (by decide +kernel) rfl rfl (Nat.le_of_ble_eq_true rfl) ?_
  intro p e s m below meth c ls hK hret hlk hex hP hS hl
  have hl : lv_has ls 3 [(0, .ref (ly_a y 0)), (1, .int (nI f))] := hl
  refine lv_aload_n hK.1.1 hK.1.2.1 dL_isDue_0 rfl (lv_at hl 0 rfl) ?_
  refine lv_iload_n hK.1.1 hK.1.2.1 dL_isDue_1 rfl (lv_at hl 1 rfl) ?_
  refine gk_callV0 (n := 1) (As := [.int (nI f)]) (rest := []) hK (c0_X4_isDue l hR hf5 hLl) (gk_gV q_17_6 q_17_7 q_17_8 q_1_2 q_17_9) ⟨rfl, by decide +kernel, by decide +kernel, by decide +kernel⟩ ⟨(Nat.le_of_ble_eq_true rfl), (Nat.le_of_ble_eq_true rfl)⟩ hP hS (gk_recv hK.2.2.1.1 hP hR.1 rfl) rfl hl.1 rfl (Nat.le_of_ble_eq_true rfl) dL_isDue_2 ⟨(Nat.le_of_ble_eq_true rfl), (Nat.le_of_ble_eq_true rfl)⟩ (fun v G1 H locs hw hP hS => ?_)
  obtain ⟨rfl, hG9⟩ := hw
  rw [hG9] at hP
  refine W.eq (g2 := F0 m 5 ls [.int (rg_b (t_due (pf 0 (lv f)) (ru (fr f) 1) (ru (fr f) 2) (ru (fr f) 3) (ru (fr f) 4) (et f) (lt f) td))]) rfl ?_
  refine lv_if_eq (tgt := 12) hK.1.1 hK.1.2.1 dL_isDue_5 (by decide) (fun c5_1 => ?_) (fun c5_1 => ?_)
  · refine lv_iconst (v := 0) hK.1.1 hK.1.2.1 dL_isDue_12 (by decide) ?_
    exact gk_iret0 hK.1 hret hlk hP hS (Nat.le_of_ble_eq_true rfl) (Nat.le_of_ble_eq_true rfl) dL_isDue_13 ⟨by rw [show rg_b (t_due (pf 0 (lv f)) (ru (fr f) 1) (ru (fr f) 2) (ru (fr f) 3) (ru (fr f) 4) (et f) (lt f) td) = 0 from c5_1], rfl⟩
  · refine lv_iconst (v := 1) hK.1.1 hK.1.2.1 dL_isDue_8 (by decide) ?_
    refine lv_goto (tgt := 13) hK.1.1 hK.1.2.1 dL_isDue_9 (by decide) ?_
    exact gk_iret0 hK.1 hret hlk hP hS (Nat.le_of_ble_eq_true rfl) (Nat.le_of_ble_eq_true rfl) dL_isDue_13 ⟨by rw [show rg_b (t_due (pf 0 (lv f)) (ru (fr f) 1) (ru (fr f) 2) (ru (fr f) 3) (ru (fr f) 4) (et f) (lt f) td) = 1 from rg_bt c5_1], rfl⟩
set_option maxHeartbeats 4000000 in
set_option maxRecDepth 100000 in
theorem c0_L_nextDue (l : Launch) {y : ly_T} {A : Nat → Prop} {G : gk_G} {td : Int32} {ru : Nat → Nat → Int32} {fr lv : Nat → Nat} {lt et tl : Nat → Int32} {hf hp : Nat → Option Nat} {ol : Nat → List Nat} {PS : Nat → Prop} {pf : Nat → Nat → Int32} {f : Nat}  (hfl : l.stackTraces = false) (hR : rp y G td ru fr lv lt et tl hf hp ol PS pf) (hf5 : f < 5) (hLl : ∀ f, f < 5 → PS (lv f)) : gk_M0 l yL_nextDue (Cond.codeWith yL_nextDue cL_nextDue 3 (some .int) [(0, 5, 6, 16)]) 4 130 0 0 y A [.ref (ly_a y 0), .int (nI f)] G (fun v G1 => ∃ x, ((∃ a, a < 201 ∧ (∀ b, b < a → t_due (pf 0 (lv f)) (ru (fr f) 1) (ru (fr f) 2) (ru (fr f) 3) (ru (fr f) 4) (et f) (lt f) (td + nI b) = false) ∧ t_due (pf 0 (lv f)) (ru (fr f) 1) (ru (fr f) 2) (ru (fr f) 3) (ru (fr f) 4) (et f) (lt f) (td + nI a) = true ∧ x = td + nI a) ∨ ((∀ b, b < 201 → t_due (pf 0 (lv f)) (ru (fr f) 1) (ru (fr f) 2) (ru (fr f) 3) (ru (fr f) 4) (et f) (lt f) (td + nI b) = false) ∧ x = -1)) ∧ v = some (.int x) ∧ G1 = G) := by
  refine gk_ofW (cc := cL_nextDue) (maxL := 3) (ret := (some .int)) (own := RL) (by decide +kernel) rfl rfl (Nat.le_of_ble_eq_true rfl) ?_
  intro p e s m below meth c ls hK hret hlk hex hP hS hl
  have hl : lv_has ls 3 [(0, .ref (ly_a y 0)), (1, .int (nI f))] := hl
  refine lv_aload_n hK.1.1 hK.1.2.1 dL_nextDue_0 rfl (lv_at hl 0 rfl) ?_
  refine lv_iload_n hK.1.1 hK.1.2.1 dL_nextDue_1 rfl (lv_at hl 1 rfl) ?_
  refine gk_callV0 (n := 1) (As := [.int (nI f)]) (rest := []) hK (c0_X4_nextDue l hR hf5 hLl) (gk_gV q_18_19 q_18_20 q_18_21 q_1_2 q_18_22) ⟨rfl, by decide +kernel, by decide +kernel, by decide +kernel⟩ ⟨(Nat.le_of_ble_eq_true rfl), (Nat.le_of_ble_eq_true rfl)⟩ hP hS (gk_recv hK.2.2.1.1 hP hR.1 rfl) rfl hl.1 rfl (Nat.le_of_ble_eq_true rfl) dL_nextDue_2 ⟨(Nat.le_of_ble_eq_true rfl), (Nat.le_of_ble_eq_true rfl)⟩ (fun v G1 H locs hw hP hS => ?_)
  obtain ⟨hw9, hG9⟩ := hw
  rw [hG9] at hP
  obtain ⟨x, hxx, rfl⟩ : ∃ x, ((∃ a, a < 201 ∧ (∀ b, b < a → t_due (pf 0 (lv f)) (ru (fr f) 1) (ru (fr f) 2) (ru (fr f) 3) (ru (fr f) 4) (et f) (lt f) (td + nI b) = false) ∧ t_due (pf 0 (lv f)) (ru (fr f) 1) (ru (fr f) 2) (ru (fr f) 3) (ru (fr f) 4) (et f) (lt f) (td + nI a) = true ∧ x = td + nI a) ∨ ((∀ b, b < 201 → t_due (pf 0 (lv f)) (ru (fr f) 1) (ru (fr f) 2) (ru (fr f) 3) (ru (fr f) 4) (et f) (lt f) (td + nI b) = false) ∧ x = -1)) ∧ v = some (.int x) := hw9.elim (fun ⟨a, h1, h2, h3, h4⟩ => ⟨_, Or.inl ⟨a, h1, h2, h3, rfl⟩, h4⟩) (fun ⟨h1, h2⟩ => ⟨_, Or.inr ⟨h1, rfl⟩, h2⟩)
  refine W.eq (g2 := F0 m 5 ls [.int x]) rfl ?_
  exact gk_iret0 hK.1 hret hlk hP hS (Nat.le_of_ble_eq_true rfl) (Nat.le_of_ble_eq_true rfl) dL_nextDue_5 ⟨x, hxx, rfl, rfl⟩
set_option maxHeartbeats 4000000 in
set_option maxRecDepth 100000 in
theorem c0_L_lines (l : Launch) {y : ly_T} {A : Nat → Prop} {G : gk_G} {td : Int32} {ru : Nat → Nat → Int32} {fr lv : Nat → Nat} {lt et tl : Nat → Int32} {hf hp : Nat → Option Nat} {ol : Nat → List Nat} {PS : Nat → Prop} {pf : Nat → Nat → Int32} {f k t : Nat}  (hfl : l.stackTraces = false) (hR : rp y G td ru fr lv lt et tl hf hp ol PS pf) (hf5 : f < 5) (htk : (ol f)[k]? = some t) (hin5 : ∀ f, f < 5 → ∀ q ∈ ol f, PS q) : gk_M0 l yL_lines (Cond.codeWith yL_lines cL_lines 4 (some .int) [(0, 6, 7, 16)]) 5 150 0 0 y A [.ref (ly_a y 0), .int (nI f), .int (nI k)] G (fun v G1 => v = some (.int (pf 0 t)) ∧ G1 = G) := by
  refine gk_ofW (cc := cL_lines) (maxL := 4) (ret := (some .int)) (own := RL) (by decide +kernel) rfl rfl (Nat.le_of_ble_eq_true rfl) ?_
  intro p e s m below meth c ls hK hret hlk hex hP hS hl
  have hl : lv_has ls 4 [(0, .ref (ly_a y 0)), (1, .int (nI f)), (2, .int (nI k))] := hl
  refine lv_aload_n hK.1.1 hK.1.2.1 dL_lines_0 rfl (lv_at hl 0 rfl) ?_
  refine lv_iload_n hK.1.1 hK.1.2.1 dL_lines_1 rfl (lv_at hl 1 rfl) ?_
  refine lv_iload_n hK.1.1 hK.1.2.1 dL_lines_2 rfl (lv_at hl 2 rfl) ?_
  refine gk_callV0 (n := 2) (As := [.int (nI f), .int (nI k)]) (rest := []) hK (c0_X4_lines l hR hf5 htk hin5) (gk_gV q_15_14 q_15_15 q_15_16 q_1_2 q_15_17) ⟨rfl, by decide +kernel, by decide +kernel, by decide +kernel⟩ ⟨(Nat.le_of_ble_eq_true rfl), (Nat.le_of_ble_eq_true rfl)⟩ hP hS (gk_recv hK.2.2.1.1 hP hR.1 rfl) rfl hl.1 rfl (Nat.le_of_ble_eq_true rfl) dL_lines_3 ⟨(Nat.le_of_ble_eq_true rfl), (Nat.le_of_ble_eq_true rfl)⟩ (fun v G1 H locs hw hP hS => ?_)
  obtain ⟨rfl, hG9⟩ := hw
  rw [hG9] at hP
  refine W.eq (g2 := F0 m 6 ls [.int (pf 0 t)]) rfl ?_
  exact gk_iret0 hK.1 hret hlk hP hS (Nat.le_of_ble_eq_true rfl) (Nat.le_of_ble_eq_true rfl) dL_lines_6 ⟨rfl, rfl⟩
set_option maxHeartbeats 4000000 in
set_option maxRecDepth 100000 in
theorem c0_L_name (l : Launch) {y : ly_T} {A : Nat → Prop} {G : gk_G} {td : Int32} {ru : Nat → Nat → Int32} {fr lv : Nat → Nat} {lt et tl : Nat → Int32} {hf hp : Nat → Option Nat} {ol : Nat → List Nat} {PS : Nat → Prop} {pf : Nat → Nat → Int32} {f k t : Nat}  (hfl : l.stackTraces = false) (hR : rp y G td ru fr lv lt et tl hf hp ol PS pf) (hf5 : f < 5) (htk : (ol f)[k]? = some t) (hin5 : ∀ f, f < 5 → ∀ q ∈ ol f, PS q) : gk_M0 l yL_name (Cond.codeWith yL_name cL_name 4 (some .int) [(0, 6, 7, 16)]) 5 160 0 0 y A [.ref (ly_a y 0), .int (nI f), .int (nI k)] G (fun v G1 => v = some (.int (if ru (fr f) 8 = 0 then nI ((ol f).length - k) else 1000 * pf 1 t + nI (t_cnt pf (ol f) k (pf 1 t)))) ∧ G1 = G) := by
  refine gk_ofW (cc := cL_name) (maxL := 4) (ret := (some .int)) (own := RL) (by decide +kernel) rfl rfl (Nat.le_of_ble_eq_true rfl) ?_
  intro p e s m below meth c ls hK hret hlk hex hP hS hl
  have hl : lv_has ls 4 [(0, .ref (ly_a y 0)), (1, .int (nI f)), (2, .int (nI k))] := hl
  refine lv_aload_n hK.1.1 hK.1.2.1 dL_name_0 rfl (lv_at hl 0 rfl) ?_
  refine lv_iload_n hK.1.1 hK.1.2.1 dL_name_1 rfl (lv_at hl 1 rfl) ?_
  refine lv_iload_n hK.1.1 hK.1.2.1 dL_name_2 rfl (lv_at hl 2 rfl) ?_
  refine gk_callV0 (n := 2) (As := [.int (nI f), .int (nI k)]) (rest := []) hK (c0_X4_name l hR hf5 htk hin5) (gk_gV q_11_8 q_11_9 q_11_10 q_1_2 q_11_11) ⟨rfl, by decide +kernel, by decide +kernel, by decide +kernel⟩ ⟨(Nat.le_of_ble_eq_true rfl), (Nat.le_of_ble_eq_true rfl)⟩ hP hS (gk_recv hK.2.2.1.1 hP hR.1 rfl) rfl hl.1 rfl (Nat.le_of_ble_eq_true rfl) dL_name_3 ⟨(Nat.le_of_ble_eq_true rfl), (Nat.le_of_ble_eq_true rfl)⟩ (fun v G1 H locs hw hP hS => ?_)
  obtain ⟨rfl, hG9⟩ := hw
  rw [hG9] at hP
  refine W.eq (g2 := F0 m 6 ls [.int (if ru (fr f) 8 = 0 then nI ((ol f).length - k) else 1000 * pf 1 t + nI (t_cnt pf (ol f) k (pf 1 t)))]) rfl ?_
  exact gk_iret0 hK.1 hret hlk hP hS (Nat.le_of_ble_eq_true rfl) (Nat.le_of_ble_eq_true rfl) dL_name_6 ⟨rfl, rfl⟩
set_option maxHeartbeats 4000000 in
set_option maxRecDepth 100000 in
theorem c0_L_isSqueezed (l : Launch) {y : ly_T} {A : Nat → Prop} {G : gk_G} {td : Int32} {ru : Nat → Nat → Int32} {fr lv : Nat → Nat} {lt et tl : Nat → Int32} {hf hp : Nat → Option Nat} {ol : Nat → List Nat} {PS : Nat → Prop} {pf : Nat → Nat → Int32} {f k t : Nat}  (hfl : l.stackTraces = false) (hR : rp y G td ru fr lv lt et tl hf hp ol PS pf) (hf5 : f < 5) (htk : (ol f)[k]? = some t) (hin5 : ∀ f, f < 5 → ∀ q ∈ ol f, PS q) (hsq : ∀ t, PS t → pf 2 t = 0 ∨ pf 2 t = 1) : gk_M0 l yL_isSqueezed (Cond.codeWith yL_isSqueezed cL_isSqueezed 4 (some .int) [(0, 14, 15, 16)]) 5 150 0 0 y A [.ref (ly_a y 0), .int (nI f), .int (nI k)] G (fun v G1 => v = some (.int (pf 2 t)) ∧ G1 = G) := by
  refine gk_ofW (cc := cL_isSqueezed) (maxL := 4) (ret := (some .int)) (own := RL) (by decide +kernel) rfl rfl (Nat.le_of_ble_eq_true rfl) ?_
  intro p e s m below meth c ls hK hret hlk hex hP hS hl
  have hl : lv_has ls 4 [(0, .ref (ly_a y 0)), (1, .int (nI f)), (2, .int (nI k))] := hl
  refine lv_aload_n hK.1.1 hK.1.2.1 dL_isSqueezed_0 rfl (lv_at hl 0 rfl) ?_
  refine lv_iload_n hK.1.1 hK.1.2.1 dL_isSqueezed_1 rfl (lv_at hl 1 rfl) ?_
  refine lv_iload_n hK.1.1 hK.1.2.1 dL_isSqueezed_2 rfl (lv_at hl 2 rfl) ?_
  refine gk_callV0 (n := 2) (As := [.int (nI f), .int (nI k)]) (rest := []) hK (c0_X4_isSqueezed l hR hf5 htk hin5 hsq) (gk_gV q_16_20 q_16_21 q_16_22 q_1_2 q_16_23) ⟨rfl, by decide +kernel, by decide +kernel, by decide +kernel⟩ ⟨(Nat.le_of_ble_eq_true rfl), (Nat.le_of_ble_eq_true rfl)⟩ hP hS (gk_recv hK.2.2.1.1 hP hR.1 rfl) rfl hl.1 rfl (Nat.le_of_ble_eq_true rfl) dL_isSqueezed_3 ⟨(Nat.le_of_ble_eq_true rfl), (Nat.le_of_ble_eq_true rfl)⟩ (fun v G1 H locs hw hP hS => ?_)
  obtain ⟨rfl, hG9⟩ := hw
  rw [hG9] at hP
  refine W.eq (g2 := F0 m 6 ls [.int (pf 2 t)]) rfl ?_
  refine lv_if_eq (tgt := 13) hK.1.1 hK.1.2.1 dL_isSqueezed_6 (by decide) (fun c6_1 => ?_) (fun c6_1 => ?_)
  · refine lv_iconst (v := 0) hK.1.1 hK.1.2.1 dL_isSqueezed_13 (by decide) ?_
    exact gk_iret0 hK.1 hret hlk hP hS (Nat.le_of_ble_eq_true rfl) (Nat.le_of_ble_eq_true rfl) dL_isSqueezed_14 ⟨by rw [c6_1], rfl⟩
  · refine lv_iconst (v := 1) hK.1.1 hK.1.2.1 dL_isSqueezed_9 (by decide) ?_
    refine lv_goto (tgt := 14) hK.1.1 hK.1.2.1 dL_isSqueezed_10 (by decide) ?_
    exact gk_iret0 hK.1 hret hlk hP hS (Nat.le_of_ble_eq_true rfl) (Nat.le_of_ble_eq_true rfl) dL_isSqueezed_14 ⟨by rw [(hsq t (hin5 _ hf5 t (List.mem_of_getElem? htk))).resolve_left c6_1], rfl⟩
set_option maxHeartbeats 4000000 in
set_option maxRecDepth 100000 in
theorem c0_L_holds (l : Launch) {y : ly_T} {A : Nat → Prop} {G : gk_G} {td : Int32} {ru : Nat → Nat → Int32} {fr lv : Nat → Nat} {lt et tl : Nat → Int32} {hf hp : Nat → Option Nat} {ol : Nat → List Nat} {PS : Nat → Prop} {pf : Nat → Nat → Int32} {h : Nat}  (hfl : l.stackTraces = false) (hR : rp y G td ru fr lv lt et tl hf hp ol PS pf) (hh : h < 4) (hHo : ∀ h, h < 4 → ∀ f, hf h = some f → ∃ t, hp h = some t) : gk_M0 l yL_holds (Cond.codeWith yL_holds cL_holds 3 (some .int) [(0, 5, 6, 16)]) 5 160 0 0 y A [.ref (ly_a y 0), .int (nI h)] G (fun v G1 => ∃ x, ((hf h = none ∧ x = -1) ∨ ∃ f t k, f < 5 ∧ hf h = some f ∧ hp h = some t ∧ t_plc (ol f) t k ∧ x = 100 * nI f + k) ∧ v = some (.int x) ∧ G1 = G) := by
  refine gk_ofW (cc := cL_holds) (maxL := 3) (ret := (some .int)) (own := RL) (by decide +kernel) rfl rfl (Nat.le_of_ble_eq_true rfl) ?_
  intro p e s m below meth c ls hK hret hlk hex hP hS hl
  have hl : lv_has ls 3 [(0, .ref (ly_a y 0)), (1, .int (nI h))] := hl
  refine lv_aload_n hK.1.1 hK.1.2.1 dL_holds_0 rfl (lv_at hl 0 rfl) ?_
  refine lv_iload_n hK.1.1 hK.1.2.1 dL_holds_1 rfl (lv_at hl 1 rfl) ?_
  refine gk_callV0 (n := 1) (As := [.int (nI h)]) (rest := []) hK (c0_X4_holds l hR hh hHo) (gk_gV q_10_15 q_10_16 q_10_17 q_1_2 q_10_18) ⟨rfl, by decide +kernel, by decide +kernel, by decide +kernel⟩ ⟨(Nat.le_of_ble_eq_true rfl), (Nat.le_of_ble_eq_true rfl)⟩ hP hS (gk_recv hK.2.2.1.1 hP hR.1 rfl) rfl hl.1 rfl (Nat.le_of_ble_eq_true rfl) dL_holds_2 ⟨(Nat.le_of_ble_eq_true rfl), (Nat.le_of_ble_eq_true rfl)⟩ (fun v G1 H locs hw hP hS => ?_)
  obtain ⟨hw9, hG9⟩ := hw
  rw [hG9] at hP
  obtain ⟨x, hxx, rfl⟩ : ∃ x, ((hf h = none ∧ x = -1) ∨ ∃ f t k, f < 5 ∧ hf h = some f ∧ hp h = some t ∧ t_plc (ol f) t k ∧ x = 100 * nI f + k) ∧ v = some (.int x) := hw9.elim (fun ⟨h1, h2⟩ => ⟨_, Or.inl ⟨h1, rfl⟩, h2⟩) (fun ⟨f, t, k, h1, h2, h3, h4, h5⟩ => ⟨_, Or.inr ⟨f, t, k, h1, h2, h3, h4, rfl⟩, h5⟩)
  refine W.eq (g2 := F0 m 5 ls [.int x]) rfl ?_
  exact gk_iret0 hK.1 hret hlk hP hS (Nat.le_of_ble_eq_true rfl) (Nat.le_of_ble_eq_true rfl) dL_holds_5 ⟨x, hxx, rfl, rfl⟩
