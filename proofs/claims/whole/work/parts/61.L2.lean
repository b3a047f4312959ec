/-! the law: the calls of the class whose answer is one of several -/
theorem lg_z1 {x : Int32} (h : ¬ x = 0) : lg_z (decide (¬ x = 0)) = 1 := by simp [lg_z, h]
theorem lg_z0 {x : Int32} (h : x = 0) : lg_z (decide (¬ x = 0)) = 0 := by simp [lg_z, h]
set_option maxHeartbeats 4000000 in
set_option maxRecDepth 100000 in
theorem c_L_nextDue (l : Launch) {y : ly_T} {A : Nat → Prop} {G : gk_G} {td : Int32} {ru : Nat → Nat → Int32} {fr lv : Nat → Nat} {lt et tl : Nat → Int32} {hf hp : Nat → Option Nat} {ol : Nat → List Nat} {PS : Nat → Prop} {pf : Nat → Nat → Int32} {ov : Int64} {md mq mt : Int32} {mv : Nat → Nat → Int32} {i : Int32}  (hfl : l.stackTraces = false) (hR : rp y G td ru fr lv lt et tl hf hp ol PS pf ov md mq mt mv) (hLl : ∀ f, f < 5 → PS (lv f)) : gk_M0 l yL_nextDue (Cond.codeWith yL_nextDue cL_nextDue 4 (some .int) [(0, 9, 12, 13)]) 8 160 16 128 y A [.ref (ly_a y 0), .int i, .ref (ly_a y 4)] G (fun v G1 => (∃ f x, f < 5 ∧ i = nI f ∧ ((∃ a, a < 201 ∧ (∀ b, b < a → t_due (pf 0 (lv f)) (ru (fr f) 1) (ru (fr f) 2) (ru (fr f) 3) (ru (fr f) 4) (et f) (lt f) (td + nI b) = false) ∧ t_due (pf 0 (lv f)) (ru (fr f) 1) (ru (fr f) 2) (ru (fr f) 3) (ru (fr f) 4) (et f) (lt f) (td + nI a) = true ∧ x = td + nI a) ∨ ((∀ b, b < 201 → t_due (pf 0 (lv f)) (ru (fr f) 1) (ru (fr f) 2) (ru (fr f) 3) (ru (fr f) 4) (et f) (lt f) (td + nI b) = false) ∧ x = -1)) ∧ v = some (.int 0) ∧ rp y G1 td ru fr lv lt et tl hf hp ol PS pf (x).toInt64 md mq mt mv) ∨ (rg_out i 5 ∧ v = some (.int 1) ∧ rp y G1 td ru fr lv lt et tl hf hp ol PS pf ov md mq mt mv)) := by
  refine gk_ofW (cc := cL_nextDue) (maxL := 4) (ret := (some .int)) (own := RL) (by decide +kernel) rfl rfl (Nat.le_of_ble_eq_true rfl) ?_
  intro p e s m below meth c ls hK hret hlk hex hP hS hl
  have hl : lv_has ls 4 [(0, .ref (ly_a y 0)), (1, .int i), (2, .ref (ly_a y 4))] := hl
  refine lv_aload_n hK.1.1 hK.1.2.1 dL_nextDue_0 rfl (lv_at hl 2 rfl) ?_
  refine lv_iconst (v := 0) hK.1.1 hK.1.2.1 dL_nextDue_1 (by decide) ?_
  refine lv_aload_n hK.1.1 hK.1.2.1 dL_nextDue_2 rfl (lv_at hl 0 rfl) ?_
  refine lv_iload_n hK.1.1 hK.1.2.1 dL_nextDue_3 rfl (lv_at hl 1 rfl) ?_
  refine gk_callV (n := 1) (As := [.int i]) (rest := [.int 0, .ref (ly_a y 4)]) hK (c_X4_nextDue l hfl hR (i := i) hLl) (gk_gV q_20_3 q_20_4 q_20_5 q_1_2 q_20_6) ⟨rfl, by decide +kernel, by decide +kernel, by decide +kernel⟩ ⟨(Nat.le_of_ble_eq_true rfl), (Nat.le_of_ble_eq_true rfl)⟩ hP hS (gk_recv hK.2.2.1.1 hP hR.1 rfl) rfl hl.1 rfl (Nat.le_of_ble_eq_true rfl) dL_nextDue_4 ⟨(Nat.le_of_ble_eq_true rfl), (Nat.le_of_ble_eq_true rfl)⟩ (fun E ce q9 G1 H locs hx hP hS h1 h2 h3 => ?_) (fun v G1 H locs hw hP hS => ?_)
  · obtain ⟨rfl, hG9, hx9⟩ := hx
    rw [hG9] at hP
    refine vx_catch (E := "java/lang/IndexOutOfBoundsException") hK.1.2.2.1 [] ⟨0, 9, 12, 13⟩ [] hex (fun z hz => nomatch hz) (by decide) (by decide) (hK.1.2.2.2 _ q_5_2) (gk_castU hK.2.2.1.2.2.1.2.2.2.1.1) h1 h2 h3 ?_
    refine lv_astore_n (lv' := [(3, .ref q9), (0, .ref (ly_a y 0)), (1, .int i), (2, .ref (ly_a y 4))]) hK.1.1 hK.1.2.1 dL_nextDue_12 rfl hl (by decide) rfl (fun ls hl => ?_)
    refine lv_iconst (v := 1) hK.1.1 hK.1.2.1 dL_nextDue_13 (by decide) ?_
    exact gk_iret0 hK.1 hret hlk hP hS (Nat.le_of_ble_eq_true rfl) (Nat.le_of_ble_eq_true rfl) dL_nextDue_14 (Or.inr (⟨hx9, rfl, hR⟩))
  obtain ⟨f, hf5, rfl, hw9, hG9⟩ := hw
  rw [hG9] at hP
  obtain ⟨x, hxx, rfl⟩ : ∃ x, ((∃ a, a < 201 ∧ (∀ b, b < a → t_due (pf 0 (lv f)) (ru (fr f) 1) (ru (fr f) 2) (ru (fr f) 3) (ru (fr f) 4) (et f) (lt f) (td + nI b) = false) ∧ t_due (pf 0 (lv f)) (ru (fr f) 1) (ru (fr f) 2) (ru (fr f) 3) (ru (fr f) 4) (et f) (lt f) (td + nI a) = true ∧ x = td + nI a) ∨ ((∀ b, b < 201 → t_due (pf 0 (lv f)) (ru (fr f) 1) (ru (fr f) 2) (ru (fr f) 3) (ru (fr f) 4) (et f) (lt f) (td + nI b) = false) ∧ x = -1)) ∧ v = some (.int x) := hw9.elim (fun ⟨a, h1, h2, h3, h4⟩ => ⟨_, Or.inl ⟨a, h1, h2, h3, rfl⟩, h4⟩) (fun ⟨h1, h2⟩ => ⟨_, Or.inr ⟨h1, rfl⟩, h2⟩)
  refine W.eq (g2 := F0 m 7 ls [.int x, .int 0, .ref (ly_a y 4)]) rfl ?_
  refine lv_i2l hK.1.1 hK.1.2.1 dL_nextDue_7 rfl ?_
  refine lo_put hK hP hS hR dL_nextDue_8 (fun H locs G hP hS hR => ?_)
  refine lv_goto (tgt := 15) hK.1.1 hK.1.2.1 dL_nextDue_9 (by decide) ?_
  refine lv_iconst (v := 0) hK.1.1 hK.1.2.1 dL_nextDue_15 (by decide) ?_
  exact gk_iret0 hK.1 hret hlk hP hS (Nat.le_of_ble_eq_true rfl) (Nat.le_of_ble_eq_true rfl) dL_nextDue_16 (Or.inl (⟨f, x, hf5, rfl, hxx, rfl, hR⟩))
set_option maxHeartbeats 4000000 in
set_option maxRecDepth 100000 in
theorem c_L_holds (l : Launch) {y : ly_T} {A : Nat → Prop} {G : gk_G} {td : Int32} {ru : Nat → Nat → Int32} {fr lv : Nat → Nat} {lt et tl : Nat → Int32} {hf hp : Nat → Option Nat} {ol : Nat → List Nat} {PS : Nat → Prop} {pf : Nat → Nat → Int32} {ov : Int64} {md mq mt : Int32} {mv : Nat → Nat → Int32} {i : Int32}  (hfl : l.stackTraces = false) (hR : rp y G td ru fr lv lt et tl hf hp ol PS pf ov md mq mt mv) (hHo : ∀ h, h < 4 → ∀ f, hf h = some f → ∃ t, hp h = some t) : gk_M0 l yL_holds (Cond.codeWith yL_holds cL_holds 4 (some .int) [(0, 9, 12, 13)]) 8 160 16 128 y A [.ref (ly_a y 0), .int i, .ref (ly_a y 4)] G (fun v G1 => (∃ h z9, h < 4 ∧ i = nI h ∧ ((hf h = none ∧ z9 = -1) ∨ ∃ f t x, f < 5 ∧ hf h = some f ∧ hp h = some t ∧ t_plc (ol f) t x ∧ z9 = 100 * nI f + x) ∧ v = some (.int 0) ∧ rp y G1 td ru fr lv lt et tl hf hp ol PS pf (z9).toInt64 md mq mt mv) ∨ (rg_out i 4 ∧ v = some (.int 1) ∧ rp y G1 td ru fr lv lt et tl hf hp ol PS pf ov md mq mt mv)) := by
  refine gk_ofW (cc := cL_holds) (maxL := 4) (ret := (some .int)) (own := RL) (by decide +kernel) rfl rfl (Nat.le_of_ble_eq_true rfl) ?_
  intro p e s m below meth c ls hK hret hlk hex hP hS hl
  have hl : lv_has ls 4 [(0, .ref (ly_a y 0)), (1, .int i), (2, .ref (ly_a y 4))] := hl
  refine lv_aload_n hK.1.1 hK.1.2.1 dL_holds_0 rfl (lv_at hl 2 rfl) ?_
  refine lv_iconst (v := 0) hK.1.1 hK.1.2.1 dL_holds_1 (by decide) ?_
  refine lv_aload_n hK.1.1 hK.1.2.1 dL_holds_2 rfl (lv_at hl 0 rfl) ?_
  refine lv_iload_n hK.1.1 hK.1.2.1 dL_holds_3 rfl (lv_at hl 1 rfl) ?_
  refine gk_callV (n := 1) (As := [.int i]) (rest := [.int 0, .ref (ly_a y 4)]) hK (c_X4_holds l hfl hR (i := i) hHo) (gk_gV q_23_18 q_23_19 q_23_20 q_1_2 q_23_21) ⟨rfl, by decide +kernel, by decide +kernel, by decide +kernel⟩ ⟨(Nat.le_of_ble_eq_true rfl), (Nat.le_of_ble_eq_true rfl)⟩ hP hS (gk_recv hK.2.2.1.1 hP hR.1 rfl) rfl hl.1 rfl (Nat.le_of_ble_eq_true rfl) dL_holds_4 ⟨(Nat.le_of_ble_eq_true rfl), (Nat.le_of_ble_eq_true rfl)⟩ (fun E ce q9 G1 H locs hx hP hS h1 h2 h3 => ?_) (fun v G1 H locs hw hP hS => ?_)
  · obtain ⟨rfl, hG9, hx9⟩ := hx
    rw [hG9] at hP
    refine vx_catch (E := "java/lang/IndexOutOfBoundsException") hK.1.2.2.1 [] ⟨0, 9, 12, 13⟩ [] hex (fun z hz => nomatch hz) (by decide) (by decide) (hK.1.2.2.2 _ q_5_2) (gk_castU hK.2.2.1.2.2.1.2.2.2.1.1) h1 h2 h3 ?_
    refine lv_astore_n (lv' := [(3, .ref q9), (0, .ref (ly_a y 0)), (1, .int i), (2, .ref (ly_a y 4))]) hK.1.1 hK.1.2.1 dL_holds_12 rfl hl (by decide) rfl (fun ls hl => ?_)
    refine lv_iconst (v := 1) hK.1.1 hK.1.2.1 dL_holds_13 (by decide) ?_
    exact gk_iret0 hK.1 hret hlk hP hS (Nat.le_of_ble_eq_true rfl) (Nat.le_of_ble_eq_true rfl) dL_holds_14 (Or.inr (⟨hx9, rfl, hR⟩))
  obtain ⟨h, hh, rfl, hw9, hG9⟩ := hw
  rw [hG9] at hP
  obtain ⟨z9, hxx, rfl⟩ : ∃ z9, ((hf h = none ∧ z9 = -1) ∨ ∃ f t x, f < 5 ∧ hf h = some f ∧ hp h = some t ∧ t_plc (ol f) t x ∧ z9 = 100 * nI f + x) ∧ v = some (.int z9) := hw9.elim (fun ⟨p1, p2⟩ => ⟨_, Or.inl ⟨p1, rfl⟩, p2⟩) (fun ⟨f, t, x, p1, p2, p3, p4, p5⟩ => ⟨_, Or.inr ⟨f, t, x, p1, p2, p3, p4, rfl⟩, p5⟩)
  refine W.eq (g2 := F0 m 7 ls [.int z9, .int 0, .ref (ly_a y 4)]) rfl ?_
  refine lv_i2l hK.1.1 hK.1.2.1 dL_holds_7 rfl ?_
  refine lo_put hK hP hS hR dL_holds_8 (fun H locs G hP hS hR => ?_)
  refine lv_goto (tgt := 15) hK.1.1 hK.1.2.1 dL_holds_9 (by decide) ?_
  refine lv_iconst (v := 0) hK.1.1 hK.1.2.1 dL_holds_15 (by decide) ?_
  exact gk_iret0 hK.1 hret hlk hP hS (Nat.le_of_ble_eq_true rfl) (Nat.le_of_ble_eq_true rfl) dL_holds_16 (Or.inl (⟨h, z9, hh, rfl, hxx, rfl, hR⟩))
set_option maxHeartbeats 4000000 in
set_option maxRecDepth 100000 in
theorem c_L_isSqueezed (l : Launch) {y : ly_T} {A : Nat → Prop} {G : gk_G} {td : Int32} {ru : Nat → Nat → Int32} {fr lv : Nat → Nat} {lt et tl : Nat → Int32} {hf hp : Nat → Option Nat} {ol : Nat → List Nat} {PS : Nat → Prop} {pf : Nat → Nat → Int32} {ov : Int64} {md mq mt : Int32} {mv : Nat → Nat → Int32} {i j : Int32}  (hfl : l.stackTraces = false) (hR : rp y G td ru fr lv lt et tl hf hp ol PS pf ov md mq mt mv) (hin5 : ∀ f, f < 5 → ∀ q ∈ ol f, PS q) (hsq : ∀ t, PS t → pf 2 t = 0 ∨ pf 2 t = 1) : gk_M0 l yL_isSqueezed (Cond.codeWith yL_isSqueezed cL_isSqueezed 5 (some .int) [(0, 17, 20, 13)]) 8 160 16 128 y A [.ref (ly_a y 0), .int i, .int j, .ref (ly_a y 4)] G (fun v G1 => (∃ f k t, f < 5 ∧ i = nI f ∧ (ol f)[k]? = some t ∧ j = nI k ∧ v = some (.int 0) ∧ rp y G1 td ru fr lv lt et tl hf hp ol PS pf (lg_z (decide (¬ pf 2 t = 0))) md mq mt mv) ∨ ((rg_out i 5 ∨ ∃ f, f < 5 ∧ i = nI f ∧ rg_out j (ol f).length) ∧ v = some (.int 1) ∧ rp y G1 td ru fr lv lt et tl hf hp ol PS pf ov md mq mt mv)) := by
  refine gk_ofW (cc := cL_isSqueezed) (maxL := 5) (ret := (some .int)) (own := RL) (by decide +kernel) rfl rfl (Nat.le_of_ble_eq_true rfl) ?_
  intro p e s m below meth c ls hK hret hlk hex hP hS hl
  have hl : lv_has ls 5 [(0, .ref (ly_a y 0)), (1, .int i), (2, .int j), (3, .ref (ly_a y 4))] := hl
  refine lv_aload_n hK.1.1 hK.1.2.1 dL_isSqueezed_0 rfl (lv_at hl 3 rfl) ?_
  refine lv_iconst (v := 0) hK.1.1 hK.1.2.1 dL_isSqueezed_1 (by decide) ?_
  refine lv_aload_n hK.1.1 hK.1.2.1 dL_isSqueezed_2 rfl (lv_at hl 0 rfl) ?_
  refine lv_iload_n hK.1.1 hK.1.2.1 dL_isSqueezed_3 rfl (lv_at hl 1 rfl) ?_
  refine lv_iload_n hK.1.1 hK.1.2.1 dL_isSqueezed_4 rfl (lv_at hl 2 rfl) ?_
  refine gk_callV (n := 2) (As := [.int i, .int j]) (rest := [.int 0, .ref (ly_a y 4)]) hK (c_X4_isSqueezed l hfl hR (i := i) (j := j) hin5 hsq) (gk_gV q_22_20 q_22_21 q_22_22 q_1_2 q_22_23) ⟨rfl, by decide +kernel, by decide +kernel, by decide +kernel⟩ ⟨(Nat.le_of_ble_eq_true rfl), (Nat.le_of_ble_eq_true rfl)⟩ hP hS (gk_recv hK.2.2.1.1 hP hR.1 rfl) rfl hl.1 rfl (Nat.le_of_ble_eq_true rfl) dL_isSqueezed_5 ⟨(Nat.le_of_ble_eq_true rfl), (Nat.le_of_ble_eq_true rfl)⟩ (fun E ce q9 G1 H locs hx hP hS h1 h2 h3 => ?_) (fun v G1 H locs hw hP hS => ?_)
  · obtain ⟨rfl, hG9, hx9⟩ := hx
    rw [hG9] at hP
    refine vx_catch (E := "java/lang/IndexOutOfBoundsException") hK.1.2.2.1 [] ⟨0, 17, 20, 13⟩ [] hex (fun z hz => nomatch hz) (by decide) (by decide) (hK.1.2.2.2 _ q_5_2) (gk_castU hK.2.2.1.2.2.1.2.2.2.1.1) h1 h2 h3 ?_
    refine lv_astore (lv' := [(4, .ref q9), (0, .ref (ly_a y 0)), (1, .int i), (2, .int j), (3, .ref (ly_a y 4))]) hK.1.1 hK.1.2.1 dL_isSqueezed_20 hl (by decide) rfl (fun ls hl => ?_)
    refine lv_iconst (v := 1) hK.1.1 hK.1.2.1 dL_isSqueezed_22 (by decide) ?_
    exact gk_iret0 hK.1 hret hlk hP hS (Nat.le_of_ble_eq_true rfl) (Nat.le_of_ble_eq_true rfl) dL_isSqueezed_23 (Or.inr (⟨hx9, rfl, hR⟩))
  obtain ⟨f, k, t, hf5, rfl, htk, rfl, rfl, hG9⟩ := hw
  rw [hG9] at hP
  refine W.eq (g2 := F0 m 8 ls [.int (pf 2 t), .int 0, .ref (ly_a y 4)]) rfl ?_
  refine lv_if_eq (tgt := 15) hK.1.1 hK.1.2.1 dL_isSqueezed_8 (by decide) (fun c8_1 => ?_) (fun c8_1 => ?_)
  · refine lv_lconst (v := 0) hK.1.1 hK.1.2.1 dL_isSqueezed_15 (by decide) ?_
    refine lo_put hK hP hS hR dL_isSqueezed_16 (fun H locs G hP hS hR => ?_)
    refine lv_goto (tgt := 24) hK.1.1 hK.1.2.1 dL_isSqueezed_17 (by decide) ?_
    refine lv_iconst (v := 0) hK.1.1 hK.1.2.1 dL_isSqueezed_24 (by decide) ?_
    exact gk_iret0 hK.1 hret hlk hP hS (Nat.le_of_ble_eq_true rfl) (Nat.le_of_ble_eq_true rfl) dL_isSqueezed_25 (Or.inl (⟨f, k, t, hf5, rfl, htk, rfl, rfl, (by rw [show lg_z (decide (¬ pf 2 t = 0)) = 0 from lg_z0 c8_1]; exact hR)⟩))
  · refine lv_lconst (v := 1) hK.1.1 hK.1.2.1 dL_isSqueezed_11 (by decide) ?_
    refine lv_goto (tgt := 16) hK.1.1 hK.1.2.1 dL_isSqueezed_12 (by decide) ?_
    refine lo_put hK hP hS hR dL_isSqueezed_16 (fun H locs G hP hS hR => ?_)
    refine lv_goto (tgt := 24) hK.1.1 hK.1.2.1 dL_isSqueezed_17 (by decide) ?_
    refine lv_iconst (v := 0) hK.1.1 hK.1.2.1 dL_isSqueezed_24 (by decide) ?_
    exact gk_iret0 hK.1 hret hlk hP hS (Nat.le_of_ble_eq_true rfl) (Nat.le_of_ble_eq_true rfl) dL_isSqueezed_25 (Or.inl (⟨f, k, t, hf5, rfl, htk, rfl, rfl, (by rw [show lg_z (decide (¬ pf 2 t = 0)) = 1 from lg_z1 c8_1]; exact hR)⟩))
