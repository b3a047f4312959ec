/-! the class: the calls that ask -/
theorem rp_len {y : ly_T} {G : gk_G} {td : Int32} {ru : Nat → Nat → Int32} {fr lv : Nat → Nat} {lt et tl : Nat → Int32} {hf hp : Nat → Option Nat} {ol : Nat → List Nat} {PS : Nat → Prop} {pf : Nat → Nat → Int32} (hR : rp y G td ru fr lv lt et tl hf hp ol PS pf) {f : Nat} (hf5 : f < 5) : (ol f).length ≤ 1000 := by
  obtain ⟨⟨ea, mc, h1, h2⟩, h3⟩ := hR.2.2.2.2.2.1
  exact (h1 f hf5).2.1
/-- how many of the first k have the day d -/
def t_cnt (pf : Nat → Nat → Int32) (l : List Nat) (k : Nat) (d : Int32) : Nat := ((l.take k).filter (fun t => decide (pf 1 t = d))).length
theorem t_cnt_e {pf : Nat → Nat → Int32} {l : List Nat} {k t : Nat} {d : Int32} (hk : l[k]? = some t) (h : pf 1 t = d) : t_cnt pf l (k + 1) d = t_cnt pf l k d + 1 := by
  have : l.take (k + 1) = l.take k ++ [t] := by rw [List.take_add_one, hk]; rfl
  simp [t_cnt, this, List.filter_append, h]
theorem t_cnt_n {pf : Nat → Nat → Int32} {l : List Nat} {k t : Nat} {d : Int32} (hk : l[k]? = some t) (h : ¬ pf 1 t = d) : t_cnt pf l (k + 1) d = t_cnt pf l k d := by
  have : l.take (k + 1) = l.take k ++ [t] := by rw [List.take_add_one, hk]; rfl
  simp [t_cnt, this, List.filter_append, h]
/-- the place of t in l: one more than its first index, or 0 -/
def t_plc (l : List Nat) (t : Nat) (x : Int32) : Prop := (∃ k, l[k]? = some t ∧ (∀ j, j < k → ¬ l[j]? = some t) ∧ x = nI (k + 1)) ∨ ((∀ j : Nat, ¬ l[j]? = some t) ∧ x = 0)
set_option maxHeartbeats 4000000 in
set_option maxRecDepth 100000 in
theorem c_X4_turn (l : Launch) {y : ly_T} {A : Nat → Prop} {G : gk_G} {td : Int32} {ru : Nat → Nat → Int32} {fr lv : Nat → Nat} {lt et tl : Nat → Int32} {hf hp : Nat → Option Nat} {ol : Nat → List Nat} {PS : Nat → Prop} {pf : Nat → Nat → Int32} {i : Int32}  (hfl : l.stackTraces = false) (hR : rp y G td ru fr lv lt et tl hf hp ol PS pf) (hLl : ∀ f, f < 5 → PS (lv f)) (hin5 : ∀ f, f < 5 → ∀ q ∈ ol f, PS q) (hlen5 : ∀ f, f < 5 → (ol f).length < 512) : gk_M l yX4_turn (Cond.code yX4_turn cX4_turn 2 (some .int)) 8 270 3 1509 y A [.ref (ly_a y 0), .int i] G (fun v G1 => ∃ f q, f < 5 ∧ i = nI f ∧ ¬ PS q ∧ v = some (.int (nI (t_tth td ru fr lv hp ol pf f q).length)) ∧ rp y G1 td ru fr (va_up lv f q) (va_up lt f td) (va_up et f 1) (va_up tl f (t_sum (t_tpf td ru fr lv hp ol pf f q) (tl f) (t_tth td ru fr lv hp ol pf f q))) hf hp (va_up ol f (t_tkp td ru fr lv hp ol pf f q)) (fun t => PS t ∨ t = q) (t_tpf td ru fr lv hp ol pf f q)) (fun E G1 => E = "java/lang/IndexOutOfBoundsException" ∧ G1 = G ∧ rg_out i 5) := by
  refine gk_ofX (cc := cX4_turn) (maxL := 2) (ret := (some .int)) (own := RX4) (by decide +kernel) rfl rfl (Nat.le_of_ble_eq_true rfl) ?_
  intro p e s m below meth c ls hK hret hlk hex hP hS hl
  have hl : lv_has ls 2 [(0, .ref (ly_a y 0)), (1, .int i)] := hl
  refine lv_aload_n hK.1.1 hK.1.2.1 dX4_turn_0 rfl (lv_at hl 0 rfl) ?_
  refine lv_aload_n hK.1.1 hK.1.2.1 dX4_turn_1 rfl (lv_at hl 0 rfl) ?_
  refine lv_iload_n hK.1.1 hK.1.2.1 dX4_turn_2 rfl (lv_at hl 1 rfl) ?_
  refine gk_callV (n := 1) (As := [.int i]) (rest := [.ref (ly_a y 0)]) hK (c_X4_fileOf l hfl hR (i := i)) (gk_gV q_11_13 q_11_14 q_11_15 q_1_2 q_11_16) ⟨rfl, by decide +kernel, by decide +kernel, by decide +kernel⟩ ⟨(Nat.le_of_ble_eq_true rfl), (Nat.le_of_ble_eq_true rfl)⟩ hP hS (gk_recv hK.2.2.1.1 hP hR.1 rfl) rfl hl.1 rfl (Nat.le_of_ble_eq_true rfl) dX4_turn_3 ⟨(Nat.le_of_ble_eq_true rfl), (Nat.le_of_ble_eq_true rfl)⟩ (fun E ce q9 G1 H locs hx hP hS h1 h2 h3 => gk_out hex hlk hP hS h1 h2 h3 hx (Nat.le_of_ble_eq_true rfl) (Nat.le_of_ble_eq_true rfl)) (fun v G1 H locs hw hP hS => ?_)
  obtain ⟨f_1, hf_1, rfl, rfl, hG9⟩ := hw
  rw [hG9] at hP
  refine W.eq (g2 := F0 m 6 ls [.ref (ly_f y 1 f_1), .ref (ly_a y 0)]) rfl ?_
  refine gk_callV0 (n := 1) (As := [.ref (ly_f y 1 f_1)]) (rest := []) hK (c_X4_turnToday l hR (f := f_1) hf_1 hLl (hin5 f_1 hf_1) (hlen5 f_1 hf_1)) (gk_gV q_5_5 q_5_6 q_5_7 q_1_2 q_5_8) ⟨rfl, by decide +kernel, by decide +kernel, by decide +kernel⟩ ⟨(Nat.le_of_ble_eq_true rfl), (Nat.le_of_ble_eq_true rfl)⟩ hP hS (gk_recv hK.2.2.1.1 hP hR.1 rfl) rfl hl.1 rfl (Nat.le_of_ble_eq_true rfl) dX4_turn_6 ⟨(Nat.le_of_ble_eq_true rfl), (Nat.le_of_ble_eq_true rfl)⟩ (fun v G1 H locs hw hP hS => ?_)
  obtain ⟨q, hq9, rfl, hR⟩ := hw
  refine W.eq (g2 := F0 m 9 ls [.int (nI (t_tth td ru fr lv hp ol pf f_1 q).length)]) rfl ?_
  exact vx_ret (gk_iret0 hK.1 hret hlk hP hS (Nat.le_of_ble_eq_true rfl) (Nat.le_of_ble_eq_true rfl) dX4_turn_9 ⟨f_1, q, hf_1, rfl, hq9, rfl, hR⟩)
set_option maxHeartbeats 4000000 in
set_option maxRecDepth 100000 in
theorem c_X4_live (l : Launch) {y : ly_T} {A : Nat → Prop} {G : gk_G} {td : Int32} {ru : Nat → Nat → Int32} {fr lv : Nat → Nat} {lt et tl : Nat → Int32} {hf hp : Nat → Option Nat} {ol : Nat → List Nat} {PS : Nat → Prop} {pf : Nat → Nat → Int32} {i : Int32}  (hfl : l.stackTraces = false) (hR : rp y G td ru fr lv lt et tl hf hp ol PS pf) (hLl : ∀ f, f < 5 → PS (lv f)) : gk_M l yX4_live (Cond.code yX4_live cX4_live 2 (some .int)) 7 110 16 128 y A [.ref (ly_a y 0), .int i] G (fun v G1 => ∃ f, f < 5 ∧ i = nI f ∧ v = some (.int (pf 0 (lv f))) ∧ G1 = G) (fun E G1 => E = "java/lang/IndexOutOfBoundsException" ∧ G1 = G ∧ rg_out i 5) := by
  refine gk_ofX (cc := cX4_live) (maxL := 2) (ret := (some .int)) (own := RX4) (by decide +kernel) rfl rfl (Nat.le_of_ble_eq_true rfl) ?_
  intro p e s m below meth c ls hK hret hlk hex hP hS hl
  have hl : lv_has ls 2 [(0, .ref (ly_a y 0)), (1, .int i)] := hl
  refine lv_aload_n hK.1.1 hK.1.2.1 dX4_live_0 rfl (lv_at hl 0 rfl) ?_
  refine lv_iload_n hK.1.1 hK.1.2.1 dX4_live_1 rfl (lv_at hl 1 rfl) ?_
  refine gk_callV (n := 1) (As := [.int i]) (rest := []) hK (c_X4_fileOf l hfl hR (i := i)) (gk_gV q_11_13 q_11_14 q_11_15 q_1_2 q_11_16) ⟨rfl, by decide +kernel, by decide +kernel, by decide +kernel⟩ ⟨(Nat.le_of_ble_eq_true rfl), (Nat.le_of_ble_eq_true rfl)⟩ hP hS (gk_recv hK.2.2.1.1 hP hR.1 rfl) rfl hl.1 rfl (Nat.le_of_ble_eq_true rfl) dX4_live_2 ⟨(Nat.le_of_ble_eq_true rfl), (Nat.le_of_ble_eq_true rfl)⟩ (fun E ce q9 G1 H locs hx hP hS h1 h2 h3 => gk_out hex hlk hP hS h1 h2 h3 hx (Nat.le_of_ble_eq_true rfl) (Nat.le_of_ble_eq_true rfl)) (fun v G1 H locs hw hP hS => ?_)
  obtain ⟨f_1, hf_1, rfl, rfl, hG9⟩ := hw
  rw [hG9] at hP
  refine W.eq (g2 := F0 m 5 ls [.ref (ly_f y 1 f_1)]) rfl ?_
  refine tr_90 hK hP hR hf_1 dX4_live_5 ?_
  refine tr_104 hK hP hR (hLl _ hf_1) dX4_live_8 ?_
  exact vx_ret (gk_iret0 hK.1 hret hlk hP hS (Nat.le_of_ble_eq_true rfl) (Nat.le_of_ble_eq_true rfl) dX4_live_11 ⟨f_1, hf_1, rfl, rfl, rfl⟩)
set_option maxHeartbeats 4000000 in
set_option maxRecDepth 100000 in
theorem c_X4_olds (l : Launch) {y : ly_T} {A : Nat → Prop} {G : gk_G} {td : Int32} {ru : Nat → Nat → Int32} {fr lv : Nat → Nat} {lt et tl : Nat → Int32} {hf hp : Nat → Option Nat} {ol : Nat → List Nat} {PS : Nat → Prop} {pf : Nat → Nat → Int32} {i : Int32}  (hfl : l.stackTraces = false) (hR : rp y G td ru fr lv lt et tl hf hp ol PS pf) : gk_M l yX4_olds (Cond.code yX4_olds cX4_olds 2 (some .int)) 7 110 16 128 y A [.ref (ly_a y 0), .int i] G (fun v G1 => ∃ f, f < 5 ∧ i = nI f ∧ v = some (.int (nI (ol f).length)) ∧ G1 = G) (fun E G1 => E = "java/lang/IndexOutOfBoundsException" ∧ G1 = G ∧ rg_out i 5) := by
  refine gk_ofX (cc := cX4_olds) (maxL := 2) (ret := (some .int)) (own := RX4) (by decide +kernel) rfl rfl (Nat.le_of_ble_eq_true rfl) ?_
  intro p e s m below meth c ls hK hret hlk hex hP hS hl
  have hl : lv_has ls 2 [(0, .ref (ly_a y 0)), (1, .int i)] := hl
  refine lv_aload_n hK.1.1 hK.1.2.1 dX4_olds_0 rfl (lv_at hl 0 rfl) ?_
  refine lv_iload_n hK.1.1 hK.1.2.1 dX4_olds_1 rfl (lv_at hl 1 rfl) ?_
  refine gk_callV (n := 1) (As := [.int i]) (rest := []) hK (c_X4_fileOf l hfl hR (i := i)) (gk_gV q_11_13 q_11_14 q_11_15 q_1_2 q_11_16) ⟨rfl, by decide +kernel, by decide +kernel, by decide +kernel⟩ ⟨(Nat.le_of_ble_eq_true rfl), (Nat.le_of_ble_eq_true rfl)⟩ hP hS (gk_recv hK.2.2.1.1 hP hR.1 rfl) rfl hl.1 rfl (Nat.le_of_ble_eq_true rfl) dX4_olds_2 ⟨(Nat.le_of_ble_eq_true rfl), (Nat.le_of_ble_eq_true rfl)⟩ (fun E ce q9 G1 H locs hx hP hS h1 h2 h3 => gk_out hex hlk hP hS h1 h2 h3 hx (Nat.le_of_ble_eq_true rfl) (Nat.le_of_ble_eq_true rfl)) (fun v G1 H locs hw hP hS => ?_)
  obtain ⟨f_1, hf_1, rfl, rfl, hG9⟩ := hw
  rw [hG9] at hP
  refine W.eq (g2 := F0 m 5 ls [.ref (ly_f y 1 f_1)]) rfl ?_
  refine tr_137 hK hP hR hf_1 dX4_olds_5 ?_
  refine gk_callV0 (n := 0) (As := []) (rest := []) hK (c_list_size l hR hf_1) (gk_gV q_5_13 q_5_14 q_5_15 q_2_13 q_5_16) ⟨rfl, by decide +kernel, by decide +kernel, by decide +kernel⟩ ⟨(Nat.le_of_ble_eq_true rfl), (Nat.le_of_ble_eq_true rfl)⟩ hP hS (rp_recvL hK.2.2.1 hP hR hf_1) rfl hl.1 rfl (Nat.le_of_ble_eq_true rfl) dX4_olds_8 ⟨(Nat.le_of_ble_eq_true rfl), (Nat.le_of_ble_eq_true rfl)⟩ (fun v G1 H locs hw hP hS => ?_)
  obtain ⟨rfl, hG9⟩ := hw
  rw [hG9] at hP
  refine W.eq (g2 := F0 m 11 ls [.int (nI (ol f_1).length)]) rfl ?_
  exact vx_ret (gk_iret0 hK.1 hret hlk hP hS (Nat.le_of_ble_eq_true rfl) (Nat.le_of_ble_eq_true rfl) dX4_olds_11 ⟨f_1, hf_1, rfl, rfl, rfl⟩)
set_option maxHeartbeats 4000000 in
set_option maxRecDepth 100000 in
theorem c_X4_thrown (l : Launch) {y : ly_T} {A : Nat → Prop} {G : gk_G} {td : Int32} {ru : Nat → Nat → Int32} {fr lv : Nat → Nat} {lt et tl : Nat → Int32} {hf hp : Nat → Option Nat} {ol : Nat → List Nat} {PS : Nat → Prop} {pf : Nat → Nat → Int32} {i : Int32}  (hfl : l.stackTraces = false) (hR : rp y G td ru fr lv lt et tl hf hp ol PS pf) : gk_M l yX4_thrown (Cond.code yX4_thrown cX4_thrown 2 (some .int)) 7 110 16 128 y A [.ref (ly_a y 0), .int i] G (fun v G1 => ∃ f, f < 5 ∧ i = nI f ∧ v = some (.int (tl f)) ∧ G1 = G) (fun E G1 => E = "java/lang/IndexOutOfBoundsException" ∧ G1 = G ∧ rg_out i 5) := by
  refine gk_ofX (cc := cX4_thrown) (maxL := 2) (ret := (some .int)) (own := RX4) (by decide +kernel) rfl rfl (Nat.le_of_ble_eq_true rfl) ?_
  intro p e s m below meth c ls hK hret hlk hex hP hS hl
  have hl : lv_has ls 2 [(0, .ref (ly_a y 0)), (1, .int i)] := hl
  refine lv_aload_n hK.1.1 hK.1.2.1 dX4_thrown_0 rfl (lv_at hl 0 rfl) ?_
  refine lv_iload_n hK.1.1 hK.1.2.1 dX4_thrown_1 rfl (lv_at hl 1 rfl) ?_
  refine gk_callV (n := 1) (As := [.int i]) (rest := []) hK (c_X4_fileOf l hfl hR (i := i)) (gk_gV q_11_13 q_11_14 q_11_15 q_1_2 q_11_16) ⟨rfl, by decide +kernel, by decide +kernel, by decide +kernel⟩ ⟨(Nat.le_of_ble_eq_true rfl), (Nat.le_of_ble_eq_true rfl)⟩ hP hS (gk_recv hK.2.2.1.1 hP hR.1 rfl) rfl hl.1 rfl (Nat.le_of_ble_eq_true rfl) dX4_thrown_2 ⟨(Nat.le_of_ble_eq_true rfl), (Nat.le_of_ble_eq_true rfl)⟩ (fun E ce q9 G1 H locs hx hP hS h1 h2 h3 => gk_out hex hlk hP hS h1 h2 h3 hx (Nat.le_of_ble_eq_true rfl) (Nat.le_of_ble_eq_true rfl)) (fun v G1 H locs hw hP hS => ?_)
  obtain ⟨f_1, hf_1, rfl, rfl, hG9⟩ := hw
  rw [hG9] at hP
  refine W.eq (g2 := F0 m 5 ls [.ref (ly_f y 1 f_1)]) rfl ?_
  refine tr_160 hK hP hR hf_1 dX4_thrown_5 ?_
  exact vx_ret (gk_iret0 hK.1 hret hlk hP hS (Nat.le_of_ble_eq_true rfl) (Nat.le_of_ble_eq_true rfl) dX4_thrown_8 ⟨f_1, hf_1, rfl, rfl, rfl⟩)
set_option maxHeartbeats 4000000 in
set_option maxRecDepth 100000 in
theorem c_X4_isDue (l : Launch) {y : ly_T} {A : Nat → Prop} {G : gk_G} {td : Int32} {ru : Nat → Nat → Int32} {fr lv : Nat → Nat} {lt et tl : Nat → Int32} {hf hp : Nat → Option Nat} {ol : Nat → List Nat} {PS : Nat → Prop} {pf : Nat → Nat → Int32} {i : Int32}  (hfl : l.stackTraces = false) (hR : rp y G td ru fr lv lt et tl hf hp ol PS pf) (hLl : ∀ f, f < 5 → PS (lv f)) : gk_M l yX4_isDue (Cond.code yX4_isDue cX4_isDue 2 (some .boolean)) 7 110 16 128 y A [.ref (ly_a y 0), .int i] G (fun v G1 => ∃ f, f < 5 ∧ i = nI f ∧ v = some (.int (rg_b (t_due (pf 0 (lv f)) (ru (fr f) 1) (ru (fr f) 2) (ru (fr f) 3) (ru (fr f) 4) (et f) (lt f) td))) ∧ G1 = G) (fun E G1 => E = "java/lang/IndexOutOfBoundsException" ∧ G1 = G ∧ rg_out i 5) := by
  refine gk_ofX (cc := cX4_isDue) (maxL := 2) (ret := (some .boolean)) (own := RX4) (by decide +kernel) rfl rfl (Nat.le_of_ble_eq_true rfl) ?_
  intro p e s m below meth c ls hK hret hlk hex hP hS hl
  have hl : lv_has ls 2 [(0, .ref (ly_a y 0)), (1, .int i)] := hl
  refine lv_aload_n hK.1.1 hK.1.2.1 dX4_isDue_0 rfl (lv_at hl 0 rfl) ?_
  refine lv_iload_n hK.1.1 hK.1.2.1 dX4_isDue_1 rfl (lv_at hl 1 rfl) ?_
  refine gk_callV (n := 1) (As := [.int i]) (rest := []) hK (c_X4_fileOf l hfl hR (i := i)) (gk_gV q_11_13 q_11_14 q_11_15 q_1_2 q_11_16) ⟨rfl, by decide +kernel, by decide +kernel, by decide +kernel⟩ ⟨(Nat.le_of_ble_eq_true rfl), (Nat.le_of_ble_eq_true rfl)⟩ hP hS (gk_recv hK.2.2.1.1 hP hR.1 rfl) rfl hl.1 rfl (Nat.le_of_ble_eq_true rfl) dX4_isDue_2 ⟨(Nat.le_of_ble_eq_true rfl), (Nat.le_of_ble_eq_true rfl)⟩ (fun E ce q9 G1 H locs hx hP hS h1 h2 h3 => gk_out hex hlk hP hS h1 h2 h3 hx (Nat.le_of_ble_eq_true rfl) (Nat.le_of_ble_eq_true rfl)) (fun v G1 H locs hw hP hS => ?_)
  obtain ⟨f_1, hf_1, rfl, rfl, hG9⟩ := hw
  rw [hG9] at hP
  refine W.eq (g2 := F0 m 5 ls [.ref (ly_f y 1 f_1)]) rfl ?_
  refine lv_aload_n hK.1.1 hK.1.2.1 dX4_isDue_5 rfl (lv_at hl 0 rfl) ?_
  refine tr_109 hK hP hR dX4_isDue_6 ?_
  refine gk_callS0 (n := 2) (As := [.ref (ly_f y 1 f_1), .int td]) (rest := []) hK (c_X4_isDueOn l hR (d := td) hf_1 hLl) (gk_gS q_4_4 q_4_5 q_1_2 q_4_6) ⟨by decide +kernel, by decide +kernel, by decide +kernel⟩ ⟨(Nat.le_of_ble_eq_true rfl), (Nat.le_of_ble_eq_true rfl)⟩ hP hS rfl hl.1 rfl (Nat.le_of_ble_eq_true rfl) dX4_isDue_9 ⟨(Nat.le_of_ble_eq_true rfl), (Nat.le_of_ble_eq_true rfl)⟩ (fun v G1 H locs hw hP hS => ?_)
  obtain ⟨rfl, hG9⟩ := hw
  rw [hG9] at hP
  refine W.eq (g2 := F0 m 12 ls [.int (rg_b (t_due (pf 0 (lv f_1)) (ru (fr f_1) 1) (ru (fr f_1) 2) (ru (fr f_1) 3) (ru (fr f_1) 4) (et f_1) (lt f_1) td))]) rfl ?_
  exact vx_ret (gk_zret0 hK.1 hret (rp_nz (rg_b01 _)).1 hlk hP hS (Nat.le_of_ble_eq_true rfl) (Nat.le_of_ble_eq_true rfl) dX4_isDue_12 ⟨f_1, hf_1, rfl, rfl, rfl⟩)
set_option maxHeartbeats 4000000 in
set_option maxRecDepth 100000 in
theorem c_X4_nextDue (l : Launch) {y : ly_T} {A : Nat → Prop} {G : gk_G} {td : Int32} {ru : Nat → Nat → Int32} {fr lv : Nat → Nat} {lt et tl : Nat → Int32} {hf hp : Nat → Option Nat} {ol : Nat → List Nat} {PS : Nat → Prop} {pf : Nat → Nat → Int32} {i : Int32}  (hfl : l.stackTraces = false) (hR : rp y G td ru fr lv lt et tl hf hp ol PS pf) (hLl : ∀ f, f < 5 → PS (lv f)) : gk_M l yX4_nextDue (Cond.code yX4_nextDue cX4_nextDue 4 (some .int)) 7 110 16 128 y A [.ref (ly_a y 0), .int i] G (fun v G1 => ∃ f, f < 5 ∧ i = nI f ∧ ((∃ a, a < 201 ∧ (∀ b, b < a → t_due (pf 0 (lv f)) (ru (fr f) 1) (ru (fr f) 2) (ru (fr f) 3) (ru (fr f) 4) (et f) (lt f) (td + nI b) = false) ∧ t_due (pf 0 (lv f)) (ru (fr f) 1) (ru (fr f) 2) (ru (fr f) 3) (ru (fr f) 4) (et f) (lt f) (td + nI a) = true ∧ v = some (.int (td + nI a))) ∨ ((∀ b, b < 201 → t_due (pf 0 (lv f)) (ru (fr f) 1) (ru (fr f) 2) (ru (fr f) 3) (ru (fr f) 4) (et f) (lt f) (td + nI b) = false) ∧ v = some (.int (-1)))) ∧ G1 = G) (fun E G1 => E = "java/lang/IndexOutOfBoundsException" ∧ G1 = G ∧ rg_out i 5) := by
  refine gk_ofX (cc := cX4_nextDue) (maxL := 4) (ret := (some .int)) (own := RX4) (by decide +kernel) rfl rfl (Nat.le_of_ble_eq_true rfl) ?_
  intro p e s m below meth c ls hK hret hlk hex hP hS hl
  have hl : lv_has ls 4 [(0, .ref (ly_a y 0)), (1, .int i)] := hl
  refine lv_aload_n hK.1.1 hK.1.2.1 dX4_nextDue_0 rfl (lv_at hl 0 rfl) ?_
  refine lv_iload_n hK.1.1 hK.1.2.1 dX4_nextDue_1 rfl (lv_at hl 1 rfl) ?_
  refine gk_callV (n := 1) (As := [.int i]) (rest := []) hK (c_X4_fileOf l hfl hR (i := i)) (gk_gV q_11_13 q_11_14 q_11_15 q_1_2 q_11_16) ⟨rfl, by decide +kernel, by decide +kernel, by decide +kernel⟩ ⟨(Nat.le_of_ble_eq_true rfl), (Nat.le_of_ble_eq_true rfl)⟩ hP hS (gk_recv hK.2.2.1.1 hP hR.1 rfl) rfl hl.1 rfl (Nat.le_of_ble_eq_true rfl) dX4_nextDue_2 ⟨(Nat.le_of_ble_eq_true rfl), (Nat.le_of_ble_eq_true rfl)⟩ (fun E ce q9 G1 H locs hx hP hS h1 h2 h3 => gk_out hex hlk hP hS h1 h2 h3 hx (Nat.le_of_ble_eq_true rfl) (Nat.le_of_ble_eq_true rfl)) (fun v G1 H locs hw hP hS => ?_)
  obtain ⟨f_1, hf_1, rfl, rfl, hG9⟩ := hw
  rw [hG9] at hP
  refine W.eq (g2 := F0 m 5 ls [.ref (ly_f y 1 f_1)]) rfl ?_
  refine lv_astore_n (lv' := [(2, .ref (ly_f y 1 f_1)), (0, .ref (ly_a y 0)), (1, .int (nI f_1))]) hK.1.1 hK.1.2.1 dX4_nextDue_5 rfl hl (by decide) rfl (fun ls hl => ?_)
  refine lv_iconst (v := 0) hK.1.1 hK.1.2.1 dX4_nextDue_6 (by decide) ?_
  refine lv_istore_n (lv' := [(3, .int 0), (2, .ref (ly_f y 1 f_1)), (0, .ref (ly_a y 0)), (1, .int (nI f_1))]) hK.1.1 hK.1.2.1 dX4_nextDue_7 rfl hl (by decide) rfl (fun ls hl => ?_)
  have loop : ∀ (dd : Nat) (a : Nat) (ls : Array Slot) (H : Heap) (locs : List Loc), 201 - a = dd → (a ≤ 201) → (∀ b, b < a → t_due (pf 0 (lv f_1)) (ru (fr f_1) 1) (ru (fr f_1) 2) (ru (fr f_1) 3) (ru (fr f_1) 4) (et f_1) (lt f_1) (td + nI b) = false) → gk_P (ly_D y) A G H → va_S A s.heap H locs → lv_has ls 4 [(3, .int (nI a)), (2, .ref (ly_f y 1 f_1)), (0, .ref (ly_a y 0)), (1, .int (nI f_1))] → W p l e { frames := 7, cells := 16, slots := 128, locals := 110 } s m [.ref (ly_a y 0), .int (nI f_1)].toArray below meth c H locs (0 + 1) (0 + 6) (vx_MQ below (gk_Q y A (fun v G1 => ∃ f, f < 5 ∧ (nI f_1) = nI f ∧ ((∃ a, a < 201 ∧ (∀ b, b < a → t_due (pf 0 (lv f)) (ru (fr f) 1) (ru (fr f) 2) (ru (fr f) 3) (ru (fr f) 4) (et f) (lt f) (td + nI b) = false) ∧ t_due (pf 0 (lv f)) (ru (fr f) 1) (ru (fr f) 2) (ru (fr f) 3) (ru (fr f) 4) (et f) (lt f) (td + nI a) = true ∧ v = some (.int (td + nI a))) ∨ ((∀ b, b < 201 → t_due (pf 0 (lv f)) (ru (fr f) 1) (ru (fr f) 2) (ru (fr f) 3) (ru (fr f) 4) (et f) (lt f) (td + nI b) = false) ∧ v = some (.int (-1)))) ∧ G1 = G)) (gk_X y A (fun E G1 => E = "java/lang/IndexOutOfBoundsException" ∧ G1 = G ∧ rg_out (nI f_1) 5)) [.ref (ly_a y 0), .int (nI f_1)].toArray s 16 128 A) (F0 m 8 ls []) := by
    intro dd
    induction dd using Nat.strongRecOn with
    | _ dd ih =>
    intro a ls H locs hdd ha hno hP hS hl
    refine lv_iload_n hK.1.1 hK.1.2.1 dX4_nextDue_8 rfl (lv_at hl 0 rfl) ?_
    refine lv_sipush (v := 200) hK.1.1 hK.1.2.1 dX4_nextDue_9 (by decide) ?_
    refine lv_icmp_gt (tgt := 41) hK.1.1 hK.1.2.1 dX4_nextDue_12 (by decide) (fun c12_2 => ?_) (fun c12_2 => ?_)
    · have ha9 : a = 201 := by have := (nI_ltI (a := 200) (by decide) (by omega)).mp c12_2; omega
      refine lv_iconst (v := (-1)) hK.1.1 hK.1.2.1 dX4_nextDue_41 (by decide) ?_
      exact vx_ret (gk_iret0 hK.1 hret hlk hP hS (Nat.le_of_ble_eq_true rfl) (Nat.le_of_ble_eq_true rfl) dX4_nextDue_42 ⟨f_1, hf_1, rfl, Or.inr ⟨by rw [← ha9]; exact hno, rfl⟩, rfl⟩)
    · have ha9 : a < 201 := Nat.lt_of_not_le (fun h => c12_2 (nI_lt (a := 200) (by omega) (by omega)))
      refine lv_aload_n hK.1.1 hK.1.2.1 dX4_nextDue_15 rfl (lv_at hl 1 rfl) ?_
      refine lv_aload_n hK.1.1 hK.1.2.1 dX4_nextDue_16 rfl (lv_at hl 2 rfl) ?_
      refine tr_109 hK hP hR dX4_nextDue_17 ?_
      refine lv_iload_n hK.1.1 hK.1.2.1 dX4_nextDue_20 rfl (lv_at hl 0 rfl) ?_
      refine lv_iadd hK.1.1 hK.1.2.1 dX4_nextDue_21 ?_
      refine gk_callS0 (n := 2) (As := [.ref (ly_f y 1 f_1), .int (td + (nI a))]) (rest := []) hK (c_X4_isDueOn l hR (d := (td + (nI a))) hf_1 hLl) (gk_gS q_4_4 q_4_5 q_1_2 q_4_6) ⟨by decide +kernel, by decide +kernel, by decide +kernel⟩ ⟨(Nat.le_of_ble_eq_true rfl), (Nat.le_of_ble_eq_true rfl)⟩ hP hS rfl hl.1 rfl (Nat.le_of_ble_eq_true rfl) dX4_nextDue_22 ⟨(Nat.le_of_ble_eq_true rfl), (Nat.le_of_ble_eq_true rfl)⟩ (fun v G1 H locs hw hP hS => ?_)
      obtain ⟨rfl, hG9⟩ := hw
      rw [hG9] at hP
      refine W.eq (g2 := F0 m 25 ls [.int (rg_b (t_due (pf 0 (lv f_1)) (ru (fr f_1) 1) (ru (fr f_1) 2) (ru (fr f_1) 3) (ru (fr f_1) 4) (et f_1) (lt f_1) (td + (nI a))))]) rfl ?_
      refine lv_if_eq (tgt := 35) hK.1.1 hK.1.2.1 dX4_nextDue_25 (by decide) (fun c25_3 => ?_) (fun c25_3 => ?_)
      · have hna := c25_3
        refine lv_iinc (v := nI (a + 1)) (lv' := [(3, .int (nI (a + 1))), (2, .ref (ly_f y 1 f_1)), (0, .ref (ly_a y 0)), (1, .int (nI f_1))]) hK.1.1 hK.1.2.1 dX4_nextDue_35 hl (k := 0) rfl (nI_1 a) (by decide) rfl (fun ls hl => ?_)
        refine lv_goto (tgt := 8) hK.1.1 hK.1.2.1 dX4_nextDue_38 (by decide) ?_
        exact ih (201 - (a + 1)) (by omega)  (a + 1) ls _ _ rfl (by omega) (fun b hb => by by_cases hba : b = a; (rw [hba]; exact rg_b0.mp hna); (exact hno b (by omega))) hP hS (lv_sub hl [0, 1, 2, 3] rfl)
      · refine lv_aload_n hK.1.1 hK.1.2.1 dX4_nextDue_28 rfl (lv_at hl 2 rfl) ?_
        refine tr_109 hK hP hR dX4_nextDue_29 ?_
        refine lv_iload_n hK.1.1 hK.1.2.1 dX4_nextDue_32 rfl (lv_at hl 0 rfl) ?_
        refine lv_iadd hK.1.1 hK.1.2.1 dX4_nextDue_33 ?_
        exact vx_ret (gk_iret0 hK.1 hret hlk hP hS (Nat.le_of_ble_eq_true rfl) (Nat.le_of_ble_eq_true rfl) dX4_nextDue_34 ⟨f_1, hf_1, rfl, Or.inl ⟨a, ha9, hno, by cases hz : t_due (pf 0 (lv f_1)) (ru (fr f_1) 1) (ru (fr f_1) 2) (ru (fr f_1) 3) (ru (fr f_1) 4) (et f_1) (lt f_1) (td + nI a) with | true => rfl | false => exact absurd (rg_b0.mpr hz) c25_3, rfl⟩, rfl⟩)
  exact loop _ 0 ls _ _ rfl (by omega) (fun b hb => absurd hb (Nat.not_lt_zero b)) hP hS (lv_sub hl [0, 1, 2, 3] rfl)
set_option maxHeartbeats 4000000 in
set_option maxRecDepth 100000 in
theorem c_X4_oldPartOf (l : Launch) {y : ly_T} {A : Nat → Prop} {G : gk_G} {td : Int32} {ru : Nat → Nat → Int32} {fr lv : Nat → Nat} {lt et tl : Nat → Int32} {hf hp : Nat → Option Nat} {ol : Nat → List Nat} {PS : Nat → Prop} {pf : Nat → Nat → Int32} {f : Nat} {i : Int32}  (hfl : l.stackTraces = false) (hR : rp y G td ru fr lv lt et tl hf hp ol PS pf) (hf5 : f < 5) (hin : ∀ q ∈ ol f, PS q) : gk_M l yX4_oldPartOf (Cond.code yX4_oldPartOf cX4_oldPartOf 2 (some (.object "LogTurner$Part"))) 6 82 1 6 y A [.ref (ly_f y 1 f), .int i] G (fun v G1 => ∃ k t, (ol f)[k]? = some t ∧ i = nI k ∧ v = some (.ref t) ∧ G1 = G) (fun E G1 => E = "java/lang/IndexOutOfBoundsException" ∧ G1 = G ∧ rg_out i (ol f).length) := by
  refine gk_ofX (cc := cX4_oldPartOf) (maxL := 2) (ret := (some (.object "LogTurner$Part"))) (own := RX4) (by decide +kernel) rfl rfl (Nat.le_of_ble_eq_true rfl) ?_
  intro p e s m below meth c ls hK hret hlk hex hP hS hl
  have hl : lv_has ls 2 [(0, .ref (ly_f y 1 f)), (1, .int i)] := hl
  refine lv_iload_n hK.1.1 hK.1.2.1 dX4_oldPartOf_0 rfl (lv_at hl 1 rfl) ?_
  refine lv_if_lt (tgt := 15) hK.1.1 hK.1.2.1 dX4_oldPartOf_1 (by decide) (fun c1_1 => ?_) (fun c1_1 => ?_)
  · exact gk_thr0 hK hfl hK.2.2.1.2.1.2.2.2.2.2.1 hP hS hl.1 hex hlk dX4_oldPartOf_15 dX4_oldPartOf_18 dX4_oldPartOf_19 dX4_oldPartOf_21 dX4_oldPartOf_24 ⟨(Nat.le_of_ble_eq_true rfl), (Nat.le_of_ble_eq_true rfl), (Nat.le_of_ble_eq_true rfl), (Nat.le_of_ble_eq_true rfl)⟩ ⟨(Nat.le_of_ble_eq_true rfl), (Nat.le_of_ble_eq_true rfl)⟩ ⟨rfl, rfl, Or.inl c1_1⟩
  · refine lv_iload_n hK.1.1 hK.1.2.1 dX4_oldPartOf_4 rfl (lv_at hl 1 rfl) ?_
    refine lv_aload_n hK.1.1 hK.1.2.1 dX4_oldPartOf_5 rfl (lv_at hl 0 rfl) ?_
    refine tr_137 hK hP hR hf5 dX4_oldPartOf_6 ?_
    refine gk_callV0 (n := 0) (As := []) (rest := [.int i]) hK (c_list_size l hR hf5) (gk_gV q_5_13 q_5_14 q_5_15 q_2_13 q_5_16) ⟨rfl, by decide +kernel, by decide +kernel, by decide +kernel⟩ ⟨(Nat.le_of_ble_eq_true rfl), (Nat.le_of_ble_eq_true rfl)⟩ hP hS (rp_recvL hK.2.2.1 hP hR hf5) rfl hl.1 rfl (Nat.le_of_ble_eq_true rfl) dX4_oldPartOf_9 ⟨(Nat.le_of_ble_eq_true rfl), (Nat.le_of_ble_eq_true rfl)⟩ (fun v G1 H locs hw hP hS => ?_)
    obtain ⟨rfl, hG9⟩ := hw
    rw [hG9] at hP
    refine W.eq (g2 := F0 m 12 ls [.int (nI (ol f).length), .int i]) rfl ?_
    refine lv_icmp_lt (tgt := 25) hK.1.1 hK.1.2.1 dX4_oldPartOf_12 (by decide) (fun c12_2 => ?_) (fun c12_2 => ?_)
    · have hn9 := rp_len hR hf5
      obtain ⟨k, hk, rfl⟩ := rg_of (n := (ol f).length) (by omega) c1_1 c12_2
      obtain ⟨t, htk⟩ : ∃ t, (ol f)[k]? = some t := ⟨_, List.getElem?_eq_getElem hk⟩
      refine lv_aload_n hK.1.1 hK.1.2.1 dX4_oldPartOf_25 rfl (lv_at hl 0 rfl) ?_
      refine tr_137 hK hP hR hf5 dX4_oldPartOf_26 ?_
      refine lv_iload_n hK.1.1 hK.1.2.1 dX4_oldPartOf_29 rfl (lv_at hl 1 rfl) ?_
      refine gk_callV0 (n := 1) (As := [.int (nI k)]) (rest := []) hK (c_list_get l hR hf5 htk) (gk_gV q_8_8 q_8_9 q_8_10 q_2_13 q_8_11) ⟨rfl, by decide +kernel, by decide +kernel, by decide +kernel⟩ ⟨(Nat.le_of_ble_eq_true rfl), (Nat.le_of_ble_eq_true rfl)⟩ hP hS (rp_recvL hK.2.2.1 hP hR hf5) rfl hl.1 rfl (Nat.le_of_ble_eq_true rfl) dX4_oldPartOf_30 ⟨(Nat.le_of_ble_eq_true rfl), (Nat.le_of_ble_eq_true rfl)⟩ (fun v G1 H locs hw hP hS => ?_)
      obtain ⟨rfl, hG9⟩ := hw
      rw [hG9] at hP
      refine W.eq (g2 := F0 m 33 ls [.ref t]) rfl ?_
      refine gk_cast hK.1 hK.2.2.1.1 hP (hR.2.2.2.2.2.2.1 t (hin t (List.mem_of_getElem? htk))) rfl q_5_11 dX4_oldPartOf_33 ?_
      exact vx_ret (gk_aret0 hK.1 hret (by first | exact Or.inl ⟨_, rfl⟩ | exact Or.inr ⟨_, rfl⟩) (by first | exact Or.inr ⟨_, rfl⟩ | exact Or.inl rfl | exact va_rf_or _) hlk hP hS (Nat.le_of_ble_eq_true rfl) (Nat.le_of_ble_eq_true rfl) dX4_oldPartOf_36 ⟨k, t, htk, rfl, rfl, rfl⟩)
    · exact gk_thr0 hK hfl hK.2.2.1.2.1.2.2.2.2.2.1 hP hS hl.1 hex hlk dX4_oldPartOf_15 dX4_oldPartOf_18 dX4_oldPartOf_19 dX4_oldPartOf_21 dX4_oldPartOf_24 ⟨(Nat.le_of_ble_eq_true rfl), (Nat.le_of_ble_eq_true rfl), (Nat.le_of_ble_eq_true rfl), (Nat.le_of_ble_eq_true rfl)⟩ ⟨(Nat.le_of_ble_eq_true rfl), (Nat.le_of_ble_eq_true rfl)⟩ ⟨rfl, rfl, Or.inr c12_2⟩
set_option maxHeartbeats 4000000 in
set_option maxRecDepth 100000 in
theorem c_X4_lines (l : Launch) {y : ly_T} {A : Nat → Prop} {G : gk_G} {td : Int32} {ru : Nat → Nat → Int32} {fr lv : Nat → Nat} {lt et tl : Nat → Int32} {hf hp : Nat → Option Nat} {ol : Nat → List Nat} {PS : Nat → Prop} {pf : Nat → Nat → Int32} {i j : Int32}  (hfl : l.stackTraces = false) (hR : rp y G td ru fr lv lt et tl hf hp ol PS pf) (hin5 : ∀ f, f < 5 → ∀ q ∈ ol f, PS q) : gk_M l yX4_lines (Cond.code yX4_lines cX4_lines 3 (some .int)) 7 110 16 128 y A [.ref (ly_a y 0), .int i, .int j] G (fun v G1 => ∃ f k t, f < 5 ∧ i = nI f ∧ (ol f)[k]? = some t ∧ j = nI k ∧ v = some (.int (pf 0 t)) ∧ G1 = G) (fun E G1 => E = "java/lang/IndexOutOfBoundsException" ∧ G1 = G ∧ (rg_out i 5 ∨ ∃ f, f < 5 ∧ i = nI f ∧ rg_out j (ol f).length)) := by
  refine gk_ofX (cc := cX4_lines) (maxL := 3) (ret := (some .int)) (own := RX4) (by decide +kernel) rfl rfl (Nat.le_of_ble_eq_true rfl) ?_
  intro p e s m below meth c ls hK hret hlk hex hP hS hl
  have hl : lv_has ls 3 [(0, .ref (ly_a y 0)), (1, .int i), (2, .int j)] := hl
  refine lv_aload_n hK.1.1 hK.1.2.1 dX4_lines_0 rfl (lv_at hl 0 rfl) ?_
  refine lv_iload_n hK.1.1 hK.1.2.1 dX4_lines_1 rfl (lv_at hl 1 rfl) ?_
  refine gk_callV (n := 1) (As := [.int i]) (rest := []) hK (c_X4_fileOf l hfl hR (i := i)) (gk_gV q_11_13 q_11_14 q_11_15 q_1_2 q_11_16) ⟨rfl, by decide +kernel, by decide +kernel, by decide +kernel⟩ ⟨(Nat.le_of_ble_eq_true rfl), (Nat.le_of_ble_eq_true rfl)⟩ hP hS (gk_recv hK.2.2.1.1 hP hR.1 rfl) rfl hl.1 rfl (Nat.le_of_ble_eq_true rfl) dX4_lines_2 ⟨(Nat.le_of_ble_eq_true rfl), (Nat.le_of_ble_eq_true rfl)⟩ (fun E ce q9 G1 H locs hx hP hS h1 h2 h3 => gk_out hex hlk hP hS h1 h2 h3 ⟨hx.1, hx.2.1, Or.inl hx.2.2⟩ (Nat.le_of_ble_eq_true rfl) (Nat.le_of_ble_eq_true rfl)) (fun v G1 H locs hw hP hS => ?_)
  obtain ⟨f_1, hf_1, rfl, rfl, hG9⟩ := hw
  rw [hG9] at hP
  refine W.eq (g2 := F0 m 5 ls [.ref (ly_f y 1 f_1)]) rfl ?_
  refine lv_iload_n hK.1.1 hK.1.2.1 dX4_lines_5 rfl (lv_at hl 2 rfl) ?_
  refine gk_callS (n := 2) (As := [.ref (ly_f y 1 f_1), .int j]) (rest := []) hK (c_X4_oldPartOf l hfl hR (i := j) hf_1 (hin5 _ hf_1)) (gk_gS q_11_17 q_11_18 q_1_2 q_11_19) ⟨by decide +kernel, by decide +kernel, by decide +kernel⟩ ⟨(Nat.le_of_ble_eq_true rfl), (Nat.le_of_ble_eq_true rfl)⟩ hP hS rfl hl.1 rfl (Nat.le_of_ble_eq_true rfl) dX4_lines_6 ⟨(Nat.le_of_ble_eq_true rfl), (Nat.le_of_ble_eq_true rfl)⟩ (fun E ce q9 G1 H locs hx hP hS h1 h2 h3 => gk_out hex hlk hP hS h1 h2 h3 ⟨hx.1, hx.2.1, Or.inr ⟨f_1, hf_1, rfl, hx.2.2⟩⟩ (Nat.le_of_ble_eq_true rfl) (Nat.le_of_ble_eq_true rfl)) (fun v G1 H locs hw hP hS => ?_)
  obtain ⟨k, t, htk, rfl, rfl, hG9⟩ := hw
  rw [hG9] at hP
  refine W.eq (g2 := F0 m 9 ls [.ref t]) rfl ?_
  refine tr_104 hK hP hR (hin5 f_1 hf_1 t (List.mem_of_getElem? htk)) dX4_lines_9 ?_
  exact vx_ret (gk_iret0 hK.1 hret hlk hP hS (Nat.le_of_ble_eq_true rfl) (Nat.le_of_ble_eq_true rfl) dX4_lines_12 ⟨f_1, k, t, hf_1, rfl, htk, rfl, rfl, rfl⟩)
set_option maxHeartbeats 4000000 in
set_option maxRecDepth 100000 in
theorem c_X4_isSqueezed (l : Launch) {y : ly_T} {A : Nat → Prop} {G : gk_G} {td : Int32} {ru : Nat → Nat → Int32} {fr lv : Nat → Nat} {lt et tl : Nat → Int32} {hf hp : Nat → Option Nat} {ol : Nat → List Nat} {PS : Nat → Prop} {pf : Nat → Nat → Int32} {i j : Int32}  (hfl : l.stackTraces = false) (hR : rp y G td ru fr lv lt et tl hf hp ol PS pf) (hin5 : ∀ f, f < 5 → ∀ q ∈ ol f, PS q) (hsq : ∀ t, PS t → pf 2 t = 0 ∨ pf 2 t = 1) : gk_M l yX4_isSqueezed (Cond.code yX4_isSqueezed cX4_isSqueezed 3 (some .boolean)) 7 110 16 128 y A [.ref (ly_a y 0), .int i, .int j] G (fun v G1 => ∃ f k t, f < 5 ∧ i = nI f ∧ (ol f)[k]? = some t ∧ j = nI k ∧ v = some (.int (pf 2 t)) ∧ G1 = G) (fun E G1 => E = "java/lang/IndexOutOfBoundsException" ∧ G1 = G ∧ (rg_out i 5 ∨ ∃ f, f < 5 ∧ i = nI f ∧ rg_out j (ol f).length)) := by
  refine gk_ofX (cc := cX4_isSqueezed) (maxL := 3) (ret := (some .boolean)) (own := RX4) (by decide +kernel) rfl rfl (Nat.le_of_ble_eq_true rfl) ?_
  intro p e s m below meth c ls hK hret hlk hex hP hS hl
  have hl : lv_has ls 3 [(0, .ref (ly_a y 0)), (1, .int i), (2, .int j)] := hl
  refine lv_aload_n hK.1.1 hK.1.2.1 dX4_isSqueezed_0 rfl (lv_at hl 0 rfl) ?_
  refine lv_iload_n hK.1.1 hK.1.2.1 dX4_isSqueezed_1 rfl (lv_at hl 1 rfl) ?_
  refine gk_callV (n := 1) (As := [.int i]) (rest := []) hK (c_X4_fileOf l hfl hR (i := i)) (gk_gV q_11_13 q_11_14 q_11_15 q_1_2 q_11_16) ⟨rfl, by decide +kernel, by decide +kernel, by decide +kernel⟩ ⟨(Nat.le_of_ble_eq_true rfl), (Nat.le_of_ble_eq_true rfl)⟩ hP hS (gk_recv hK.2.2.1.1 hP hR.1 rfl) rfl hl.1 rfl (Nat.le_of_ble_eq_true rfl) dX4_isSqueezed_2 ⟨(Nat.le_of_ble_eq_true rfl), (Nat.le_of_ble_eq_true rfl)⟩ (fun E ce q9 G1 H locs hx hP hS h1 h2 h3 => gk_out hex hlk hP hS h1 h2 h3 ⟨hx.1, hx.2.1, Or.inl hx.2.2⟩ (Nat.le_of_ble_eq_true rfl) (Nat.le_of_ble_eq_true rfl)) (fun v G1 H locs hw hP hS => ?_)
  obtain ⟨f_1, hf_1, rfl, rfl, hG9⟩ := hw
  rw [hG9] at hP
  refine W.eq (g2 := F0 m 5 ls [.ref (ly_f y 1 f_1)]) rfl ?_
  refine lv_iload_n hK.1.1 hK.1.2.1 dX4_isSqueezed_5 rfl (lv_at hl 2 rfl) ?_
  refine gk_callS (n := 2) (As := [.ref (ly_f y 1 f_1), .int j]) (rest := []) hK (c_X4_oldPartOf l hfl hR (i := j) hf_1 (hin5 _ hf_1)) (gk_gS q_11_17 q_11_18 q_1_2 q_11_19) ⟨by decide +kernel, by decide +kernel, by decide +kernel⟩ ⟨(Nat.le_of_ble_eq_true rfl), (Nat.le_of_ble_eq_true rfl)⟩ hP hS rfl hl.1 rfl (Nat.le_of_ble_eq_true rfl) dX4_isSqueezed_6 ⟨(Nat.le_of_ble_eq_true rfl), (Nat.le_of_ble_eq_true rfl)⟩ (fun E ce q9 G1 H locs hx hP hS h1 h2 h3 => gk_out hex hlk hP hS h1 h2 h3 ⟨hx.1, hx.2.1, Or.inr ⟨f_1, hf_1, rfl, hx.2.2⟩⟩ (Nat.le_of_ble_eq_true rfl) (Nat.le_of_ble_eq_true rfl)) (fun v G1 H locs hw hP hS => ?_)
  obtain ⟨k, t, htk, rfl, rfl, hG9⟩ := hw
  rw [hG9] at hP
  refine W.eq (g2 := F0 m 9 ls [.ref t]) rfl ?_
  refine tr_157 hK hP hR (hin5 f_1 hf_1 t (List.mem_of_getElem? htk)) dX4_isSqueezed_9 ?_
  exact vx_ret (gk_zret0 hK.1 hret (rp_nz (hsq t (hin5 _ (by assumption) t (List.mem_of_getElem? htk)))).1 hlk hP hS (Nat.le_of_ble_eq_true rfl) (Nat.le_of_ble_eq_true rfl) dX4_isSqueezed_12 ⟨f_1, k, t, hf_1, rfl, htk, rfl, rfl, rfl⟩)
set_option maxHeartbeats 4000000 in
set_option maxRecDepth 100000 in
theorem c_X4_countOlderOfDay (l : Launch) {y : ly_T} {A : Nat → Prop} {G : gk_G} {td : Int32} {ru : Nat → Nat → Int32} {fr lv : Nat → Nat} {lt et tl : Nat → Int32} {hf hp : Nat → Option Nat} {ol : Nat → List Nat} {PS : Nat → Prop} {pf : Nat → Nat → Int32} {f k : Nat} {d : Int32}  (hR : rp y G td ru fr lv lt et tl hf hp ol PS pf) (hf5 : f < 5) (hin : ∀ q ∈ ol f, PS q) (hk : k ≤ (ol f).length) : gk_M0 l yX4_countOlderOfDay (Cond.code yX4_countOlderOfDay cX4_countOlderOfDay 5 (some .int)) 3 90 0 0 y A [.ref (ly_f y 3 f), .int (nI k), .int d] G (fun v G1 => v = some (.int (nI (t_cnt pf (ol f) k d))) ∧ G1 = G) := by
  refine gk_of0 (cc := cX4_countOlderOfDay) (maxL := 5) (ret := (some .int)) (own := RX4) (by decide +kernel) rfl rfl (Nat.le_of_ble_eq_true rfl) ?_
  intro p e s m below meth c ls hK hret hlk _ hP hS hl
  have hl : lv_has ls 5 [(0, .ref (ly_f y 3 f)), (1, .int (nI k)), (2, .int d)] := hl
  have hn9 := rp_len hR hf5
  refine lv_iconst (v := 0) hK.1.1 hK.1.2.1 dX4_countOlderOfDay_0 (by decide) ?_
  refine lv_istore_n (lv' := [(3, .int 0), (0, .ref (ly_f y 3 f)), (1, .int (nI k)), (2, .int d)]) hK.1.1 hK.1.2.1 dX4_countOlderOfDay_1 rfl hl (by decide) rfl (fun ls hl => ?_)
  refine lv_iconst (v := 0) hK.1.1 hK.1.2.1 dX4_countOlderOfDay_2 (by decide) ?_
  refine lv_istore (lv' := [(4, .int 0), (3, .int 0), (0, .ref (ly_f y 3 f)), (1, .int (nI k)), (2, .int d)]) hK.1.1 hK.1.2.1 dX4_countOlderOfDay_3 hl (by decide) rfl (fun ls hl => ?_)
  have loop : ∀ (dd : Nat) (i : Nat) (ls : Array Slot) (H : Heap) (locs : List Loc), k - i = dd → (i ≤ k) → gk_P (ly_D y) A G H → va_S A s.heap H locs → lv_has ls 5 [(4, .int (nI i)), (3, .int (nI (t_cnt pf (ol f) i d))), (0, .ref (ly_f y 3 f)), (1, .int (nI k)), (2, .int d)] → W p l e { frames := 3, cells := 0, slots := 0, locals := 90 } s m [.ref (ly_f y 3 f), .int (nI k), .int d].toArray below meth c H locs 0 0 (MQ below (gk_Q y A (fun v G1 => v = some (.int (nI (t_cnt pf (ol f) k d))) ∧ G1 = G)) [.ref (ly_f y 3 f), .int (nI k), .int d].toArray s 0 0 A) (F0 m 5 ls []) := by
    intro dd
    induction dd using Nat.strongRecOn with
    | _ dd ih =>
    intro i ls H locs hdd hi hP hS hl
    refine lv_iload hK.1.1 hK.1.2.1 dX4_countOlderOfDay_5 (lv_at hl 0 rfl) ?_
    refine lv_iload_n hK.1.1 hK.1.2.1 dX4_countOlderOfDay_7 rfl (lv_at hl 3 rfl) ?_
    refine lv_icmp_ge (tgt := 45) hK.1.1 hK.1.2.1 dX4_countOlderOfDay_8 (by decide) (fun c8_1 => ?_) (fun c8_1 => ?_)
    · have hkn : i = k := Nat.le_antisymm hi ((nI_leI (by omega) (by omega)).mp c8_1)
      subst hkn
      refine lv_iload_n hK.1.1 hK.1.2.1 dX4_countOlderOfDay_45 rfl (lv_at hl 1 rfl) ?_
      exact gk_iret0 hK.1 hret hlk hP hS (Nat.le_of_ble_eq_true rfl) (Nat.le_of_ble_eq_true rfl) dX4_countOlderOfDay_46 ⟨rfl, rfl⟩
    · have hkn : i < k := Nat.lt_of_not_le (fun h => c8_1 (nI_le h (by omega)))
      obtain ⟨t, htk⟩ : ∃ t, (ol f)[i]? = some t := ⟨_, List.getElem?_eq_getElem (by omega)⟩
      have htP : PS t := hin t (List.mem_of_getElem? htk)
      refine lv_iload hK.1.1 hK.1.2.1 dX4_countOlderOfDay_11 (lv_at hl 0 rfl) ?_
      refine lv_aload_n hK.1.1 hK.1.2.1 dX4_countOlderOfDay_13 rfl (lv_at hl 2 rfl) ?_
      refine gk_callV0 (n := 0) (As := []) (rest := [.int (nI i)]) hK (c_list_size l hR hf5) (gk_gV q_5_13 q_5_14 q_5_15 q_2_13 q_5_16) ⟨rfl, by decide +kernel, by decide +kernel, by decide +kernel⟩ ⟨(Nat.le_of_ble_eq_true rfl), (Nat.le_of_ble_eq_true rfl)⟩ hP hS (rp_recvL hK.2.2.1 hP hR hf5) rfl hl.1 rfl (Nat.le_of_ble_eq_true rfl) dX4_countOlderOfDay_14 ⟨(Nat.le_of_ble_eq_true rfl), (Nat.le_of_ble_eq_true rfl)⟩ (fun v G1 H locs hw hP hS => ?_)
      obtain ⟨rfl, hG9⟩ := hw
      rw [hG9] at hP
      refine W.eq (g2 := F0 m 17 ls [.int (nI (ol f).length), .int (nI i)]) rfl ?_
      refine lv_icmp_ge (tgt := 45) hK.1.1 hK.1.2.1 dX4_countOlderOfDay_17 (by decide) (fun c => absurd ((nI_leI (by omega) (by omega)).mp c) (by omega)) (fun _ => ?_)
      refine lv_aload_n hK.1.1 hK.1.2.1 dX4_countOlderOfDay_20 rfl (lv_at hl 2 rfl) ?_
      refine lv_iload hK.1.1 hK.1.2.1 dX4_countOlderOfDay_21 (lv_at hl 0 rfl) ?_
      refine gk_callV0 (n := 1) (As := [.int (nI i)]) (rest := []) hK (c_list_get l hR hf5 htk) (gk_gV q_8_8 q_8_9 q_8_10 q_2_13 q_8_11) ⟨rfl, by decide +kernel, by decide +kernel, by decide +kernel⟩ ⟨(Nat.le_of_ble_eq_true rfl), (Nat.le_of_ble_eq_true rfl)⟩ hP hS (rp_recvL hK.2.2.1 hP hR hf5) rfl hl.1 rfl (Nat.le_of_ble_eq_true rfl) dX4_countOlderOfDay_23 ⟨(Nat.le_of_ble_eq_true rfl), (Nat.le_of_ble_eq_true rfl)⟩ (fun v G1 H locs hw hP hS => ?_)
      obtain ⟨rfl, hG9⟩ := hw
      rw [hG9] at hP
      refine W.eq (g2 := F0 m 26 ls [.ref t]) rfl ?_
      refine gk_cast hK.1 hK.2.2.1.1 hP (hR.2.2.2.2.2.2.1 t htP) rfl q_5_11 dX4_countOlderOfDay_26 ?_
      refine tr_150 hK hP hR htP dX4_countOlderOfDay_29 ?_
      refine lv_iload_n hK.1.1 hK.1.2.1 dX4_countOlderOfDay_32 rfl (lv_at hl 4 rfl) ?_
      refine lv_icmp_ne (tgt := 39) hK.1.1 hK.1.2.1 dX4_countOlderOfDay_33 (by decide) (fun c33_2 => ?_) (fun c33_2 => ?_)
      · refine lv_iinc (v := nI (i + 1)) (lv' := [(4, .int (nI (i + 1))), (3, .int (nI (t_cnt pf (ol f) i d))), (0, .ref (ly_f y 3 f)), (1, .int (nI k)), (2, .int d)]) hK.1.1 hK.1.2.1 dX4_countOlderOfDay_39 hl (k := 0) rfl (nI_1 i) (by decide) rfl (fun ls hl => ?_)
        have hl : lv_has ls 5 [(4, .int (nI (i + 1))), (3, .int (nI (t_cnt pf (ol f) (i + 1) d))), (0, .ref (ly_f y 3 f)), (1, .int (nI k)), (2, .int d)] := by rw [t_cnt_n htk c33_2]; exact hl
        refine lv_goto (tgt := 5) hK.1.1 hK.1.2.1 dX4_countOlderOfDay_42 (by decide) ?_
        exact ih (k - (i + 1)) (by omega)  (i + 1) ls _ _ rfl (by omega) hP hS (lv_sub hl [0, 1, 2, 3, 4] rfl)
      · refine lv_iinc (v := nI ((t_cnt pf (ol f) i d) + 1)) (lv' := [(3, .int (nI ((t_cnt pf (ol f) i d) + 1))), (4, .int (nI i)), (0, .ref (ly_f y 3 f)), (1, .int (nI k)), (2, .int d)]) hK.1.1 hK.1.2.1 dX4_countOlderOfDay_36 hl (k := 1) rfl (nI_1 (t_cnt pf (ol f) i d)) (by decide) rfl (fun ls hl => ?_)
        refine lv_iinc (v := nI (i + 1)) (lv' := [(4, .int (nI (i + 1))), (3, .int (nI ((t_cnt pf (ol f) i d) + 1))), (0, .ref (ly_f y 3 f)), (1, .int (nI k)), (2, .int d)]) hK.1.1 hK.1.2.1 dX4_countOlderOfDay_39 hl (k := 1) rfl (nI_1 i) (by decide) rfl (fun ls hl => ?_)
        have hl : lv_has ls 5 [(4, .int (nI (i + 1))), (3, .int (nI (t_cnt pf (ol f) (i + 1) d))), (0, .ref (ly_f y 3 f)), (1, .int (nI k)), (2, .int d)] := by rw [t_cnt_e htk c33_2]; exact hl
        refine lv_goto (tgt := 5) hK.1.1 hK.1.2.1 dX4_countOlderOfDay_42 (by decide) ?_
        exact ih (k - (i + 1)) (by omega)  (i + 1) ls _ _ rfl (by omega) hP hS (lv_sub hl [0, 1, 2, 3, 4] rfl)
  exact loop _ 0 ls _ _ rfl (by omega) hP hS (lv_sub hl [0, 1, 2, 3, 4] rfl)
set_option maxHeartbeats 4000000 in
set_option maxRecDepth 100000 in
theorem c_X4_placeOf (l : Launch) {y : ly_T} {A : Nat → Prop} {G : gk_G} {td : Int32} {ru : Nat → Nat → Int32} {fr lv : Nat → Nat} {lt et tl : Nat → Int32} {hf hp : Nat → Option Nat} {ol : Nat → List Nat} {PS : Nat → Prop} {pf : Nat → Nat → Int32} {f t : Nat}  (hR : rp y G td ru fr lv lt et tl hf hp ol PS pf) (hf5 : f < 5) : gk_M0 l yX4_placeOf (Cond.code yX4_placeOf cX4_placeOf 3 (some .int)) 3 90 0 0 y A [.ref (ly_f y 3 f), .ref t] G (fun v G1 => (∃ x, t_plc (ol f) t x ∧ v = some (.int x)) ∧ G1 = G) := by
  refine gk_of0 (cc := cX4_placeOf) (maxL := 3) (ret := (some .int)) (own := RX4) (by decide +kernel) rfl rfl (Nat.le_of_ble_eq_true rfl) ?_
  intro p e s m below meth c ls hK hret hlk _ hP hS hl
  have hl : lv_has ls 3 [(0, .ref (ly_f y 3 f)), (1, .ref t)] := hl
  have hn9 := rp_len hR hf5
  refine lv_iconst (v := 0) hK.1.1 hK.1.2.1 dX4_placeOf_0 (by decide) ?_
  refine lv_istore_n (lv' := [(2, .int 0), (0, .ref (ly_f y 3 f)), (1, .ref t)]) hK.1.1 hK.1.2.1 dX4_placeOf_1 rfl hl (by decide) rfl (fun ls hl => ?_)
  have loop : ∀ (dd : Nat) (k : Nat) (ls : Array Slot) (H : Heap) (locs : List Loc), (ol f).length - k = dd → (k ≤ (ol f).length) → (∀ j, j < k → ¬ (ol f)[j]? = some t) → gk_P (ly_D y) A G H → va_S A s.heap H locs → lv_has ls 3 [(2, .int (nI k)), (0, .ref (ly_f y 3 f)), (1, .ref t)] → W p l e { frames := 3, cells := 0, slots := 0, locals := 90 } s m [.ref (ly_f y 3 f), .ref t].toArray below meth c H locs 0 0 (MQ below (gk_Q y A (fun v G1 => (∃ x, t_plc (ol f) t x ∧ v = some (.int x)) ∧ G1 = G)) [.ref (ly_f y 3 f), .ref t].toArray s 0 0 A) (F0 m 2 ls []) := by
    intro dd
    induction dd using Nat.strongRecOn with
    | _ dd ih =>
    intro k ls H locs hdd hk hno hP hS hl
    refine lv_iload_n hK.1.1 hK.1.2.1 dX4_placeOf_2 rfl (lv_at hl 0 rfl) ?_
    refine lv_aload_n hK.1.1 hK.1.2.1 dX4_placeOf_3 rfl (lv_at hl 1 rfl) ?_
    refine gk_callV0 (n := 0) (As := []) (rest := [.int (nI k)]) hK (c_list_size l hR hf5) (gk_gV q_5_13 q_5_14 q_5_15 q_2_13 q_5_16) ⟨rfl, by decide +kernel, by decide +kernel, by decide +kernel⟩ ⟨(Nat.le_of_ble_eq_true rfl), (Nat.le_of_ble_eq_true rfl)⟩ hP hS (rp_recvL hK.2.2.1 hP hR hf5) rfl hl.1 rfl (Nat.le_of_ble_eq_true rfl) dX4_placeOf_4 ⟨(Nat.le_of_ble_eq_true rfl), (Nat.le_of_ble_eq_true rfl)⟩ (fun v G1 H locs hw hP hS => ?_)
    obtain ⟨rfl, hG9⟩ := hw
    rw [hG9] at hP
    refine W.eq (g2 := F0 m 7 ls [.int (nI (ol f).length), .int (nI k)]) rfl ?_
    refine lv_icmp_ge (tgt := 29) hK.1.1 hK.1.2.1 dX4_placeOf_7 (by decide) (fun c7_1 => ?_) (fun c7_1 => ?_)
    · have hkn : k = (ol f).length := Nat.le_antisymm hk ((nI_leI (by omega) (by omega)).mp c7_1)
      refine lv_iconst (v := 0) hK.1.1 hK.1.2.1 dX4_placeOf_29 (by decide) ?_
      exact gk_iret0 hK.1 hret hlk hP hS (Nat.le_of_ble_eq_true rfl) (Nat.le_of_ble_eq_true rfl) dX4_placeOf_30 ⟨⟨_, Or.inr ⟨fun j hj => hno j (by rw [hkn]; exact (List.getElem?_eq_some_iff.mp hj).1) hj, rfl⟩, rfl⟩, rfl⟩
    · have hkn : k < (ol f).length := Nat.lt_of_not_le (fun h => c7_1 (nI_le h (by omega)))
      obtain ⟨u, htk⟩ : ∃ u, (ol f)[k]? = some u := ⟨_, List.getElem?_eq_getElem (by omega)⟩
      refine lv_aload_n hK.1.1 hK.1.2.1 dX4_placeOf_10 rfl (lv_at hl 1 rfl) ?_
      refine lv_iload_n hK.1.1 hK.1.2.1 dX4_placeOf_11 rfl (lv_at hl 0 rfl) ?_
      refine gk_callV0 (n := 1) (As := [.int (nI k)]) (rest := []) hK (c_list_get l hR hf5 htk) (gk_gV q_8_8 q_8_9 q_8_10 q_2_13 q_8_11) ⟨rfl, by decide +kernel, by decide +kernel, by decide +kernel⟩ ⟨(Nat.le_of_ble_eq_true rfl), (Nat.le_of_ble_eq_true rfl)⟩ hP hS (rp_recvL hK.2.2.1 hP hR hf5) rfl hl.1 rfl (Nat.le_of_ble_eq_true rfl) dX4_placeOf_12 ⟨(Nat.le_of_ble_eq_true rfl), (Nat.le_of_ble_eq_true rfl)⟩ (fun v G1 H locs hw hP hS => ?_)
      obtain ⟨rfl, hG9⟩ := hw
      rw [hG9] at hP
      refine W.eq (g2 := F0 m 15 ls [.ref u]) rfl ?_
      refine lv_aload_n hK.1.1 hK.1.2.1 dX4_placeOf_15 rfl (lv_at hl 2 rfl) ?_
      refine lv_acmp_ne (rx := some u) (ry := some t) (tgt := 23) hK.1.1 hK.1.2.1 dX4_placeOf_16 (by decide) (fun c16_2 => ?_) (fun c16_2 => ?_)
      · have hut := c16_2
        refine lv_iinc (v := nI (k + 1)) (lv' := [(2, .int (nI (k + 1))), (0, .ref (ly_f y 3 f)), (1, .ref t)]) hK.1.1 hK.1.2.1 dX4_placeOf_23 hl (k := 0) rfl (nI_1 k) (by decide) rfl (fun ls hl => ?_)
        refine lv_goto (tgt := 2) hK.1.1 hK.1.2.1 dX4_placeOf_26 (by decide) ?_
        exact ih ((ol f).length - (k + 1)) (by omega)  (k + 1) ls _ _ rfl (by omega) (fun j hj hz => by by_cases hjk : j = k; (rw [hjk, htk] at hz; exact hut hz); (exact hno j (by omega) hz)) hP hS (lv_sub hl [0, 1, 2] rfl)
      · have hut := c16_2
        refine lv_iload_n hK.1.1 hK.1.2.1 dX4_placeOf_19 rfl (lv_at hl 0 rfl) ?_
        refine lv_iconst (v := 1) hK.1.1 hK.1.2.1 dX4_placeOf_20 (by decide) ?_
        refine lv_iadd hK.1.1 hK.1.2.1 dX4_placeOf_21 ?_
        rw [nI_1]
        exact gk_iret0 hK.1 hret hlk hP hS (Nat.le_of_ble_eq_true rfl) (Nat.le_of_ble_eq_true rfl) dX4_placeOf_22 ⟨⟨_, Or.inl ⟨k, htk.trans hut, hno, rfl⟩, rfl⟩, rfl⟩
  exact loop _ 0 ls _ _ rfl (by omega) (fun j hj => absurd hj (Nat.not_lt_zero j)) hP hS (lv_sub hl [0, 1, 2] rfl)
set_option maxHeartbeats 4000000 in
set_option maxRecDepth 100000 in
theorem c_X4_name (l : Launch) {y : ly_T} {A : Nat → Prop} {G : gk_G} {td : Int32} {ru : Nat → Nat → Int32} {fr lv : Nat → Nat} {lt et tl : Nat → Int32} {hf hp : Nat → Option Nat} {ol : Nat → List Nat} {PS : Nat → Prop} {pf : Nat → Nat → Int32} {i j : Int32}  (hfl : l.stackTraces = false) (hR : rp y G td ru fr lv lt et tl hf hp ol PS pf) (hin5 : ∀ f, f < 5 → ∀ q ∈ ol f, PS q) : gk_M l yX4_name (Cond.code yX4_name cX4_name 5 (some .int)) 7 120 16 128 y A [.ref (ly_a y 0), .int i, .int j] G (fun v G1 => ∃ f k t, f < 5 ∧ i = nI f ∧ (ol f)[k]? = some t ∧ j = nI k ∧ v = some (.int (if ru (fr f) 8 = 0 then nI ((ol f).length - k) else 1000 * pf 1 t + nI (t_cnt pf (ol f) k (pf 1 t)))) ∧ G1 = G) (fun E G1 => E = "java/lang/IndexOutOfBoundsException" ∧ G1 = G ∧ (rg_out i 5 ∨ ∃ f, f < 5 ∧ i = nI f ∧ rg_out j (ol f).length)) := by
  refine gk_ofX (cc := cX4_name) (maxL := 5) (ret := (some .int)) (own := RX4) (by decide +kernel) rfl rfl (Nat.le_of_ble_eq_true rfl) ?_
  intro p e s m below meth c ls hK hret hlk hex hP hS hl
  have hl : lv_has ls 5 [(0, .ref (ly_a y 0)), (1, .int i), (2, .int j)] := hl
  refine lv_aload_n hK.1.1 hK.1.2.1 dX4_name_0 rfl (lv_at hl 0 rfl) ?_
  refine lv_iload_n hK.1.1 hK.1.2.1 dX4_name_1 rfl (lv_at hl 1 rfl) ?_
  refine gk_callV (n := 1) (As := [.int i]) (rest := []) hK (c_X4_fileOf l hfl hR (i := i)) (gk_gV q_11_13 q_11_14 q_11_15 q_1_2 q_11_16) ⟨rfl, by decide +kernel, by decide +kernel, by decide +kernel⟩ ⟨(Nat.le_of_ble_eq_true rfl), (Nat.le_of_ble_eq_true rfl)⟩ hP hS (gk_recv hK.2.2.1.1 hP hR.1 rfl) rfl hl.1 rfl (Nat.le_of_ble_eq_true rfl) dX4_name_2 ⟨(Nat.le_of_ble_eq_true rfl), (Nat.le_of_ble_eq_true rfl)⟩ (fun E ce q9 G1 H locs hx hP hS h1 h2 h3 => gk_out hex hlk hP hS h1 h2 h3 ⟨hx.1, hx.2.1, Or.inl hx.2.2⟩ (Nat.le_of_ble_eq_true rfl) (Nat.le_of_ble_eq_true rfl)) (fun v G1 H locs hw hP hS => ?_)
  obtain ⟨f_1, hf_1, rfl, rfl, hG9⟩ := hw
  rw [hG9] at hP
  refine W.eq (g2 := F0 m 5 ls [.ref (ly_f y 1 f_1)]) rfl ?_
  refine lv_astore_n (lv' := [(3, .ref (ly_f y 1 f_1)), (0, .ref (ly_a y 0)), (1, .int (nI f_1)), (2, .int j)]) hK.1.1 hK.1.2.1 dX4_name_5 rfl hl (by decide) rfl (fun ls hl => ?_)
  refine lv_aload_n hK.1.1 hK.1.2.1 dX4_name_6 rfl (lv_at hl 0 rfl) ?_
  refine lv_iload_n hK.1.1 hK.1.2.1 dX4_name_7 rfl (lv_at hl 3 rfl) ?_
  refine gk_callS (n := 2) (As := [.ref (ly_f y 1 f_1), .int j]) (rest := []) hK (c_X4_oldPartOf l hfl hR (i := j) hf_1 (hin5 _ hf_1)) (gk_gS q_11_17 q_11_18 q_1_2 q_11_19) ⟨by decide +kernel, by decide +kernel, by decide +kernel⟩ ⟨(Nat.le_of_ble_eq_true rfl), (Nat.le_of_ble_eq_true rfl)⟩ hP hS rfl hl.1 rfl (Nat.le_of_ble_eq_true rfl) dX4_name_8 ⟨(Nat.le_of_ble_eq_true rfl), (Nat.le_of_ble_eq_true rfl)⟩ (fun E ce q9 G1 H locs hx hP hS h1 h2 h3 => gk_out hex hlk hP hS h1 h2 h3 ⟨hx.1, hx.2.1, Or.inr ⟨f_1, hf_1, rfl, hx.2.2⟩⟩ (Nat.le_of_ble_eq_true rfl) (Nat.le_of_ble_eq_true rfl)) (fun v G1 H locs hw hP hS => ?_)
  obtain ⟨k, t, htk, rfl, rfl, hG9⟩ := hw
  rw [hG9] at hP
  refine W.eq (g2 := F0 m 11 ls [.ref t]) rfl ?_
  refine tr_150 hK hP hR (hin5 f_1 hf_1 t (List.mem_of_getElem? htk)) dX4_name_11 ?_
  refine lv_istore (lv' := [(4, .int (pf 1 t)), (3, .ref (ly_f y 1 f_1)), (0, .ref (ly_a y 0)), (1, .int (nI f_1)), (2, .int (nI k))]) hK.1.1 hK.1.2.1 dX4_name_14 hl (by decide) rfl (fun ls hl => ?_)
  refine lv_aload_n hK.1.1 hK.1.2.1 dX4_name_16 rfl (lv_at hl 1 rfl) ?_
  refine tr_75 hK hP hR hf_1 dX4_name_17 ?_
  refine tr_65 hK hP hR (hR.2.2.2.1 f_1 hf_1).1 dX4_name_20 ?_
  refine lv_if_ne (tgt := 36) hK.1.1 hK.1.2.1 dX4_name_23 (by decide) (fun c23_2 => ?_) (fun c23_2 => ?_)
  · refine lv_sipush (v := 1000) hK.1.1 hK.1.2.1 dX4_name_36 (by decide) ?_
    refine lv_iload hK.1.1 hK.1.2.1 dX4_name_39 (lv_at hl 0 rfl) ?_
    refine lv_imul hK.1.1 hK.1.2.1 dX4_name_41 ?_
    refine lv_aload_n hK.1.1 hK.1.2.1 dX4_name_42 rfl (lv_at hl 1 rfl) ?_
    refine tr_137 hK hP hR hf_1 dX4_name_43 ?_
    refine lv_iload_n hK.1.1 hK.1.2.1 dX4_name_46 rfl (lv_at hl 4 rfl) ?_
    refine lv_iload hK.1.1 hK.1.2.1 dX4_name_47 (lv_at hl 0 rfl) ?_
    refine gk_callS0 (n := 3) (As := [.ref (ly_f y 3 f_1), .int (nI k), .int (pf 1 t)]) (rest := [.int (1000 * (pf 1 t))]) hK (c_X4_countOlderOfDay l hR (k := k) (d := (pf 1 t)) hf_1 (hin5 _ hf_1) (Nat.le_of_lt (List.getElem?_eq_some_iff.mp htk).1)) (gk_gS q_11_20 q_11_21 q_1_2 q_11_22) ⟨by decide +kernel, by decide +kernel, by decide +kernel⟩ ⟨(Nat.le_of_ble_eq_true rfl), (Nat.le_of_ble_eq_true rfl)⟩ hP hS rfl hl.1 rfl (Nat.le_of_ble_eq_true rfl) dX4_name_49 ⟨(Nat.le_of_ble_eq_true rfl), (Nat.le_of_ble_eq_true rfl)⟩ (fun v G1 H locs hw hP hS => ?_)
    obtain ⟨rfl, hG9⟩ := hw
    rw [hG9] at hP
    refine W.eq (g2 := F0 m 52 ls [.int (nI (t_cnt pf (ol f_1) k (pf 1 t))), .int (1000 * (pf 1 t))]) rfl ?_
    refine lv_iadd hK.1.1 hK.1.2.1 dX4_name_52 ?_
    exact vx_ret (gk_iret0 hK.1 hret hlk hP hS (Nat.le_of_ble_eq_true rfl) (Nat.le_of_ble_eq_true rfl) dX4_name_53 ⟨f_1, k, t, hf_1, rfl, htk, rfl, by rw [if_neg c23_2], rfl⟩)
  · refine lv_aload_n hK.1.1 hK.1.2.1 dX4_name_26 rfl (lv_at hl 1 rfl) ?_
    refine tr_137 hK hP hR hf_1 dX4_name_27 ?_
    refine gk_callV0 (n := 0) (As := []) (rest := []) hK (c_list_size l hR hf_1) (gk_gV q_5_13 q_5_14 q_5_15 q_2_13 q_5_16) ⟨rfl, by decide +kernel, by decide +kernel, by decide +kernel⟩ ⟨(Nat.le_of_ble_eq_true rfl), (Nat.le_of_ble_eq_true rfl)⟩ hP hS (rp_recvL hK.2.2.1 hP hR hf_1) rfl hl.1 rfl (Nat.le_of_ble_eq_true rfl) dX4_name_30 ⟨(Nat.le_of_ble_eq_true rfl), (Nat.le_of_ble_eq_true rfl)⟩ (fun v G1 H locs hw hP hS => ?_)
    obtain ⟨rfl, hG9⟩ := hw
    rw [hG9] at hP
    refine W.eq (g2 := F0 m 33 ls [.int (nI (ol f_1).length)]) rfl ?_
    refine lv_iload_n hK.1.1 hK.1.2.1 dX4_name_33 rfl (lv_at hl 4 rfl) ?_
    refine lv_isub hK.1.1 hK.1.2.1 dX4_name_34 ?_
    rw [pk_sub (Nat.le_of_lt (List.getElem?_eq_some_iff.mp htk).1)]
    exact vx_ret (gk_iret0 hK.1 hret hlk hP hS (Nat.le_of_ble_eq_true rfl) (Nat.le_of_ble_eq_true rfl) dX4_name_35 ⟨f_1, k, t, hf_1, rfl, htk, rfl, by rw [if_pos c23_2], rfl⟩)
set_option maxHeartbeats 4000000 in
set_option maxRecDepth 100000 in
theorem c_X4_holds (l : Launch) {y : ly_T} {A : Nat → Prop} {G : gk_G} {td : Int32} {ru : Nat → Nat → Int32} {fr lv : Nat → Nat} {lt et tl : Nat → Int32} {hf hp : Nat → Option Nat} {ol : Nat → List Nat} {PS : Nat → Prop} {pf : Nat → Nat → Int32} {i : Int32}  (hfl : l.stackTraces = false) (hR : rp y G td ru fr lv lt et tl hf hp ol PS pf) (hHo : ∀ h, h < 4 → ∀ f, hf h = some f → ∃ t, hp h = some t) : gk_M l yX4_holds (Cond.code yX4_holds cX4_holds 4 (some .int)) 7 120 16 128 y A [.ref (ly_a y 0), .int i] G (fun v G1 => ∃ h, h < 4 ∧ i = nI h ∧ ((hf h = none ∧ v = some (.int (-1))) ∨ ∃ f t x, f < 5 ∧ hf h = some f ∧ hp h = some t ∧ t_plc (ol f) t x ∧ v = some (.int (100 * nI f + x))) ∧ G1 = G) (fun E G1 => E = "java/lang/IndexOutOfBoundsException" ∧ G1 = G ∧ rg_out i 4) := by
  refine gk_ofX (cc := cX4_holds) (maxL := 4) (ret := (some .int)) (own := RX4) (by decide +kernel) rfl rfl (Nat.le_of_ble_eq_true rfl) ?_
  intro p e s m below meth c ls hK hret hlk hex hP hS hl
  have hl : lv_has ls 4 [(0, .ref (ly_a y 0)), (1, .int i)] := hl
  refine lv_aload_n hK.1.1 hK.1.2.1 dX4_holds_0 rfl (lv_at hl 0 rfl) ?_
  refine lv_iload_n hK.1.1 hK.1.2.1 dX4_holds_1 rfl (lv_at hl 1 rfl) ?_
  refine gk_callV (n := 1) (As := [.int i]) (rest := []) hK (c_X4_holderOf l hfl hR (i := i)) (gk_gV q_10_20 q_10_21 q_10_22 q_1_2 q_10_23) ⟨rfl, by decide +kernel, by decide +kernel, by decide +kernel⟩ ⟨(Nat.le_of_ble_eq_true rfl), (Nat.le_of_ble_eq_true rfl)⟩ hP hS (gk_recv hK.2.2.1.1 hP hR.1 rfl) rfl hl.1 rfl (Nat.le_of_ble_eq_true rfl) dX4_holds_2 ⟨(Nat.le_of_ble_eq_true rfl), (Nat.le_of_ble_eq_true rfl)⟩ (fun E ce q9 G1 H locs hx hP hS h1 h2 h3 => gk_out hex hlk hP hS h1 h2 h3 hx (Nat.le_of_ble_eq_true rfl) (Nat.le_of_ble_eq_true rfl)) (fun v G1 H locs hw hP hS => ?_)
  obtain ⟨h_1, hh_1, rfl, rfl, hG9⟩ := hw
  rw [hG9] at hP
  refine W.eq (g2 := F0 m 5 ls [.ref (ly_f y 2 h_1)]) rfl ?_
  refine lv_astore_n (lv' := [(2, .ref (ly_f y 2 h_1)), (0, .ref (ly_a y 0)), (1, .int (nI h_1))]) hK.1.1 hK.1.2.1 dX4_holds_5 rfl hl (by decide) rfl (fun ls hl => ?_)
  refine lv_aload_n hK.1.1 hK.1.2.1 dX4_holds_6 rfl (lv_at hl 0 rfl) ?_
  rcases ef_3 : hf h_1 with _ | f_2
  · refine tr_86 hK hP hR hh_1 dX4_holds_7 ?_
    rw [ef_3]
    refine W.eq (g2 := F0 m 10 ls [.null]) rfl ?_
    refine lv_astore_nN (lv' := [(3, .null), (2, .ref (ly_f y 2 h_1)), (0, .ref (ly_a y 0)), (1, .int (nI h_1))]) hK.1.1 hK.1.2.1 dX4_holds_10 rfl hl (by decide) rfl (fun ls hl => ?_)
    refine lv_aload_nN hK.1.1 hK.1.2.1 dX4_holds_11 rfl (lv_at hl 0 rfl) ?_
    refine lv_ifnonnullN hK.1.1 hK.1.2.1 dX4_holds_12 ?_
    refine lv_iconst (v := (-1)) hK.1.1 hK.1.2.1 dX4_holds_15 (by decide) ?_
    exact vx_ret (gk_iret0 hK.1 hret hlk hP hS (Nat.le_of_ble_eq_true rfl) (Nat.le_of_ble_eq_true rfl) dX4_holds_16 ⟨h_1, hh_1, rfl, Or.inl ⟨ef_3, rfl⟩, rfl⟩)
  · have hf_2 : f_2 < 5 := (hR.2.2.2.2.1.1 h_1 hh_1).1 f_2 ef_3
    refine tr_86 hK hP hR hh_1 dX4_holds_7 ?_
    rw [ef_3]
    refine W.eq (g2 := F0 m 10 ls [.ref (ly_f y 1 f_2)]) rfl ?_
    refine lv_astore_n (lv' := [(3, .ref (ly_f y 1 f_2)), (2, .ref (ly_f y 2 h_1)), (0, .ref (ly_a y 0)), (1, .int (nI h_1))]) hK.1.1 hK.1.2.1 dX4_holds_10 rfl hl (by decide) rfl (fun ls hl => ?_)
    refine lv_aload_n hK.1.1 hK.1.2.1 dX4_holds_11 rfl (lv_at hl 0 rfl) ?_
    refine lv_ifnonnull (tgt := 17) hK.1.1 hK.1.2.1 dX4_holds_12 (by decide) ?_
    refine lv_bipush (v := 100) hK.1.1 hK.1.2.1 dX4_holds_17 (by decide) ?_
    refine lv_aload_n hK.1.1 hK.1.2.1 dX4_holds_19 rfl (lv_at hl 0 rfl) ?_
    refine tr_163 hK hP hR hf_2 dX4_holds_20 ?_
    refine lv_imul hK.1.1 hK.1.2.1 dX4_holds_23 ?_
    refine lv_aload_n hK.1.1 hK.1.2.1 dX4_holds_24 rfl (lv_at hl 0 rfl) ?_
    refine tr_137 hK hP hR hf_2 dX4_holds_25 ?_
    refine lv_aload_n hK.1.1 hK.1.2.1 dX4_holds_28 rfl (lv_at hl 1 rfl) ?_
    obtain ⟨t, ht⟩ := hHo h_1 hh_1 f_2 ef_3
    refine tr_94 hK hP hR hh_1 dX4_holds_29 ?_
    rw [ht]
    refine W.eq (g2 := F0 m 32 ls [.ref t, .ref (ly_f y 3 f_2), .int (100 * (nI f_2))]) rfl ?_
    refine gk_callS0 (n := 2) (As := [.ref (ly_f y 3 f_2), .ref t]) (rest := [.int (100 * (nI f_2))]) hK (c_X4_placeOf l hR (t := t) hf_2) (gk_gS q_11_2 q_11_3 q_1_2 q_11_4) ⟨by decide +kernel, by decide +kernel, by decide +kernel⟩ ⟨(Nat.le_of_ble_eq_true rfl), (Nat.le_of_ble_eq_true rfl)⟩ hP hS rfl hl.1 rfl (Nat.le_of_ble_eq_true rfl) dX4_holds_32 ⟨(Nat.le_of_ble_eq_true rfl), (Nat.le_of_ble_eq_true rfl)⟩ (fun v G1 H locs hw hP hS => ?_)
    obtain ⟨⟨x, hx9, rfl⟩, hG9⟩ := hw
    rw [hG9] at hP
    refine W.eq (g2 := F0 m 35 ls [.int x, .int (100 * (nI f_2))]) rfl ?_
    refine lv_iadd hK.1.1 hK.1.2.1 dX4_holds_35 ?_
    exact vx_ret (gk_iret0 hK.1 hret hlk hP hS (Nat.le_of_ble_eq_true rfl) (Nat.le_of_ble_eq_true rfl) dX4_holds_36 ⟨h_1, hh_1, rfl, Or.inr ⟨f_2, t, x, hf_2, ef_3, ht, hx9, rfl⟩, rfl⟩)
