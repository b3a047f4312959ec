/-! the class: small methods -/
set_option maxHeartbeats 4000000 in
set_option maxRecDepth 100000 in
theorem c_X4_requireRange (l : Launch) {y : ly_T} {A : Nat → Prop} {G : gk_G} {td : Int32} {ru : Nat → Nat → Int32} {fr lv : Nat → Nat} {lt et tl : Nat → Int32} {hf hp : Nat → Option Nat} {ol : Nat → List Nat} {PS : Nat → Prop} {pf : Nat → Nat → Int32} {x a b : Int32}  (hfl : l.stackTraces = false) (hR : rp y G td ru fr lv lt et tl hf hp ol PS pf) : gk_M l yX4_requireRange (Cond.code yX4_requireRange cX4_requireRange 3 none) 6 82 1 6 y A [.int x, .int a, .int b] G (fun v G1 => v = none ∧ G1 = G ∧ rg_in x a b) (fun E G1 => E = "java/lang/IllegalArgumentException" ∧ G1 = G ∧ ¬ rg_in x a b) := by
  refine gk_ofX (cc := cX4_requireRange) (maxL := 3) (ret := none) (own := RX4) (by decide +kernel) rfl rfl (Nat.le_of_ble_eq_true rfl) ?_
  intro p e s m below meth c ls hK hret hlk hex hP hS hl
  have hl : lv_has ls 3 [(0, .int x), (1, .int a), (2, .int b)] := hl
  refine lv_iload_n hK.1.1 hK.1.2.1 dX4_requireRange_0 rfl (lv_at hl 0 rfl) ?_
  refine lv_iload_n hK.1.1 hK.1.2.1 dX4_requireRange_1 rfl (lv_at hl 1 rfl) ?_
  refine lv_icmp_lt (tgt := 10) hK.1.1 hK.1.2.1 dX4_requireRange_2 (by decide) (fun c2_1 => ?_) (fun c2_1 => ?_)
  · exact gk_thr1 hK hfl hK.2.2.1.2.1.2.2.2.2.2.2 hP hS hl.1 hex hlk dX4_requireRange_10 dX4_requireRange_13 dX4_requireRange_14 dX4_requireRange_16 dX4_requireRange_19 ⟨(Nat.le_of_ble_eq_true rfl), (Nat.le_of_ble_eq_true rfl), (Nat.le_of_ble_eq_true rfl), (Nat.le_of_ble_eq_true rfl)⟩ ⟨(Nat.le_of_ble_eq_true rfl), (Nat.le_of_ble_eq_true rfl)⟩ ⟨rfl, rfl, fun h => h.1 c2_1⟩
  · refine lv_iload_n hK.1.1 hK.1.2.1 dX4_requireRange_5 rfl (lv_at hl 0 rfl) ?_
    refine lv_iload_n hK.1.1 hK.1.2.1 dX4_requireRange_6 rfl (lv_at hl 2 rfl) ?_
    refine lv_icmp_le (tgt := 20) hK.1.1 hK.1.2.1 dX4_requireRange_7 (by decide) (fun c7_2 => ?_) (fun c7_2 => ?_)
    · exact vx_ret (gk_vret0 hK.1 hret hlk hP hS (Nat.le_of_ble_eq_true rfl) (Nat.le_of_ble_eq_true rfl) dX4_requireRange_20 ⟨rfl, rfl, ⟨c2_1, c7_2⟩⟩)
    · exact gk_thr1 hK hfl hK.2.2.1.2.1.2.2.2.2.2.2 hP hS hl.1 hex hlk dX4_requireRange_10 dX4_requireRange_13 dX4_requireRange_14 dX4_requireRange_16 dX4_requireRange_19 ⟨(Nat.le_of_ble_eq_true rfl), (Nat.le_of_ble_eq_true rfl), (Nat.le_of_ble_eq_true rfl), (Nat.le_of_ble_eq_true rfl)⟩ ⟨(Nat.le_of_ble_eq_true rfl), (Nat.le_of_ble_eq_true rfl)⟩ ⟨rfl, rfl, fun h => c7_2 h.2⟩
set_option maxHeartbeats 4000000 in
set_option maxRecDepth 100000 in
theorem c_X4_ruleOf (l : Launch) {y : ly_T} {A : Nat → Prop} {G : gk_G} {td : Int32} {ru : Nat → Nat → Int32} {fr lv : Nat → Nat} {lt et tl : Nat → Int32} {hf hp : Nat → Option Nat} {ol : Nat → List Nat} {PS : Nat → Prop} {pf : Nat → Nat → Int32} {i : Int32}  (hfl : l.stackTraces = false) (hR : rp y G td ru fr lv lt et tl hf hp ol PS pf) : gk_M l yX4_ruleOf (Cond.code yX4_ruleOf cX4_ruleOf 2 (some (.object "LogTurner$Rule"))) 6 82 1 6 y A [.ref (ly_a y 0), .int i] G (fun v G1 => ∃ r, r < 3 ∧ i = nI r ∧ v = some (.ref (ly_f y 0 r)) ∧ G1 = G) (fun E G1 => E = "java/lang/IndexOutOfBoundsException" ∧ G1 = G ∧ rg_out i 3) := by
  refine gk_ofX (cc := cX4_ruleOf) (maxL := 2) (ret := (some (.object "LogTurner$Rule"))) (own := RX4) (by decide +kernel) rfl rfl (Nat.le_of_ble_eq_true rfl) ?_
  intro p e s m below meth c ls hK hret hlk hex hP hS hl
  have hl : lv_has ls 2 [(0, .ref (ly_a y 0)), (1, .int i)] := hl
  refine lv_iload_n hK.1.1 hK.1.2.1 dX4_ruleOf_0 rfl (lv_at hl 1 rfl) ?_
  refine lv_if_lt (tgt := 9) hK.1.1 hK.1.2.1 dX4_ruleOf_1 (by decide) (fun c1_1 => ?_) (fun c1_1 => ?_)
  · exact gk_thr0 hK hfl hK.2.2.1.2.1.2.2.1 hP hS hl.1 hex hlk dX4_ruleOf_9 dX4_ruleOf_12 dX4_ruleOf_13 dX4_ruleOf_15 dX4_ruleOf_18 ⟨(Nat.le_of_ble_eq_true rfl), (Nat.le_of_ble_eq_true rfl), (Nat.le_of_ble_eq_true rfl), (Nat.le_of_ble_eq_true rfl)⟩ ⟨(Nat.le_of_ble_eq_true rfl), (Nat.le_of_ble_eq_true rfl)⟩ ⟨rfl, rfl, Or.inl c1_1⟩
  · refine lv_iload_n hK.1.1 hK.1.2.1 dX4_ruleOf_4 rfl (lv_at hl 1 rfl) ?_
    refine lv_iconst (v := 3) hK.1.1 hK.1.2.1 dX4_ruleOf_5 (by decide) ?_
    refine lv_icmp_lt (tgt := 19) hK.1.1 hK.1.2.1 dX4_ruleOf_6 (by decide) (fun c6_2 => ?_) (fun c6_2 => ?_)
    · obtain ⟨r, hr, rfl⟩ := rg_of (n := 3) (by decide) c1_1 c6_2
      refine lv_aload_n hK.1.1 hK.1.2.1 dX4_ruleOf_19 rfl (lv_at hl 0 rfl) ?_
      refine tr_11 hK hP hR dX4_ruleOf_20 ?_
      refine lv_iload_n hK.1.1 hK.1.2.1 dX4_ruleOf_23 rfl (lv_at hl 1 rfl) ?_
      refine ta_rules hK hP hR (i := r) hr dX4_ruleOf_24 ?_
      exact vx_ret (gk_aret0 hK.1 hret (by first | exact Or.inl ⟨_, rfl⟩ | exact Or.inr ⟨_, rfl⟩) (by first | exact Or.inr ⟨_, rfl⟩ | exact Or.inl rfl | exact va_rf_or _) hlk hP hS (Nat.le_of_ble_eq_true rfl) (Nat.le_of_ble_eq_true rfl) dX4_ruleOf_25 ⟨r, hr, rfl, rfl, rfl⟩)
    · exact gk_thr0 hK hfl hK.2.2.1.2.1.2.2.1 hP hS hl.1 hex hlk dX4_ruleOf_9 dX4_ruleOf_12 dX4_ruleOf_13 dX4_ruleOf_15 dX4_ruleOf_18 ⟨(Nat.le_of_ble_eq_true rfl), (Nat.le_of_ble_eq_true rfl), (Nat.le_of_ble_eq_true rfl), (Nat.le_of_ble_eq_true rfl)⟩ ⟨(Nat.le_of_ble_eq_true rfl), (Nat.le_of_ble_eq_true rfl)⟩ ⟨rfl, rfl, Or.inr c6_2⟩
set_option maxHeartbeats 4000000 in
set_option maxRecDepth 100000 in
theorem c_X4_fileOf (l : Launch) {y : ly_T} {A : Nat → Prop} {G : gk_G} {td : Int32} {ru : Nat → Nat → Int32} {fr lv : Nat → Nat} {lt et tl : Nat → Int32} {hf hp : Nat → Option Nat} {ol : Nat → List Nat} {PS : Nat → Prop} {pf : Nat → Nat → Int32} {i : Int32}  (hfl : l.stackTraces = false) (hR : rp y G td ru fr lv lt et tl hf hp ol PS pf) : gk_M l yX4_fileOf (Cond.code yX4_fileOf cX4_fileOf 2 (some (.object "LogTurner$LogFile"))) 6 82 1 6 y A [.ref (ly_a y 0), .int i] G (fun v G1 => ∃ f, f < 5 ∧ i = nI f ∧ v = some (.ref (ly_f y 1 f)) ∧ G1 = G) (fun E G1 => E = "java/lang/IndexOutOfBoundsException" ∧ G1 = G ∧ rg_out i 5) := by
  refine gk_ofX (cc := cX4_fileOf) (maxL := 2) (ret := (some (.object "LogTurner$LogFile"))) (own := RX4) (by decide +kernel) rfl rfl (Nat.le_of_ble_eq_true rfl) ?_
  intro p e s m below meth c ls hK hret hlk hex hP hS hl
  have hl : lv_has ls 2 [(0, .ref (ly_a y 0)), (1, .int i)] := hl
  refine lv_iload_n hK.1.1 hK.1.2.1 dX4_fileOf_0 rfl (lv_at hl 1 rfl) ?_
  refine lv_if_lt (tgt := 9) hK.1.1 hK.1.2.1 dX4_fileOf_1 (by decide) (fun c1_1 => ?_) (fun c1_1 => ?_)
  · exact gk_thr0 hK hfl hK.2.2.1.2.1.2.2.2.1 hP hS hl.1 hex hlk dX4_fileOf_9 dX4_fileOf_12 dX4_fileOf_13 dX4_fileOf_15 dX4_fileOf_18 ⟨(Nat.le_of_ble_eq_true rfl), (Nat.le_of_ble_eq_true rfl), (Nat.le_of_ble_eq_true rfl), (Nat.le_of_ble_eq_true rfl)⟩ ⟨(Nat.le_of_ble_eq_true rfl), (Nat.le_of_ble_eq_true rfl)⟩ ⟨rfl, rfl, Or.inl c1_1⟩
  · refine lv_iload_n hK.1.1 hK.1.2.1 dX4_fileOf_4 rfl (lv_at hl 1 rfl) ?_
    refine lv_iconst (v := 5) hK.1.1 hK.1.2.1 dX4_fileOf_5 (by decide) ?_
    refine lv_icmp_lt (tgt := 19) hK.1.1 hK.1.2.1 dX4_fileOf_6 (by decide) (fun c6_2 => ?_) (fun c6_2 => ?_)
    · obtain ⟨f, hf, rfl⟩ := rg_of (n := 5) (by decide) c1_1 c6_2
      refine lv_aload_n hK.1.1 hK.1.2.1 dX4_fileOf_19 rfl (lv_at hl 0 rfl) ?_
      refine tr_17 hK hP hR dX4_fileOf_20 ?_
      refine lv_iload_n hK.1.1 hK.1.2.1 dX4_fileOf_23 rfl (lv_at hl 1 rfl) ?_
      refine ta_files hK hP hR (i := f) hf dX4_fileOf_24 ?_
      exact vx_ret (gk_aret0 hK.1 hret (by first | exact Or.inl ⟨_, rfl⟩ | exact Or.inr ⟨_, rfl⟩) (by first | exact Or.inr ⟨_, rfl⟩ | exact Or.inl rfl | exact va_rf_or _) hlk hP hS (Nat.le_of_ble_eq_true rfl) (Nat.le_of_ble_eq_true rfl) dX4_fileOf_25 ⟨f, hf, rfl, rfl, rfl⟩)
    · exact gk_thr0 hK hfl hK.2.2.1.2.1.2.2.2.1 hP hS hl.1 hex hlk dX4_fileOf_9 dX4_fileOf_12 dX4_fileOf_13 dX4_fileOf_15 dX4_fileOf_18 ⟨(Nat.le_of_ble_eq_true rfl), (Nat.le_of_ble_eq_true rfl), (Nat.le_of_ble_eq_true rfl), (Nat.le_of_ble_eq_true rfl)⟩ ⟨(Nat.le_of_ble_eq_true rfl), (Nat.le_of_ble_eq_true rfl)⟩ ⟨rfl, rfl, Or.inr c6_2⟩
set_option maxHeartbeats 4000000 in
set_option maxRecDepth 100000 in
theorem c_X4_holderOf (l : Launch) {y : ly_T} {A : Nat → Prop} {G : gk_G} {td : Int32} {ru : Nat → Nat → Int32} {fr lv : Nat → Nat} {lt et tl : Nat → Int32} {hf hp : Nat → Option Nat} {ol : Nat → List Nat} {PS : Nat → Prop} {pf : Nat → Nat → Int32} {i : Int32}  (hfl : l.stackTraces = false) (hR : rp y G td ru fr lv lt et tl hf hp ol PS pf) : gk_M l yX4_holderOf (Cond.code yX4_holderOf cX4_holderOf 2 (some (.object "LogTurner$Holder"))) 6 82 1 6 y A [.ref (ly_a y 0), .int i] G (fun v G1 => ∃ h, h < 4 ∧ i = nI h ∧ v = some (.ref (ly_f y 2 h)) ∧ G1 = G) (fun E G1 => E = "java/lang/IndexOutOfBoundsException" ∧ G1 = G ∧ rg_out i 4) := by
  refine gk_ofX (cc := cX4_holderOf) (maxL := 2) (ret := (some (.object "LogTurner$Holder"))) (own := RX4) (by decide +kernel) rfl rfl (Nat.le_of_ble_eq_true rfl) ?_
  intro p e s m below meth c ls hK hret hlk hex hP hS hl
  have hl : lv_has ls 2 [(0, .ref (ly_a y 0)), (1, .int i)] := hl
  refine lv_iload_n hK.1.1 hK.1.2.1 dX4_holderOf_0 rfl (lv_at hl 1 rfl) ?_
  refine lv_if_lt (tgt := 9) hK.1.1 hK.1.2.1 dX4_holderOf_1 (by decide) (fun c1_1 => ?_) (fun c1_1 => ?_)
  · exact gk_thr0 hK hfl hK.2.2.1.2.1.2.2.2.2.1 hP hS hl.1 hex hlk dX4_holderOf_9 dX4_holderOf_12 dX4_holderOf_13 dX4_holderOf_15 dX4_holderOf_18 ⟨(Nat.le_of_ble_eq_true rfl), (Nat.le_of_ble_eq_true rfl), (Nat.le_of_ble_eq_true rfl), (Nat.le_of_ble_eq_true rfl)⟩ ⟨(Nat.le_of_ble_eq_true rfl), (Nat.le_of_ble_eq_true rfl)⟩ ⟨rfl, rfl, Or.inl c1_1⟩
  · refine lv_iload_n hK.1.1 hK.1.2.1 dX4_holderOf_4 rfl (lv_at hl 1 rfl) ?_
    refine lv_iconst (v := 4) hK.1.1 hK.1.2.1 dX4_holderOf_5 (by decide) ?_
    refine lv_icmp_lt (tgt := 19) hK.1.1 hK.1.2.1 dX4_holderOf_6 (by decide) (fun c6_2 => ?_) (fun c6_2 => ?_)
    · obtain ⟨h, hh, rfl⟩ := rg_of (n := 4) (by decide) c1_1 c6_2
      refine lv_aload_n hK.1.1 hK.1.2.1 dX4_holderOf_19 rfl (lv_at hl 0 rfl) ?_
      refine tr_23 hK hP hR dX4_holderOf_20 ?_
      refine lv_iload_n hK.1.1 hK.1.2.1 dX4_holderOf_23 rfl (lv_at hl 1 rfl) ?_
      refine ta_holders hK hP hR (i := h) hh dX4_holderOf_24 ?_
      exact vx_ret (gk_aret0 hK.1 hret (by first | exact Or.inl ⟨_, rfl⟩ | exact Or.inr ⟨_, rfl⟩) (by first | exact Or.inr ⟨_, rfl⟩ | exact Or.inl rfl | exact va_rf_or _) hlk hP hS (Nat.le_of_ble_eq_true rfl) (Nat.le_of_ble_eq_true rfl) dX4_holderOf_25 ⟨h, hh, rfl, rfl, rfl⟩)
    · exact gk_thr0 hK hfl hK.2.2.1.2.1.2.2.2.2.1 hP hS hl.1 hex hlk dX4_holderOf_9 dX4_holderOf_12 dX4_holderOf_13 dX4_holderOf_15 dX4_holderOf_18 ⟨(Nat.le_of_ble_eq_true rfl), (Nat.le_of_ble_eq_true rfl), (Nat.le_of_ble_eq_true rfl), (Nat.le_of_ble_eq_true rfl)⟩ ⟨(Nat.le_of_ble_eq_true rfl), (Nat.le_of_ble_eq_true rfl)⟩ ⟨rfl, rfl, Or.inr c6_2⟩
