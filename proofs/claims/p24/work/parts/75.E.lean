/-! the law's loop, and the law from its entry -/
theorem lw_rev {y : ly_T} {G : gk_G} {td td2 : Int32} {ru ru2 : Nat → Nat → Int32} {fr fr2 : Nat → Nat} {hf hp hf2 hp2 : Nat → Option Nat} {S S2 : ts_T} {x1 x2 x3 : Nat × Nat × (Nat → Int32)} (h : lw y G td ru fr hf S hp td2 ru2 fr2 hf2 S2 hp2 [x1, x2, x3]) : lw y G td ru fr hf S hp td2 ru2 fr2 hf2 S2 hp2 [x3, x2, x1] := by
  obtain ⟨Go, Gt, rfl, h1, h2, h3, h4, h5, h6⟩ := h
  have hN : la_N [x3, x2, x1] := by
    unfold la_N at h4 ⊢
    simp only [List.map_cons, List.map_nil, List.nodup_cons, List.mem_cons, List.not_mem_nil, or_false, not_or] at h4 ⊢
    exact ⟨⟨fun q => h4.2.1 q.symm, fun q => h4.1.2 q.symm⟩, fun q => h4.1.1 q.symm, h4.2.2⟩
  have e : la_G (ly_k y 0) [x1, x2, x3] = la_G (ly_k y 0) [x3, x2, x1] := by
    unfold la_N at h4
    simp only [List.map_cons, List.map_nil, List.nodup_cons, List.mem_cons, List.not_mem_nil, or_false, not_or] at h4
    funext a
    show gk_up (gk_up (gk_up _ _ _) _ _) _ _ a = gk_up (gk_up (gk_up _ _ _) _ _) _ _ a
    by_cases a1 : a = x1.1
    · subst a1
      rw [gk_us, gk_un _ _ h4.1.2, gk_un _ _ h4.1.1, gk_us]
    · by_cases a3 : a = x3.1
      · subst a3
        rw [gk_un _ _ a1, gk_un _ _ (fun q => h4.2.1 q.symm), gk_us, gk_us]
      · by_cases a2 : a = x2.1
        · subst a2
          rw [gk_un _ _ a1, gk_us, gk_un _ _ a3, gk_us]
        · rw [gk_un _ _ a1, gk_un _ _ a2, gk_un _ _ a3, gk_un _ _ a3, gk_un _ _ a2, gk_un _ _ a1]
  rw [e]
  rw [e] at h2 h3
  exact ⟨Go, Gt, rfl, h1, h2, h3, hN, h5, h6⟩
set_option maxHeartbeats 4000000 in
set_option maxRecDepth 100000 in
theorem lw_loop {p : Program} {l : Launch} {e : Env} {s : State} {m : MethodId} {args : Array Value} {below : List Frame} {meth : Method} {c : Code} {Q : State → Prop} {y : ly_T} {A : Nat → Prop} {sc n9 : Nat} {sf : Nat → Int32} (hfl : l.stackTraces = false) (hK : gk_K p s m c args cL_law RL 8 y A) (hX : va_X sc n9 sf s s.heap) (hbl : sc < s.heap.size) (hbA : ¬ A sc) (hn9 : n9 ≤ 260) (kk : ∀ (ls : Array Slot) (H : Heap) (locs : List Loc), va_S A s.heap H locs → lv_has ls 8 [(6, .int 1)] → W p l e { frames := 15, cells := 711450, slots := 6967421, locals := 630 } s m args below meth c H locs 711450 6967421 Q (F0 m 213 ls [])) {ar af ac : Nat} : ∀ (dd N : Nat) (ls : Array Slot) (H : Heap) (locs : List Loc) (G : gk_G) (cells slots : Nat), N + dd = 110 → cells + 800 * dd ≤ 711450 → slots + 36000 * dd ≤ 6967421 → gk_P (ly_D y) A G H → va_S A s.heap H locs → lj y G ar af ac N → lv_has ls 8 [(7, .int (nI N)), (6, .int 1), (0, .ref sc), (1, .ref (ly_a y 0)), (2, .ref (ly_a (ly_sw y) 0)), (3, .ref ar), (4, .ref af), (5, .ref ac)] → W p l e { frames := 15, cells := 711450, slots := 6967421, locals := 630 } s m args below meth c H locs cells slots Q (F0 m 121 ls []) := by
  intro dd
  induction dd with
  | zero =>
    intro N ls H locs G cells slots hd hc hs hP hS hJ hl
    refine lv_iload hK.1.1 hK.1.2.1 dL_law_121 (lv_at hl 0 rfl) ?_
    refine lv_bipush (v := 110) hK.1.1 hK.1.2.1 dL_law_123 (by decide) ?_
    refine lv_icmp_ge (tgt := 213) hK.1.1 hK.1.2.1 dL_law_125 (by decide) (fun _ => ?_) (fun c => absurd (nI_le (a := 110) (by omega) (by omega)) c)
    exact W.widen (by omega) (by omega) (kk ls H locs hS (lv_sub hl [1] rfl))
  | succ dd ih =>
    intro N ls H locs G cells slots hd hc hs hP hS hJ hl
    refine lv_iload hK.1.1 hK.1.2.1 dL_law_121 (lv_at hl 0 rfl) ?_
    refine lv_bipush (v := 110) hK.1.1 hK.1.2.1 dL_law_123 (by decide) ?_
    refine lv_icmp_ge (tgt := 213) hK.1.1 hK.1.2.1 dL_law_125 (by decide) (fun c => absurd c (nI_ge (b := 110) (by omega) (by decide))) (fun _ => ?_)
    refine lv_iload hK.1.1 hK.1.2.1 dL_law_128 (lv_at hl 1 rfl) ?_
    refine lv_if_eq (tgt := 213) hK.1.1 hK.1.2.1 dL_law_130 (by decide) (fun c => absurd c (by decide)) (fun _ => ?_)
    refine lv_aload_n hK.1.1 hK.1.2.1 dL_law_133 rfl (lv_at hl 3 rfl) ?_
    refine lv_aload_n hK.1.1 hK.1.2.1 dL_law_134 rfl (lv_at hl 4 rfl) ?_
    refine lv_aload_n hK.1.1 hK.1.2.1 dL_law_135 rfl (lv_at hl 5 rfl) ?_
    refine lv_aload hK.1.1 hK.1.2.1 dL_law_136 (lv_at hl 6 rfl) ?_
    refine lv_aload hK.1.1 hK.1.2.1 dL_law_138 (lv_at hl 7 rfl) ?_
    refine lv_aload_n hK.1.1 hK.1.2.1 dL_law_140 rfl (lv_at hl 2 rfl) ?_
    refine lv_iconst (v := 2) hK.1.1 hK.1.2.1 dL_law_141 (by decide) ?_
    refine lv_iload hK.1.1 hK.1.2.1 dL_law_142 (lv_at hl 0 rfl) ?_
    refine lv_imul hK.1.1 hK.1.2.1 dL_law_144 ?_
    refine W.eq (g2 := F0 m 145 ls [.int (nI (2 * N)), .ref sc, .ref ac, .ref af, .ref ar, .ref (ly_a (ly_sw y) 0), .ref (ly_a y 0)]) (by rw [show 2 * (nI N) = nI (2 * N) from pk_mul _ _]) ?_
    refine at_call hK hX hbl hbA hn9 (k := 2 * N) (by omega) ⟨(Nat.le_of_ble_eq_true rfl), (Nat.le_of_ble_eq_true rfl)⟩ ⟨(by show cells ≤ 711450; omega), (by show slots ≤ 6967421; omega)⟩ hP hS hl.1 (Nat.le_of_ble_eq_true rfl) dL_law_145 (fun x_1 H locs hP hS => ?_)
    refine W.eq (g2 := F0 m 148 ls [.int x_1, .ref ac, .ref af, .ref ar, .ref (ly_a (ly_sw y) 0), .ref (ly_a y 0)]) rfl ?_
    refine lv_aload_n hK.1.1 hK.1.2.1 dL_law_148 rfl (lv_at hl 2 rfl) ?_
    refine lv_iconst (v := 2) hK.1.1 hK.1.2.1 dL_law_149 (by decide) ?_
    refine lv_iload hK.1.1 hK.1.2.1 dL_law_150 (lv_at hl 0 rfl) ?_
    refine lv_imul hK.1.1 hK.1.2.1 dL_law_152 ?_
    refine W.eq (g2 := F0 m 153 ls [.int (nI (2 * N)), .ref sc, .int x_1, .ref ac, .ref af, .ref ar, .ref (ly_a (ly_sw y) 0), .ref (ly_a y 0)]) (by rw [show 2 * (nI N) = nI (2 * N) from pk_mul _ _]) ?_
    refine lv_iconst (v := 1) hK.1.1 hK.1.2.1 dL_law_153 (by decide) ?_
    refine lv_iadd hK.1.1 hK.1.2.1 dL_law_154 ?_
    refine W.eq (g2 := F0 m 155 ls [.int (nI ((2 * N) + 1)), .ref sc, .int x_1, .ref ac, .ref af, .ref ar, .ref (ly_a (ly_sw y) 0), .ref (ly_a y 0)]) (by rw [show (nI (2 * N)) + 1 = nI ((2 * N) + 1) from nI_add _ _]) ?_
    refine at_call hK hX hbl hbA hn9 (k := (2 * N) + 1) (by omega) ⟨(Nat.le_of_ble_eq_true rfl), (Nat.le_of_ble_eq_true rfl)⟩ ⟨(by show (cells + 0) ≤ 711450; omega), (by show (slots + 0) ≤ 6967421; omega)⟩ hP hS hl.1 (Nat.le_of_ble_eq_true rfl) dL_law_155 (fun x_2 H locs hP hS => ?_)
    refine W.eq (g2 := F0 m 158 ls [.int x_2, .int x_1, .ref ac, .ref af, .ref ar, .ref (ly_a (ly_sw y) 0), .ref (ly_a y 0)]) rfl ?_
    refine gk_callS0 (n := 7) (As := [.ref (ly_a y 0), .ref (ly_a (ly_sw y) 0), .ref ar, .ref af, .ref ac, .int x_1, .int x_2]) (rest := []) hK (c_L_acts l hfl hJ (by omega)) (gk_gS q_12_4 q_12_5 q_10_12 q_12_6) ⟨by decide +kernel, by decide +kernel, by decide +kernel⟩ ⟨(Nat.le_of_ble_eq_true rfl), (Nat.le_of_ble_eq_true rfl)⟩ hP hS rfl hl.1 rfl (Nat.le_of_ble_eq_true rfl) dL_law_158 ⟨(by show ((cells + 0) + 0) + 112 ≤ 711450; omega), (by show ((slots + 0) + 0) + 30100 ≤ 6967421; omega)⟩ (fun v G_3 H locs hw hP hS => ?_)
    obtain ⟨rfl, hJ⟩ := hw
    refine W.eq (g2 := F0 m 161 ls [.int 1]) rfl ?_
    refine lv_istore (lv' := [(6, .int 1), (7, .int (nI N)), (0, .ref sc), (1, .ref (ly_a y 0)), (2, .ref (ly_a (ly_sw y) 0)), (3, .ref ar), (4, .ref af), (5, .ref ac)]) hK.1.1 hK.1.2.1 dL_law_161 hl (by decide) rfl (fun ls hl => ?_)
    refine lv_iload hK.1.1 hK.1.2.1 dL_law_163 (lv_at hl 0 rfl) ?_
    refine lv_if_eq (tgt := 207) hK.1.1 hK.1.2.1 dL_law_165 (by decide) (fun c => absurd c (by decide)) (fun _ => ?_)
    refine lv_iload hK.1.1 hK.1.2.1 dL_law_168 (lv_at hl 1 rfl) ?_
    refine lv_iconst (v := 4) hK.1.1 hK.1.2.1 dL_law_170 (by decide) ?_
    refine lv_irem hK.1.1 hK.1.2.1 dL_law_171 (by decide) ?_
    refine W.eq (g2 := F0 m 172 ls [.int (nI (N % 4))]) (by rw [show (nI N) - (nI N) / 4 * 4 = nI (N % 4) from pk_rem (by omega) (by decide) (by decide)]) ?_
    refine lv_iconst (v := 3) hK.1.1 hK.1.2.1 dL_law_172 (by decide) ?_
    refine lv_icmp_ne (tgt := 207) hK.1.1 hK.1.2.1 dL_law_173 (by decide) (fun c173_4 => ?_) (fun c173_4 => ?_)
    · refine lv_iinc (v := nI (N + 1)) (lv' := [(7, .int (nI (N + 1))), (6, .int 1), (0, .ref sc), (1, .ref (ly_a y 0)), (2, .ref (ly_a (ly_sw y) 0)), (3, .ref ar), (4, .ref af), (5, .ref ac)]) hK.1.1 hK.1.2.1 dL_law_207 hl (k := 1) rfl (nI_1 N) (by decide) rfl (fun ls hl => ?_)
      refine lv_goto (tgt := 121) hK.1.1 hK.1.2.1 dL_law_210 (by decide) ?_
      refine W.widen (show (((cells + 0) + 0) + 112) ≤ cells + 800 by omega) (show (((slots + 0) + 0) + 30100) ≤ slots + 36000 by omega) ?_
      exact ih (N + 1) ls _ _ _ (cells + 800) (slots + 36000) (by omega) (by omega) (by omega) hP hS hJ (lv_sub hl [0, 1, 2, 3, 4, 5, 6, 7] rfl)
    · obtain ⟨ed, td, ru, fr, hf, S, hp, S2, hp2, tt, rr, ff, cc, hW, ⟨fi, hI⟩, ⟨fi2, hI2⟩, ⟨φ, hrn⟩, hlr, hlf, hcc⟩ := id hJ
      have hN7 : N + 1 ≤ 111 := by omega
      have hlf2 : lf ff fr S2 tt := fun f hf => by rw [hrn.2.1.1, hrn.2.1.2.1]; exact hlf f hf
      refine lv_aload_n hK.1.1 hK.1.2.1 dL_law_176 rfl (lv_at hl 3 rfl) ?_
      refine lv_aload_n hK.1.1 hK.1.2.1 dL_law_177 rfl (lv_at hl 5 rfl) ?_
      refine lv_aload hK.1.1 hK.1.2.1 dL_law_178 (lv_at hl 6 rfl) ?_
      refine lv_aload hK.1.1 hK.1.2.1 dL_law_180 (lv_at hl 7 rfl) ?_
      refine gk_callS0 (n := 4) (As := [.ref (ly_a y 0), .ref ar, .ref af, .ref ac]) (rest := []) hK (c_L_isSo l hfl (lw_o hW) hI hN7 (lw_get hW (k := 0) rfl) (lw_get hW (k := 1) rfl) hlr hlf (lw_get hW (k := 2) rfl) hcc) (gk_gS q_18_10 q_18_11 q_10_12 q_18_12) ⟨by decide +kernel, by decide +kernel, by decide +kernel⟩ ⟨(Nat.le_of_ble_eq_true rfl), (Nat.le_of_ble_eq_true rfl)⟩ hP hS rfl hl.1 rfl (Nat.le_of_ble_eq_true rfl) dL_law_182 ⟨(by show (((cells + 0) + 0) + 112) + 336 ≤ 711450; omega), (by show (((slots + 0) + 0) + 30100) + 2688 ≤ 6967421; omega)⟩ (fun v G1 H locs hw hP hS => ?_)
      obtain ⟨rfl, hG9⟩ := hw
      rw [hG9] at hP
      refine W.eq (g2 := F0 m 185 ls [.int 1]) rfl ?_
      refine lv_if_eq (tgt := 204) hK.1.1 hK.1.2.1 dL_law_185 (by decide) (fun c => absurd c (by decide)) (fun _ => ?_)
      refine lv_aload_n hK.1.1 hK.1.2.1 dL_law_188 rfl (lv_at hl 4 rfl) ?_
      refine lv_aload_n hK.1.1 hK.1.2.1 dL_law_189 rfl (lv_at hl 5 rfl) ?_
      refine lv_aload hK.1.1 hK.1.2.1 dL_law_190 (lv_at hl 6 rfl) ?_
      refine lv_aload hK.1.1 hK.1.2.1 dL_law_192 (lv_at hl 7 rfl) ?_
      refine gk_callS0 (n := 4) (As := [.ref (ly_a (ly_sw y) 0), .ref ar, .ref af, .ref ac]) (rest := []) hK (gk_M0_sw (c_L_isSo l (y := ly_sw y) hfl (lw_t hW) hI2 hN7 (lw_get hW (k := 0) rfl) (lw_get hW (k := 1) rfl) hlr hlf2 (lw_get hW (k := 2) rfl) hcc)) (gk_gS q_18_10 q_18_11 q_10_12 q_18_12) ⟨by decide +kernel, by decide +kernel, by decide +kernel⟩ ⟨(Nat.le_of_ble_eq_true rfl), (Nat.le_of_ble_eq_true rfl)⟩ hP hS rfl hl.1 rfl (Nat.le_of_ble_eq_true rfl) dL_law_194 ⟨(by show ((((cells + 0) + 0) + 112) + 336) + 336 ≤ 711450; omega), (by show ((((slots + 0) + 0) + 30100) + 2688) + 2688 ≤ 6967421; omega)⟩ (fun v G1 H locs hw hP hS => ?_)
      obtain ⟨rfl, hG9⟩ := hw
      rw [hG9] at hP
      refine W.eq (g2 := F0 m 197 ls [.int 1]) rfl ?_
      refine lv_if_eq (tgt := 204) hK.1.1 hK.1.2.1 dL_law_197 (by decide) (fun c => absurd c (by decide)) (fun _ => ?_)
      refine lv_iconst (v := 1) hK.1.1 hK.1.2.1 dL_law_200 (by decide) ?_
      refine lv_goto (tgt := 205) hK.1.1 hK.1.2.1 dL_law_201 (by decide) ?_
      refine lv_istore (lv' := [(6, .int 1), (7, .int (nI N)), (0, .ref sc), (1, .ref (ly_a y 0)), (2, .ref (ly_a (ly_sw y) 0)), (3, .ref ar), (4, .ref af), (5, .ref ac)]) hK.1.1 hK.1.2.1 dL_law_205 hl (by decide) rfl (fun ls hl => ?_)
      refine lv_iinc (v := nI (N + 1)) (lv' := [(7, .int (nI (N + 1))), (6, .int 1), (0, .ref sc), (1, .ref (ly_a y 0)), (2, .ref (ly_a (ly_sw y) 0)), (3, .ref ar), (4, .ref af), (5, .ref ac)]) hK.1.1 hK.1.2.1 dL_law_207 hl (k := 1) rfl (nI_1 N) (by decide) rfl (fun ls hl => ?_)
      refine lv_goto (tgt := 121) hK.1.1 hK.1.2.1 dL_law_210 (by decide) ?_
      refine W.widen (show (((((cells + 0) + 0) + 112) + 336) + 336) ≤ cells + 800 by omega) (show (((((slots + 0) + 0) + 30100) + 2688) + 2688) ≤ slots + 36000 by omega) ?_
      exact ih (N + 1) ls _ _ _ (cells + 800) (slots + 36000) (by omega) (by omega) (by omega) hP hS hJ (lv_sub hl [0, 1, 2, 3, 4, 5, 6, 7] rfl)
set_option maxHeartbeats 4000000 in
set_option maxRecDepth 100000 in
theorem lw_entry2 {p : Program} {l : Launch} {e : Env} {s : State} {m : MethodId} {args : Array Value} {below : List Frame} {meth : Method} {c : Code} {Q : State → Prop} {y : ly_T} {A : Nat → Prop} {sc n9 : Nat} {sf : Nat → Int32} (hfl : l.stackTraces = false) (hK : gk_K p s m c args cL_law RL 8 y A) (hX : va_X sc n9 sf s s.heap) (hbl : sc < s.heap.size) (hbA : ¬ A sc) (hn9 : n9 ≤ 260) (kk : ∀ (ls : Array Slot) (H : Heap) (locs : List Loc), va_S A s.heap H locs → lv_has ls 8 [(6, .int 1)] → W p l e { frames := 15, cells := 711450, slots := 6967421, locals := 630 } s m args below meth c H locs 711450 6967421 Q (F0 m 213 ls [])) {ts us : List Nat} (h5 : ts.length = 5) (hn : ts.Nodup) (g5 : us.length = 5) (gn : us.Nodup) {ls : Array Slot} {H : Heap} {locs : List Loc} {G : gk_G} (hW : lw y G 0 st_ru (fun _ => 0) (fun _ => none) (st_S ts) (fun _ => none) 0 st_ru (fun _ => 0) (fun _ => none) (st_S us) (fun _ => none) []) (hP : gk_P (ly_D y) A G H) (hS : va_S A s.heap H locs) (hl : lv_has ls 8 [(2, .ref (ly_a (ly_sw y) 0)), (1, .ref (ly_a y 0)), (0, .ref sc)]) : W p l e { frames := 15, cells := 711450, slots := 6967421, locals := 630 } s m args below meth c H locs 52 238 Q (F0 m 16 ls []) := by
  have hI0 := st_iv h5 hn
  have hN0 : 0 ≤ 111 := Nat.zero_le _
  refine lv_bipush (v := 27) hK.1.1 hK.1.2.1 dL_law_16 (by decide) ?_
  refine gk_newa hK.1 hK.2.2.1.1 hP hS hK.2.2.2 (atype := .int) q_1_3 rfl 0 (ty := .int) rfl (a0 := (27, .inl (fun _ => 0))) (fun _ => rfl) (by decide) (by decide) (by decide) (Nat.le_of_ble_eq_true rfl) (Nat.le_of_ble_eq_true rfl) dL_law_18 (fun q_1 H hn_2 hP hS => ?_)
  have hW : lw y (gk_up G q_1 (rp_i (ly_k y 0) 27 (fun _ => 0))) 0 st_ru (fun _ => 0) (fun _ => none) (st_S ts) (fun _ => none) 0 st_ru (fun _ => 0) (fun _ => none) (st_S us) (fun _ => none) [(q_1, 27, (fun _ => 0))] := lw_new hW hn_2 27 (fun _ => 0)
  obtain ⟨G_3, hG_3⟩ : ∃ z, z = gk_up G q_1 (rp_i (ly_k y 0) 27 (fun _ => 0)) := ⟨_, rfl⟩
  have hP : gk_P (ly_D y) A G_3 H := by rw [hG_3]; exact hP
  have hW : lw y G_3 0 st_ru (fun _ => 0) (fun _ => none) (st_S ts) (fun _ => none) 0 st_ru (fun _ => 0) (fun _ => none) (st_S us) (fun _ => none) [(q_1, 27, (fun _ => 0))] := by rw [hG_3]; exact hW
  refine lv_astore_n (lv' := [(3, .ref q_1), (2, .ref (ly_a (ly_sw y) 0)), (1, .ref (ly_a y 0)), (0, .ref sc)]) hK.1.1 hK.1.2.1 dL_law_20 rfl hl (by decide) rfl (fun ls hl => ?_)
  refine lv_bipush (v := 20) hK.1.1 hK.1.2.1 dL_law_21 (by decide) ?_
  refine gk_newa hK.1 hK.2.2.1.1 hP hS hK.2.2.2 (atype := .int) q_1_3 rfl 0 (ty := .int) rfl (a0 := (20, .inl (fun _ => 0))) (fun _ => rfl) (by decide) (by decide) (by decide) (Nat.le_of_ble_eq_true rfl) (Nat.le_of_ble_eq_true rfl) dL_law_23 (fun q_4 H hn_5 hP hS => ?_)
  have hW : lw y (gk_up G_3 q_4 (rp_i (ly_k y 0) 20 (fun _ => 0))) 0 st_ru (fun _ => 0) (fun _ => none) (st_S ts) (fun _ => none) 0 st_ru (fun _ => 0) (fun _ => none) (st_S us) (fun _ => none) [(q_4, 20, (fun _ => 0)), (q_1, 27, (fun _ => 0))] := lw_new hW hn_5 20 (fun _ => 0)
  obtain ⟨G_6, hG_6⟩ : ∃ z, z = gk_up G_3 q_4 (rp_i (ly_k y 0) 20 (fun _ => 0)) := ⟨_, rfl⟩
  have hP : gk_P (ly_D y) A G_6 H := by rw [hG_6]; exact hP
  have hW : lw y G_6 0 st_ru (fun _ => 0) (fun _ => none) (st_S ts) (fun _ => none) 0 st_ru (fun _ => 0) (fun _ => none) (st_S us) (fun _ => none) [(q_4, 20, (fun _ => 0)), (q_1, 27, (fun _ => 0))] := by rw [hG_6]; exact hW
  refine lv_astore (lv' := [(4, .ref q_4), (3, .ref q_1), (2, .ref (ly_a (ly_sw y) 0)), (1, .ref (ly_a y 0)), (0, .ref sc)]) hK.1.1 hK.1.2.1 dL_law_25 hl (by decide) rfl (fun ls hl => ?_)
  refine lv_iconst (v := 1) hK.1.1 hK.1.2.1 dL_law_27 (by decide) ?_
  refine gk_newa hK.1 hK.2.2.1.1 hP hS hK.2.2.2 (atype := .int) q_1_3 rfl 0 (ty := .int) rfl (a0 := (1, .inl (fun _ => 0))) (fun _ => rfl) (by decide) (by decide) (by decide) (Nat.le_of_ble_eq_true rfl) (Nat.le_of_ble_eq_true rfl) dL_law_28 (fun q_7 H hn_8 hP hS => ?_)
  have hW : lw y (gk_up G_6 q_7 (rp_i (ly_k y 0) 1 (fun _ => 0))) 0 st_ru (fun _ => 0) (fun _ => none) (st_S ts) (fun _ => none) 0 st_ru (fun _ => 0) (fun _ => none) (st_S us) (fun _ => none) [(q_7, 1, (fun _ => 0)), (q_4, 20, (fun _ => 0)), (q_1, 27, (fun _ => 0))] := lw_new hW hn_8 1 (fun _ => 0)
  obtain ⟨G_9, hG_9⟩ : ∃ z, z = gk_up G_6 q_7 (rp_i (ly_k y 0) 1 (fun _ => 0)) := ⟨_, rfl⟩
  have hP : gk_P (ly_D y) A G_9 H := by rw [hG_9]; exact hP
  have hW : lw y G_9 0 st_ru (fun _ => 0) (fun _ => none) (st_S ts) (fun _ => none) 0 st_ru (fun _ => 0) (fun _ => none) (st_S us) (fun _ => none) [(q_7, 1, (fun _ => 0)), (q_4, 20, (fun _ => 0)), (q_1, 27, (fun _ => 0))] := by rw [hG_9]; exact hW
  refine lv_astore (lv' := [(5, .ref q_7), (4, .ref q_4), (3, .ref q_1), (2, .ref (ly_a (ly_sw y) 0)), (1, .ref (ly_a y 0)), (0, .ref sc)]) hK.1.1 hK.1.2.1 dL_law_30 hl (by decide) rfl (fun ls hl => ?_)
  refine lv_iconst (v := 0) hK.1.1 hK.1.2.1 dL_law_32 (by decide) ?_
  refine lv_istore (lv' := [(6, .int 0), (5, .ref q_7), (4, .ref q_4), (3, .ref q_1), (2, .ref (ly_a (ly_sw y) 0)), (1, .ref (ly_a y 0)), (0, .ref sc)]) hK.1.1 hK.1.2.1 dL_law_33 hl (by decide) rfl (fun ls hl => ?_)
  refine lv_iload hK.1.1 hK.1.2.1 dL_law_35 (lv_at hl 0 rfl) ?_
  refine lv_iconst (v := 3) hK.1.1 hK.1.2.1 dL_law_37 (by decide) ?_
  refine lv_icmp_ge (tgt := 77) hK.1.1 hK.1.2.1 dL_law_38 (by decide) (fun c => absurd c (by decide)) (fun _ => ?_)
  refine lv_aload_n hK.1.1 hK.1.2.1 dL_law_41 rfl (lv_at hl 3 rfl) ?_
  refine lv_bipush (v := 9) hK.1.1 hK.1.2.1 dL_law_42 (by decide) ?_
  refine lv_iload hK.1.1 hK.1.2.1 dL_law_44 (lv_at hl 0 rfl) ?_
  refine lv_imul hK.1.1 hK.1.2.1 dL_law_46 ?_
  refine W.eq (g2 := F0 m 47 ls [.int (nI (9 * 0)), .ref q_1]) (by rw [show 9 * 0 = nI (9 * 0) from pk_mul _ _]) ?_
  refine lv_iconst (v := 1) hK.1.1 hK.1.2.1 dL_law_47 (by decide) ?_
  refine lv_iadd hK.1.1 hK.1.2.1 dL_law_48 ?_
  refine W.eq (g2 := F0 m 49 ls [.int (nI ((9 * 0) + 1)), .ref q_1]) (by rw [show (nI (9 * 0)) + 1 = nI ((9 * 0) + 1) from nI_add _ _]) ?_
  refine lv_iconst (v := (-1)) hK.1.1 hK.1.2.1 dL_law_49 (by decide) ?_
  refine gk_iast hK.1 hK.2.2.1.1 hP hS 0 (lw_get hW (k := 2) rfl) rfl (i := nI ((9 * 0) + 1)) (vp_in_nI (n := (9 * 0) + 1) (N := 27) (by omega) (by decide)) dL_law_50 (fun H locs hP hS => ?_)
  rw [show (nI ((9 * 0) + 1) : Int32).toNatClampNeg = (9 * 0) + 1 from nI_clamp (n := (9 * 0) + 1) (by omega)] at hP
  obtain ⟨g_10, hg_10⟩ : ∃ z, z = upd (fun _ => 0) ((9 * 0) + 1) (-1) := ⟨_, rfl⟩
  have hW : lw y (gk_up G_9 q_1 (rp_i (ly_k y 0) 27 g_10)) 0 st_ru (fun _ => 0) (fun _ => none) (st_S ts) (fun _ => none) 0 st_ru (fun _ => 0) (fun _ => none) (st_S us) (fun _ => none) [(q_7, 1, (fun _ => 0)), (q_4, 20, (fun _ => 0)), (q_1, 27, g_10)] := lw_set hW (k := 2) rfl g_10
  have hP : gk_P (ly_D y) A (gk_up G_9 q_1 (rp_i (ly_k y 0) 27 g_10)) H := by rw [hg_10]; exact hP
  obtain ⟨G_11, hG_11⟩ : ∃ z, z = gk_up G_9 q_1 (rp_i (ly_k y 0) 27 g_10) := ⟨_, rfl⟩
  have hP : gk_P (ly_D y) A G_11 H := by rw [hG_11]; exact hP
  have hW : lw y G_11 0 st_ru (fun _ => 0) (fun _ => none) (st_S ts) (fun _ => none) 0 st_ru (fun _ => 0) (fun _ => none) (st_S us) (fun _ => none) [(q_7, 1, (fun _ => 0)), (q_4, 20, (fun _ => 0)), (q_1, 27, g_10)] := by rw [hG_11]; exact hW
  refine lv_aload_n hK.1.1 hK.1.2.1 dL_law_51 rfl (lv_at hl 3 rfl) ?_
  refine lv_bipush (v := 9) hK.1.1 hK.1.2.1 dL_law_52 (by decide) ?_
  refine lv_iload hK.1.1 hK.1.2.1 dL_law_54 (lv_at hl 0 rfl) ?_
  refine lv_imul hK.1.1 hK.1.2.1 dL_law_56 ?_
  refine W.eq (g2 := F0 m 57 ls [.int (nI (9 * 0)), .ref q_1]) (by rw [show 9 * 0 = nI (9 * 0) from pk_mul _ _]) ?_
  refine lv_iconst (v := 2) hK.1.1 hK.1.2.1 dL_law_57 (by decide) ?_
  refine lv_iadd hK.1.1 hK.1.2.1 dL_law_58 ?_
  refine W.eq (g2 := F0 m 59 ls [.int (nI ((9 * 0) + 2)), .ref q_1]) (by rw [show (nI (9 * 0)) + 2 = nI ((9 * 0) + 2) from nI_add _ _]) ?_
  refine lv_iconst (v := (-1)) hK.1.1 hK.1.2.1 dL_law_59 (by decide) ?_
  refine gk_iast hK.1 hK.2.2.1.1 hP hS 0 (lw_get hW (k := 2) rfl) rfl (i := nI ((9 * 0) + 2)) (vp_in_nI (n := (9 * 0) + 2) (N := 27) (by omega) (by decide)) dL_law_60 (fun H locs hP hS => ?_)
  rw [show (nI ((9 * 0) + 2) : Int32).toNatClampNeg = (9 * 0) + 2 from nI_clamp (n := (9 * 0) + 2) (by omega)] at hP
  obtain ⟨g_12, hg_12⟩ : ∃ z, z = upd g_10 ((9 * 0) + 2) (-1) := ⟨_, rfl⟩
  have hW : lw y (gk_up G_11 q_1 (rp_i (ly_k y 0) 27 g_12)) 0 st_ru (fun _ => 0) (fun _ => none) (st_S ts) (fun _ => none) 0 st_ru (fun _ => 0) (fun _ => none) (st_S us) (fun _ => none) [(q_7, 1, (fun _ => 0)), (q_4, 20, (fun _ => 0)), (q_1, 27, g_12)] := lw_set hW (k := 2) rfl g_12
  have hP : gk_P (ly_D y) A (gk_up G_11 q_1 (rp_i (ly_k y 0) 27 g_12)) H := by rw [hg_12]; exact hP
  obtain ⟨G_13, hG_13⟩ : ∃ z, z = gk_up G_11 q_1 (rp_i (ly_k y 0) 27 g_12) := ⟨_, rfl⟩
  have hP : gk_P (ly_D y) A G_13 H := by rw [hG_13]; exact hP
  have hW : lw y G_13 0 st_ru (fun _ => 0) (fun _ => none) (st_S ts) (fun _ => none) 0 st_ru (fun _ => 0) (fun _ => none) (st_S us) (fun _ => none) [(q_7, 1, (fun _ => 0)), (q_4, 20, (fun _ => 0)), (q_1, 27, g_12)] := by rw [hG_13]; exact hW
  refine lv_aload_n hK.1.1 hK.1.2.1 dL_law_61 rfl (lv_at hl 3 rfl) ?_
  refine lv_bipush (v := 9) hK.1.1 hK.1.2.1 dL_law_62 (by decide) ?_
  refine lv_iload hK.1.1 hK.1.2.1 dL_law_64 (lv_at hl 0 rfl) ?_
  refine lv_imul hK.1.1 hK.1.2.1 dL_law_66 ?_
  refine W.eq (g2 := F0 m 67 ls [.int (nI (9 * 0)), .ref q_1]) (by rw [show 9 * 0 = nI (9 * 0) from pk_mul _ _]) ?_
  refine lv_iconst (v := 4) hK.1.1 hK.1.2.1 dL_law_67 (by decide) ?_
  refine lv_iadd hK.1.1 hK.1.2.1 dL_law_68 ?_
  refine W.eq (g2 := F0 m 69 ls [.int (nI ((9 * 0) + 4)), .ref q_1]) (by rw [show (nI (9 * 0)) + 4 = nI ((9 * 0) + 4) from nI_add _ _]) ?_
  refine lv_iconst (v := 3) hK.1.1 hK.1.2.1 dL_law_69 (by decide) ?_
  refine gk_iast hK.1 hK.2.2.1.1 hP hS 0 (lw_get hW (k := 2) rfl) rfl (i := nI ((9 * 0) + 4)) (vp_in_nI (n := (9 * 0) + 4) (N := 27) (by omega) (by decide)) dL_law_70 (fun H locs hP hS => ?_)
  rw [show (nI ((9 * 0) + 4) : Int32).toNatClampNeg = (9 * 0) + 4 from nI_clamp (n := (9 * 0) + 4) (by omega)] at hP
  obtain ⟨g_14, hg_14⟩ : ∃ z, z = upd g_12 ((9 * 0) + 4) 3 := ⟨_, rfl⟩
  have hW : lw y (gk_up G_13 q_1 (rp_i (ly_k y 0) 27 g_14)) 0 st_ru (fun _ => 0) (fun _ => none) (st_S ts) (fun _ => none) 0 st_ru (fun _ => 0) (fun _ => none) (st_S us) (fun _ => none) [(q_7, 1, (fun _ => 0)), (q_4, 20, (fun _ => 0)), (q_1, 27, g_14)] := lw_set hW (k := 2) rfl g_14
  have hP : gk_P (ly_D y) A (gk_up G_13 q_1 (rp_i (ly_k y 0) 27 g_14)) H := by rw [hg_14]; exact hP
  obtain ⟨G_15, hG_15⟩ : ∃ z, z = gk_up G_13 q_1 (rp_i (ly_k y 0) 27 g_14) := ⟨_, rfl⟩
  have hP : gk_P (ly_D y) A G_15 H := by rw [hG_15]; exact hP
  have hW : lw y G_15 0 st_ru (fun _ => 0) (fun _ => none) (st_S ts) (fun _ => none) 0 st_ru (fun _ => 0) (fun _ => none) (st_S us) (fun _ => none) [(q_7, 1, (fun _ => 0)), (q_4, 20, (fun _ => 0)), (q_1, 27, g_14)] := by rw [hG_15]; exact hW
  refine lv_iinc (v := 1) (lv' := [(6, .int 1), (5, .ref q_7), (4, .ref q_4), (3, .ref q_1), (2, .ref (ly_a (ly_sw y) 0)), (1, .ref (ly_a y 0)), (0, .ref sc)]) hK.1.1 hK.1.2.1 dL_law_71 hl (k := 0) rfl (by decide) (by decide) rfl (fun ls hl => ?_)
  refine lv_goto (tgt := 35) hK.1.1 hK.1.2.1 dL_law_74 (by decide) ?_
  refine lv_iload hK.1.1 hK.1.2.1 dL_law_35 (lv_at hl 0 rfl) ?_
  refine lv_iconst (v := 3) hK.1.1 hK.1.2.1 dL_law_37 (by decide) ?_
  refine lv_icmp_ge (tgt := 77) hK.1.1 hK.1.2.1 dL_law_38 (by decide) (fun c => absurd c (by decide)) (fun _ => ?_)
  refine lv_aload_n hK.1.1 hK.1.2.1 dL_law_41 rfl (lv_at hl 3 rfl) ?_
  refine lv_bipush (v := 9) hK.1.1 hK.1.2.1 dL_law_42 (by decide) ?_
  refine lv_iload hK.1.1 hK.1.2.1 dL_law_44 (lv_at hl 0 rfl) ?_
  refine lv_imul hK.1.1 hK.1.2.1 dL_law_46 ?_
  refine W.eq (g2 := F0 m 47 ls [.int (nI (9 * 1)), .ref q_1]) (by rw [show 9 * 1 = nI (9 * 1) from pk_mul _ _]) ?_
  refine lv_iconst (v := 1) hK.1.1 hK.1.2.1 dL_law_47 (by decide) ?_
  refine lv_iadd hK.1.1 hK.1.2.1 dL_law_48 ?_
  refine W.eq (g2 := F0 m 49 ls [.int (nI ((9 * 1) + 1)), .ref q_1]) (by rw [show (nI (9 * 1)) + 1 = nI ((9 * 1) + 1) from nI_add _ _]) ?_
  refine lv_iconst (v := (-1)) hK.1.1 hK.1.2.1 dL_law_49 (by decide) ?_
  refine gk_iast hK.1 hK.2.2.1.1 hP hS 0 (lw_get hW (k := 2) rfl) rfl (i := nI ((9 * 1) + 1)) (vp_in_nI (n := (9 * 1) + 1) (N := 27) (by omega) (by decide)) dL_law_50 (fun H locs hP hS => ?_)
  rw [show (nI ((9 * 1) + 1) : Int32).toNatClampNeg = (9 * 1) + 1 from nI_clamp (n := (9 * 1) + 1) (by omega)] at hP
  obtain ⟨g_16, hg_16⟩ : ∃ z, z = upd g_14 ((9 * 1) + 1) (-1) := ⟨_, rfl⟩
  have hW : lw y (gk_up G_15 q_1 (rp_i (ly_k y 0) 27 g_16)) 0 st_ru (fun _ => 0) (fun _ => none) (st_S ts) (fun _ => none) 0 st_ru (fun _ => 0) (fun _ => none) (st_S us) (fun _ => none) [(q_7, 1, (fun _ => 0)), (q_4, 20, (fun _ => 0)), (q_1, 27, g_16)] := lw_set hW (k := 2) rfl g_16
  have hP : gk_P (ly_D y) A (gk_up G_15 q_1 (rp_i (ly_k y 0) 27 g_16)) H := by rw [hg_16]; exact hP
  obtain ⟨G_17, hG_17⟩ : ∃ z, z = gk_up G_15 q_1 (rp_i (ly_k y 0) 27 g_16) := ⟨_, rfl⟩
  have hP : gk_P (ly_D y) A G_17 H := by rw [hG_17]; exact hP
  have hW : lw y G_17 0 st_ru (fun _ => 0) (fun _ => none) (st_S ts) (fun _ => none) 0 st_ru (fun _ => 0) (fun _ => none) (st_S us) (fun _ => none) [(q_7, 1, (fun _ => 0)), (q_4, 20, (fun _ => 0)), (q_1, 27, g_16)] := by rw [hG_17]; exact hW
  refine lv_aload_n hK.1.1 hK.1.2.1 dL_law_51 rfl (lv_at hl 3 rfl) ?_
  refine lv_bipush (v := 9) hK.1.1 hK.1.2.1 dL_law_52 (by decide) ?_
  refine lv_iload hK.1.1 hK.1.2.1 dL_law_54 (lv_at hl 0 rfl) ?_
  refine lv_imul hK.1.1 hK.1.2.1 dL_law_56 ?_
  refine W.eq (g2 := F0 m 57 ls [.int (nI (9 * 1)), .ref q_1]) (by rw [show 9 * 1 = nI (9 * 1) from pk_mul _ _]) ?_
  refine lv_iconst (v := 2) hK.1.1 hK.1.2.1 dL_law_57 (by decide) ?_
  refine lv_iadd hK.1.1 hK.1.2.1 dL_law_58 ?_
  refine W.eq (g2 := F0 m 59 ls [.int (nI ((9 * 1) + 2)), .ref q_1]) (by rw [show (nI (9 * 1)) + 2 = nI ((9 * 1) + 2) from nI_add _ _]) ?_
  refine lv_iconst (v := (-1)) hK.1.1 hK.1.2.1 dL_law_59 (by decide) ?_
  refine gk_iast hK.1 hK.2.2.1.1 hP hS 0 (lw_get hW (k := 2) rfl) rfl (i := nI ((9 * 1) + 2)) (vp_in_nI (n := (9 * 1) + 2) (N := 27) (by omega) (by decide)) dL_law_60 (fun H locs hP hS => ?_)
  rw [show (nI ((9 * 1) + 2) : Int32).toNatClampNeg = (9 * 1) + 2 from nI_clamp (n := (9 * 1) + 2) (by omega)] at hP
  obtain ⟨g_18, hg_18⟩ : ∃ z, z = upd g_16 ((9 * 1) + 2) (-1) := ⟨_, rfl⟩
  have hW : lw y (gk_up G_17 q_1 (rp_i (ly_k y 0) 27 g_18)) 0 st_ru (fun _ => 0) (fun _ => none) (st_S ts) (fun _ => none) 0 st_ru (fun _ => 0) (fun _ => none) (st_S us) (fun _ => none) [(q_7, 1, (fun _ => 0)), (q_4, 20, (fun _ => 0)), (q_1, 27, g_18)] := lw_set hW (k := 2) rfl g_18
  have hP : gk_P (ly_D y) A (gk_up G_17 q_1 (rp_i (ly_k y 0) 27 g_18)) H := by rw [hg_18]; exact hP
  obtain ⟨G_19, hG_19⟩ : ∃ z, z = gk_up G_17 q_1 (rp_i (ly_k y 0) 27 g_18) := ⟨_, rfl⟩
  have hP : gk_P (ly_D y) A G_19 H := by rw [hG_19]; exact hP
  have hW : lw y G_19 0 st_ru (fun _ => 0) (fun _ => none) (st_S ts) (fun _ => none) 0 st_ru (fun _ => 0) (fun _ => none) (st_S us) (fun _ => none) [(q_7, 1, (fun _ => 0)), (q_4, 20, (fun _ => 0)), (q_1, 27, g_18)] := by rw [hG_19]; exact hW
  refine lv_aload_n hK.1.1 hK.1.2.1 dL_law_61 rfl (lv_at hl 3 rfl) ?_
  refine lv_bipush (v := 9) hK.1.1 hK.1.2.1 dL_law_62 (by decide) ?_
  refine lv_iload hK.1.1 hK.1.2.1 dL_law_64 (lv_at hl 0 rfl) ?_
  refine lv_imul hK.1.1 hK.1.2.1 dL_law_66 ?_
  refine W.eq (g2 := F0 m 67 ls [.int (nI (9 * 1)), .ref q_1]) (by rw [show 9 * 1 = nI (9 * 1) from pk_mul _ _]) ?_
  refine lv_iconst (v := 4) hK.1.1 hK.1.2.1 dL_law_67 (by decide) ?_
  refine lv_iadd hK.1.1 hK.1.2.1 dL_law_68 ?_
  refine W.eq (g2 := F0 m 69 ls [.int (nI ((9 * 1) + 4)), .ref q_1]) (by rw [show (nI (9 * 1)) + 4 = nI ((9 * 1) + 4) from nI_add _ _]) ?_
  refine lv_iconst (v := 3) hK.1.1 hK.1.2.1 dL_law_69 (by decide) ?_
  refine gk_iast hK.1 hK.2.2.1.1 hP hS 0 (lw_get hW (k := 2) rfl) rfl (i := nI ((9 * 1) + 4)) (vp_in_nI (n := (9 * 1) + 4) (N := 27) (by omega) (by decide)) dL_law_70 (fun H locs hP hS => ?_)
  rw [show (nI ((9 * 1) + 4) : Int32).toNatClampNeg = (9 * 1) + 4 from nI_clamp (n := (9 * 1) + 4) (by omega)] at hP
  obtain ⟨g_20, hg_20⟩ : ∃ z, z = upd g_18 ((9 * 1) + 4) 3 := ⟨_, rfl⟩
  have hW : lw y (gk_up G_19 q_1 (rp_i (ly_k y 0) 27 g_20)) 0 st_ru (fun _ => 0) (fun _ => none) (st_S ts) (fun _ => none) 0 st_ru (fun _ => 0) (fun _ => none) (st_S us) (fun _ => none) [(q_7, 1, (fun _ => 0)), (q_4, 20, (fun _ => 0)), (q_1, 27, g_20)] := lw_set hW (k := 2) rfl g_20
  have hP : gk_P (ly_D y) A (gk_up G_19 q_1 (rp_i (ly_k y 0) 27 g_20)) H := by rw [hg_20]; exact hP
  obtain ⟨G_21, hG_21⟩ : ∃ z, z = gk_up G_19 q_1 (rp_i (ly_k y 0) 27 g_20) := ⟨_, rfl⟩
  have hP : gk_P (ly_D y) A G_21 H := by rw [hG_21]; exact hP
  have hW : lw y G_21 0 st_ru (fun _ => 0) (fun _ => none) (st_S ts) (fun _ => none) 0 st_ru (fun _ => 0) (fun _ => none) (st_S us) (fun _ => none) [(q_7, 1, (fun _ => 0)), (q_4, 20, (fun _ => 0)), (q_1, 27, g_20)] := by rw [hG_21]; exact hW
  refine lv_iinc (v := 2) (lv' := [(6, .int 2), (5, .ref q_7), (4, .ref q_4), (3, .ref q_1), (2, .ref (ly_a (ly_sw y) 0)), (1, .ref (ly_a y 0)), (0, .ref sc)]) hK.1.1 hK.1.2.1 dL_law_71 hl (k := 0) rfl (by decide) (by decide) rfl (fun ls hl => ?_)
  refine lv_goto (tgt := 35) hK.1.1 hK.1.2.1 dL_law_74 (by decide) ?_
  refine lv_iload hK.1.1 hK.1.2.1 dL_law_35 (lv_at hl 0 rfl) ?_
  refine lv_iconst (v := 3) hK.1.1 hK.1.2.1 dL_law_37 (by decide) ?_
  refine lv_icmp_ge (tgt := 77) hK.1.1 hK.1.2.1 dL_law_38 (by decide) (fun c => absurd c (by decide)) (fun _ => ?_)
  refine lv_aload_n hK.1.1 hK.1.2.1 dL_law_41 rfl (lv_at hl 3 rfl) ?_
  refine lv_bipush (v := 9) hK.1.1 hK.1.2.1 dL_law_42 (by decide) ?_
  refine lv_iload hK.1.1 hK.1.2.1 dL_law_44 (lv_at hl 0 rfl) ?_
  refine lv_imul hK.1.1 hK.1.2.1 dL_law_46 ?_
  refine W.eq (g2 := F0 m 47 ls [.int (nI (9 * 2)), .ref q_1]) (by rw [show 9 * 2 = nI (9 * 2) from pk_mul _ _]) ?_
  refine lv_iconst (v := 1) hK.1.1 hK.1.2.1 dL_law_47 (by decide) ?_
  refine lv_iadd hK.1.1 hK.1.2.1 dL_law_48 ?_
  refine W.eq (g2 := F0 m 49 ls [.int (nI ((9 * 2) + 1)), .ref q_1]) (by rw [show (nI (9 * 2)) + 1 = nI ((9 * 2) + 1) from nI_add _ _]) ?_
  refine lv_iconst (v := (-1)) hK.1.1 hK.1.2.1 dL_law_49 (by decide) ?_
  refine gk_iast hK.1 hK.2.2.1.1 hP hS 0 (lw_get hW (k := 2) rfl) rfl (i := nI ((9 * 2) + 1)) (vp_in_nI (n := (9 * 2) + 1) (N := 27) (by omega) (by decide)) dL_law_50 (fun H locs hP hS => ?_)
  rw [show (nI ((9 * 2) + 1) : Int32).toNatClampNeg = (9 * 2) + 1 from nI_clamp (n := (9 * 2) + 1) (by omega)] at hP
  obtain ⟨g_22, hg_22⟩ : ∃ z, z = upd g_20 ((9 * 2) + 1) (-1) := ⟨_, rfl⟩
  have hW : lw y (gk_up G_21 q_1 (rp_i (ly_k y 0) 27 g_22)) 0 st_ru (fun _ => 0) (fun _ => none) (st_S ts) (fun _ => none) 0 st_ru (fun _ => 0) (fun _ => none) (st_S us) (fun _ => none) [(q_7, 1, (fun _ => 0)), (q_4, 20, (fun _ => 0)), (q_1, 27, g_22)] := lw_set hW (k := 2) rfl g_22
  have hP : gk_P (ly_D y) A (gk_up G_21 q_1 (rp_i (ly_k y 0) 27 g_22)) H := by rw [hg_22]; exact hP
  obtain ⟨G_23, hG_23⟩ : ∃ z, z = gk_up G_21 q_1 (rp_i (ly_k y 0) 27 g_22) := ⟨_, rfl⟩
  have hP : gk_P (ly_D y) A G_23 H := by rw [hG_23]; exact hP
  have hW : lw y G_23 0 st_ru (fun _ => 0) (fun _ => none) (st_S ts) (fun _ => none) 0 st_ru (fun _ => 0) (fun _ => none) (st_S us) (fun _ => none) [(q_7, 1, (fun _ => 0)), (q_4, 20, (fun _ => 0)), (q_1, 27, g_22)] := by rw [hG_23]; exact hW
  refine lv_aload_n hK.1.1 hK.1.2.1 dL_law_51 rfl (lv_at hl 3 rfl) ?_
  refine lv_bipush (v := 9) hK.1.1 hK.1.2.1 dL_law_52 (by decide) ?_
  refine lv_iload hK.1.1 hK.1.2.1 dL_law_54 (lv_at hl 0 rfl) ?_
  refine lv_imul hK.1.1 hK.1.2.1 dL_law_56 ?_
  refine W.eq (g2 := F0 m 57 ls [.int (nI (9 * 2)), .ref q_1]) (by rw [show 9 * 2 = nI (9 * 2) from pk_mul _ _]) ?_
  refine lv_iconst (v := 2) hK.1.1 hK.1.2.1 dL_law_57 (by decide) ?_
  refine lv_iadd hK.1.1 hK.1.2.1 dL_law_58 ?_
  refine W.eq (g2 := F0 m 59 ls [.int (nI ((9 * 2) + 2)), .ref q_1]) (by rw [show (nI (9 * 2)) + 2 = nI ((9 * 2) + 2) from nI_add _ _]) ?_
  refine lv_iconst (v := (-1)) hK.1.1 hK.1.2.1 dL_law_59 (by decide) ?_
  refine gk_iast hK.1 hK.2.2.1.1 hP hS 0 (lw_get hW (k := 2) rfl) rfl (i := nI ((9 * 2) + 2)) (vp_in_nI (n := (9 * 2) + 2) (N := 27) (by omega) (by decide)) dL_law_60 (fun H locs hP hS => ?_)
  rw [show (nI ((9 * 2) + 2) : Int32).toNatClampNeg = (9 * 2) + 2 from nI_clamp (n := (9 * 2) + 2) (by omega)] at hP
  obtain ⟨g_24, hg_24⟩ : ∃ z, z = upd g_22 ((9 * 2) + 2) (-1) := ⟨_, rfl⟩
  have hW : lw y (gk_up G_23 q_1 (rp_i (ly_k y 0) 27 g_24)) 0 st_ru (fun _ => 0) (fun _ => none) (st_S ts) (fun _ => none) 0 st_ru (fun _ => 0) (fun _ => none) (st_S us) (fun _ => none) [(q_7, 1, (fun _ => 0)), (q_4, 20, (fun _ => 0)), (q_1, 27, g_24)] := lw_set hW (k := 2) rfl g_24
  have hP : gk_P (ly_D y) A (gk_up G_23 q_1 (rp_i (ly_k y 0) 27 g_24)) H := by rw [hg_24]; exact hP
  obtain ⟨G_25, hG_25⟩ : ∃ z, z = gk_up G_23 q_1 (rp_i (ly_k y 0) 27 g_24) := ⟨_, rfl⟩
  have hP : gk_P (ly_D y) A G_25 H := by rw [hG_25]; exact hP
  have hW : lw y G_25 0 st_ru (fun _ => 0) (fun _ => none) (st_S ts) (fun _ => none) 0 st_ru (fun _ => 0) (fun _ => none) (st_S us) (fun _ => none) [(q_7, 1, (fun _ => 0)), (q_4, 20, (fun _ => 0)), (q_1, 27, g_24)] := by rw [hG_25]; exact hW
  refine lv_aload_n hK.1.1 hK.1.2.1 dL_law_61 rfl (lv_at hl 3 rfl) ?_
  refine lv_bipush (v := 9) hK.1.1 hK.1.2.1 dL_law_62 (by decide) ?_
  refine lv_iload hK.1.1 hK.1.2.1 dL_law_64 (lv_at hl 0 rfl) ?_
  refine lv_imul hK.1.1 hK.1.2.1 dL_law_66 ?_
  refine W.eq (g2 := F0 m 67 ls [.int (nI (9 * 2)), .ref q_1]) (by rw [show 9 * 2 = nI (9 * 2) from pk_mul _ _]) ?_
  refine lv_iconst (v := 4) hK.1.1 hK.1.2.1 dL_law_67 (by decide) ?_
  refine lv_iadd hK.1.1 hK.1.2.1 dL_law_68 ?_
  refine W.eq (g2 := F0 m 69 ls [.int (nI ((9 * 2) + 4)), .ref q_1]) (by rw [show (nI (9 * 2)) + 4 = nI ((9 * 2) + 4) from nI_add _ _]) ?_
  refine lv_iconst (v := 3) hK.1.1 hK.1.2.1 dL_law_69 (by decide) ?_
  refine gk_iast hK.1 hK.2.2.1.1 hP hS 0 (lw_get hW (k := 2) rfl) rfl (i := nI ((9 * 2) + 4)) (vp_in_nI (n := (9 * 2) + 4) (N := 27) (by omega) (by decide)) dL_law_70 (fun H locs hP hS => ?_)
  rw [show (nI ((9 * 2) + 4) : Int32).toNatClampNeg = (9 * 2) + 4 from nI_clamp (n := (9 * 2) + 4) (by omega)] at hP
  obtain ⟨g_26, hg_26⟩ : ∃ z, z = upd g_24 ((9 * 2) + 4) 3 := ⟨_, rfl⟩
  have hW : lw y (gk_up G_25 q_1 (rp_i (ly_k y 0) 27 g_26)) 0 st_ru (fun _ => 0) (fun _ => none) (st_S ts) (fun _ => none) 0 st_ru (fun _ => 0) (fun _ => none) (st_S us) (fun _ => none) [(q_7, 1, (fun _ => 0)), (q_4, 20, (fun _ => 0)), (q_1, 27, g_26)] := lw_set hW (k := 2) rfl g_26
  have hP : gk_P (ly_D y) A (gk_up G_25 q_1 (rp_i (ly_k y 0) 27 g_26)) H := by rw [hg_26]; exact hP
  obtain ⟨G_27, hG_27⟩ : ∃ z, z = gk_up G_25 q_1 (rp_i (ly_k y 0) 27 g_26) := ⟨_, rfl⟩
  have hP : gk_P (ly_D y) A G_27 H := by rw [hG_27]; exact hP
  have hW : lw y G_27 0 st_ru (fun _ => 0) (fun _ => none) (st_S ts) (fun _ => none) 0 st_ru (fun _ => 0) (fun _ => none) (st_S us) (fun _ => none) [(q_7, 1, (fun _ => 0)), (q_4, 20, (fun _ => 0)), (q_1, 27, g_26)] := by rw [hG_27]; exact hW
  refine lv_iinc (v := 3) (lv' := [(6, .int 3), (5, .ref q_7), (4, .ref q_4), (3, .ref q_1), (2, .ref (ly_a (ly_sw y) 0)), (1, .ref (ly_a y 0)), (0, .ref sc)]) hK.1.1 hK.1.2.1 dL_law_71 hl (k := 0) rfl (by decide) (by decide) rfl (fun ls hl => ?_)
  refine lv_goto (tgt := 35) hK.1.1 hK.1.2.1 dL_law_74 (by decide) ?_
  refine lv_iload hK.1.1 hK.1.2.1 dL_law_35 (lv_at hl 0 rfl) ?_
  refine lv_iconst (v := 3) hK.1.1 hK.1.2.1 dL_law_37 (by decide) ?_
  refine lv_icmp_ge (tgt := 77) hK.1.1 hK.1.2.1 dL_law_38 (by decide) (fun _ => ?_) (fun c => absurd (by decide) c)
  have hlr : lr g_26 st_ru := by
    rw [hg_26, hg_24, hg_22, hg_20, hg_18, hg_16, hg_14, hg_12, hg_10]
    intro r hr k hk
    rcases (show r = 0 ∨ r = 1 ∨ r = 2 by omega) with rfl | rfl | rfl <;> rcases (show k = 0 ∨ k = 1 ∨ k = 2 ∨ k = 3 ∨ k = 4 ∨ k = 5 ∨ k = 6 ∨ k = 7 ∨ k = 8 by omega) with rfl | rfl | rfl | rfl | rfl | rfl | rfl | rfl | rfl <;> rfl
  refine lv_aload_n hK.1.1 hK.1.2.1 dL_law_77 rfl (lv_at hl 5 rfl) ?_
  refine gk_callV0 (n := 0) (As := []) (rest := []) hK (c_X4_day l (lw_o hW)) (gk_gV q_3_18 q_3_19 q_3_20 q_1_2 q_3_21) ⟨rfl, by decide +kernel, by decide +kernel, by decide +kernel⟩ ⟨(Nat.le_of_ble_eq_true rfl), (Nat.le_of_ble_eq_true rfl)⟩ hP hS (gk_recv hK.2.2.1.1 hP (lw_o hW).1 rfl) rfl hl.1 rfl (Nat.le_of_ble_eq_true rfl) dL_law_78 ⟨(Nat.le_of_ble_eq_true rfl), (Nat.le_of_ble_eq_true rfl)⟩ (fun v G1 H locs hw hP hS => ?_)
  obtain ⟨rfl, hG9⟩ := hw
  rw [hG9] at hP
  refine W.eq (g2 := F0 m 81 ls [.int 0]) rfl ?_
  refine lv_if_ne (tgt := 115) hK.1.1 hK.1.2.1 dL_law_81 (by decide) (fun c => absurd rfl c) (fun _ => ?_)
  refine lv_aload_n hK.1.1 hK.1.2.1 dL_law_84 rfl (lv_at hl 5 rfl) ?_
  refine gk_callV0 (n := 0) (As := []) (rest := []) hK (co_run hW (iv_Ll hI0) (iv_in5 hI0) (iv_len5 hI0 hN0)) (gk_gV q_3_23 q_4_0 q_4_1 q_1_2 q_4_2) ⟨rfl, by decide +kernel, by decide +kernel, by decide +kernel⟩ ⟨(Nat.le_of_ble_eq_true rfl), (Nat.le_of_ble_eq_true rfl)⟩ hP hS (gk_recv hK.2.2.1.1 hP (lw_o hW).1 rfl) rfl hl.1 rfl (Nat.le_of_ble_eq_true rfl) dL_law_85 ⟨(Nat.le_of_ble_eq_true rfl), (Nat.le_of_ble_eq_true rfl)⟩ (fun v G_28 H locs hw hP hS => ?_)
  obtain ⟨T9, b9, hr9, rfl, hW⟩ := hw
  obtain ⟨hT9, rfl⟩ := run_none (fun f hf => due_0 rfl) 5 (Nat.le_refl 5) T9 b9 hr9
  rw [tls_0, hT9] at hW
  refine W.eq (g2 := F0 m 88 ls [.int 0]) rfl ?_
  have hW : lw y G_28 0 st_ru (fun _ => 0) (fun _ => none) (st_S ts) (fun _ => none) 0 st_ru (fun _ => 0) (fun _ => none) (st_S us) (fun _ => none) [(q_7, 1, (fun _ => 0)), (q_4, 20, (fun _ => 0)), (q_1, 27, g_26)] := hW
  refine lv_if_ne (tgt := 115) hK.1.1 hK.1.2.1 dL_law_88 (by decide) (fun c => absurd rfl c) (fun _ => ?_)
  refine lv_aload_n hK.1.1 hK.1.2.1 dL_law_91 rfl (lv_at hl 5 rfl) ?_
  refine lv_iconst (v := 3) hK.1.1 hK.1.2.1 dL_law_92 (by decide) ?_
  refine gk_callSW (n := 2) (As := [.ref (ly_a y 0), .int 3]) (rest := []) hK (c0_L_holds l hfl (lw_o hW) (h := 3) (by decide) (iv_Ho hI0)) (gk_gS q_10_10 q_10_11 q_10_12 q_10_13) ⟨by decide +kernel, by decide +kernel, by decide +kernel⟩ ⟨(Nat.le_of_ble_eq_true rfl), (Nat.le_of_ble_eq_true rfl)⟩ hP hS rfl hl.1 rfl (Nat.le_of_ble_eq_true rfl) dL_law_93 ⟨(Nat.le_of_ble_eq_true rfl), (Nat.le_of_ble_eq_true rfl)⟩ (fun v G1 H locs hw hP hS => ?_)
  obtain ⟨x9, hx9, rfl, hG9⟩ := hw
  rw [hG9] at hP
  obtain rfl : x9 = -1 := hx9.elim (fun q => q.2) (fun ⟨_, _, _, _, q, _⟩ => by cases q)
  refine W.eq (g2 := F0 m 96 ls [.int (-1)]) rfl ?_
  refine lv_iconst (v := (-1)) hK.1.1 hK.1.2.1 dL_law_96 (by decide) ?_
  refine lv_icmp_ne (tgt := 115) hK.1.1 hK.1.2.1 dL_law_97 (by decide) (fun c => absurd rfl c) (fun _ => ?_)
  refine lv_aload_n hK.1.1 hK.1.2.1 dL_law_100 rfl (lv_at hl 5 rfl) ?_
  refine lv_iconst (v := 0) hK.1.1 hK.1.2.1 dL_law_101 (by decide) ?_
  refine lv_iconst (v := 0) hK.1.1 hK.1.2.1 dL_law_102 (by decide) ?_
  refine gk_callSW (n := 3) (As := [.ref (ly_a y 0), .int 0, .int 0]) (rest := []) hK (cb0_name hfl (lw_o hW) (f := 0) (j := 0) (by decide) (show (0 : Nat) < 2 ^ 31 by decide) (Or.inr (show ¬ (0 : Int32) < nI 0 by decide)) (iv_in5 hI0)) (gk_gS q_11_5 q_11_6 q_10_12 q_11_7) ⟨by decide +kernel, by decide +kernel, by decide +kernel⟩ ⟨(Nat.le_of_ble_eq_true rfl), (Nat.le_of_ble_eq_true rfl)⟩ hP hS rfl hl.1 rfl (Nat.le_of_ble_eq_true rfl) dL_law_103 ⟨(Nat.le_of_ble_eq_true rfl), (Nat.le_of_ble_eq_true rfl)⟩ (fun v G1 H locs hw hP hS => ?_)
  obtain ⟨rfl, hG9⟩ := hw
  rw [hG9] at hP
  refine W.eq (g2 := F0 m 106 ls [.int (-1000001)]) rfl ?_
  refine lv_ldc (v := (-1000001)) hK.1.1 hK.1.2.1 hK.1.2.2.1 (hK.1.2.2.2 _ q_1_4) dL_law_106 ?_
  refine lv_icmp_ne (tgt := 115) hK.1.1 hK.1.2.1 dL_law_108 (by decide) (fun c => absurd rfl c) (fun _ => ?_)
  refine lv_iconst (v := 1) hK.1.1 hK.1.2.1 dL_law_111 (by decide) ?_
  refine lv_goto (tgt := 116) hK.1.1 hK.1.2.1 dL_law_112 (by decide) ?_
  refine lv_istore (lv' := [(6, .int 1), (5, .ref q_7), (4, .ref q_4), (3, .ref q_1), (2, .ref (ly_a (ly_sw y) 0)), (1, .ref (ly_a y 0)), (0, .ref sc)]) hK.1.1 hK.1.2.1 dL_law_116 hl (by decide) rfl (fun ls hl => ?_)
  refine lv_iconst (v := 0) hK.1.1 hK.1.2.1 dL_law_118 (by decide) ?_
  refine lv_istore (lv' := [(7, .int 0), (6, .int 1), (5, .ref q_7), (4, .ref q_4), (3, .ref q_1), (2, .ref (ly_a (ly_sw y) 0)), (1, .ref (ly_a y 0)), (0, .ref sc)]) hK.1.1 hK.1.2.1 dL_law_119 hl (by decide) rfl (fun ls hl => ?_)
  have hJ : lj y G_28 q_1 q_4 q_7 0 := ⟨0, 0, st_ru, _, _, _, _, _, _, fun _ => 0, _, _, _, lw_rev hW, ⟨_, st_iv h5 hn⟩, ⟨_, st_iv g5 gn⟩, ⟨_, st_rn h5 hn g5 gn⟩, hlr, fun f hf => ⟨rfl, rfl, rfl, rfl⟩, rfl⟩
  exact lw_loop hfl hK hX hbl hbA hn9 kk 110 0 ls _ _ _ _ _ rfl (Nat.le_of_ble_eq_true rfl) (Nat.le_of_ble_eq_true rfl) hP hS hJ (lv_sub hl [0, 1, 7, 6, 5, 4, 3, 2] rfl)
set_option maxHeartbeats 4000000 in
set_option maxRecDepth 100000 in
theorem lw_entry {p : Program} {l : Launch} {e : Env} {s : State} {m : MethodId} {args : Array Value} {below : List Frame} {meth : Method} {c : Code} {Q : State → Prop} {y : ly_T} {A : Nat → Prop} {sc n9 : Nat} {sf : Nat → Int32} (hfl : l.stackTraces = false) (hK : gk_K p s m c args cL_law RL 8 y A) (hX : va_X sc n9 sf s s.heap) (hbl : sc < s.heap.size) (hbA : ¬ A sc) (hn9 : n9 ≤ 260) (kk : ∀ (ls : Array Slot) (H : Heap) (locs : List Loc), va_S A s.heap H locs → lv_has ls 8 [(6, .int 1)] → W p l e { frames := 15, cells := 711450, slots := 6967421, locals := 630 } s m args below meth c H locs 711450 6967421 Q (F0 m 213 ls [])) {ls : Array Slot} (hl : lv_has ls 8 [(0, .ref sc)]) : W p l e { frames := 15, cells := 711450, slots := 6967421, locals := 630 } s m args below meth c s.heap [] 0 0 Q (F0 m 0 ls []) := by
  have hS : va_S A s.heap s.heap [] := va_S.rf
  have hP : gk_P (ly_D y) A (fun _ => none) s.heap := fun a e h => by cases h
  refine gk_new hK.1 hK.2.2.1.1 hP hS hK.2.2.2 (ci := 5) (C := RX4) (T := TX4) (N := 4) rfl inlX4 tyX4 tyX4_ok q_1_0 q_1_1 q_1_2 (fs := [.null, .null, .null, .int 0]) (by decide +kernel) (Nat.le_of_ble_eq_true rfl) (Nat.le_of_ble_eq_true rfl) dL_law_0 (fun q0 H hnq0 hP hS => ?_)
  refine lv_dup hK.1.1 hK.1.2.1 dL_law_3 rfl ?_
  refine gk_callI (n := 0) (As := []) (rest := [.ref q0]) hK (c_X4_init l (y := y) (A := A) (q := q0) (gk_us _ _ _)) q_1_7 q_1_2 q_1_5 q_1_6 rfl ⟨by decide +kernel, by decide +kernel, by decide +kernel⟩ ⟨(Nat.le_of_ble_eq_true rfl), (Nat.le_of_ble_eq_true rfl)⟩ hP hS rfl hl.1 rfl (Nat.le_of_ble_eq_true rfl) dL_law_4 ⟨(Nat.le_of_ble_eq_true rfl), (Nat.le_of_ble_eq_true rfl)⟩ (fun v G1 H locs hw hP hS => ?_)
  obtain ⟨rfl, ra, fa, ha, r0, r1, r2, f0, l0, t0, f1, l1, t1, f2, l2, t2, f3, l3, t3, f4, l4, t4, h0, h1, h2, h3, hc⟩ := hw
  have hA9 : ∀ (i a : Nat) (e : va_E), ([(q0, (.inr (5, [.ref ra, .ref fa, .ref ha, .int 0]))), (ra, (rp_r (ly_k y 3) 3 (va_up (va_up (va_up (fun _ => none) 0 (some r0)) 1 (some r1)) 2 (some r2)))), (fa, (rp_r (ly_k y 4) 5 (va_up (va_up (va_up (va_up (va_up (fun _ => none) 0 (some f0)) 1 (some f1)) 2 (some f2)) 3 (some f3)) 4 (some f4)))), (ha, (rp_r (ly_k y 5) 4 (va_up (va_up (va_up (va_up (fun _ => none) 0 (some h0)) 1 (some h1)) 2 (some h2)) 3 (some h3)))), (r0, (.inr (4, [.int (nI 0), .int 0, .int (-1), .int (-1), .int 0, .int 3, .int 0, .int 0, .int 0, .int 0]))), (r1, (.inr (4, [.int (nI 1), .int 0, .int (-1), .int (-1), .int 0, .int 3, .int 0, .int 0, .int 0, .int 0]))), (r2, (.inr (4, [.int (nI 2), .int 0, .int (-1), .int (-1), .int 0, .int 3, .int 0, .int 0, .int 0, .int 0]))), (f0, (.inr (2, [.int (nI 0), .ref l0, .ref r0, .ref t0, .int 0, .int 0, .int 0]))), (l0, (.inr (0, [.int 0, .ref (ly_a y 6), .int 0]))), (t0, (.inr (3, [.int 0, .int 0, .int 0]))), (f1, (.inr (2, [.int (nI 1), .ref l1, .ref r0, .ref t1, .int 0, .int 0, .int 0]))), (l1, (.inr (0, [.int 0, .ref (ly_a y 6), .int 0]))), (t1, (.inr (3, [.int 0, .int 0, .int 0]))), (f2, (.inr (2, [.int (nI 2), .ref l2, .ref r0, .ref t2, .int 0, .int 0, .int 0]))), (l2, (.inr (0, [.int 0, .ref (ly_a y 6), .int 0]))), (t2, (.inr (3, [.int 0, .int 0, .int 0]))), (f3, (.inr (2, [.int (nI 3), .ref l3, .ref r0, .ref t3, .int 0, .int 0, .int 0]))), (l3, (.inr (0, [.int 0, .ref (ly_a y 6), .int 0]))), (t3, (.inr (3, [.int 0, .int 0, .int 0]))), (f4, (.inr (2, [.int (nI 4), .ref l4, .ref r0, .ref t4, .int 0, .int 0, .int 0]))), (l4, (.inr (0, [.int 0, .ref (ly_a y 6), .int 0]))), (t4, (.inr (3, [.int 0, .int 0, .int 0]))), (h0, (.inr (1, [.null, .null]))), (h1, (.inr (1, [.null, .null]))), (h2, (.inr (1, [.null, .null]))), (h3, (.inr (1, [.null, .null])))] : List (Nat × va_E))[i]? = some (a, e) → A a := fun i a e h => (hP a e (hc.1 i a e h)).1
  obtain ⟨Go, hGo⟩ : ∃ z, z = G1 := ⟨_, rfl⟩
  rw [← hGo] at hP hc
  refine W.eq (g2 := F0 m 7 ls [.ref q0]) rfl ?_
  refine lv_astore_n (lv' := [(1, .ref q0), (0, .ref sc)]) hK.1.1 hK.1.2.1 dL_law_7 rfl hl (by decide) rfl (fun ls hl => ?_)
  refine gk_new hK.1 hK.2.2.1.1 hP hS hK.2.2.2 (ci := 5) (C := RX4) (T := TX4) (N := 4) rfl inlX4 tyX4 tyX4_ok q_1_0 q_1_1 q_1_2 (fs := [.null, .null, .null, .int 0]) (by decide +kernel) (Nat.le_of_ble_eq_true rfl) (Nat.le_of_ble_eq_true rfl) dL_law_8 (fun uq0 H hnuq0 hP hS => ?_)
  refine lv_dup hK.1.1 hK.1.2.1 dL_law_11 rfl ?_
  rw [gk_up_j] at hP
  refine gk_callI (n := 0) (As := []) (rest := [.ref uq0]) hK (gk_frame (fun A => c_X4_init l (y := y) (A := A) (q := uq0) (gk_us _ _ _)) (gk_dj1 hnuq0)) q_1_7 q_1_2 q_1_5 q_1_6 rfl ⟨by decide +kernel, by decide +kernel, by decide +kernel⟩ ⟨(Nat.le_of_ble_eq_true rfl), (Nat.le_of_ble_eq_true rfl)⟩ hP hS rfl hl.1 rfl (Nat.le_of_ble_eq_true rfl) dL_law_12 ⟨(Nat.le_of_ble_eq_true rfl), (Nat.le_of_ble_eq_true rfl)⟩ (fun v G1 H locs hw hP hS => ?_)
  obtain ⟨Gt, ⟨rfl, ura, ufa, uha, ur0, ur1, ur2, uf0, ul0, ut0, uf1, ul1, ut1, uf2, ul2, ut2, uf3, ul3, ut3, uf4, ul4, ut4, uh0, uh1, uh2, uh3, hc2⟩, hG9, hd2⟩ := hw
  rw [hG9] at hP
  have hA8 : ∀ (i a : Nat) (e : va_E), ([(uq0, (.inr (5, [.ref ura, .ref ufa, .ref uha, .int 0]))), (ura, (rp_r (ly_k y 3) 3 (va_up (va_up (va_up (fun _ => none) 0 (some ur0)) 1 (some ur1)) 2 (some ur2)))), (ufa, (rp_r (ly_k y 4) 5 (va_up (va_up (va_up (va_up (va_up (fun _ => none) 0 (some uf0)) 1 (some uf1)) 2 (some uf2)) 3 (some uf3)) 4 (some uf4)))), (uha, (rp_r (ly_k y 5) 4 (va_up (va_up (va_up (va_up (fun _ => none) 0 (some uh0)) 1 (some uh1)) 2 (some uh2)) 3 (some uh3)))), (ur0, (.inr (4, [.int (nI 0), .int 0, .int (-1), .int (-1), .int 0, .int 3, .int 0, .int 0, .int 0, .int 0]))), (ur1, (.inr (4, [.int (nI 1), .int 0, .int (-1), .int (-1), .int 0, .int 3, .int 0, .int 0, .int 0, .int 0]))), (ur2, (.inr (4, [.int (nI 2), .int 0, .int (-1), .int (-1), .int 0, .int 3, .int 0, .int 0, .int 0, .int 0]))), (uf0, (.inr (2, [.int (nI 0), .ref ul0, .ref ur0, .ref ut0, .int 0, .int 0, .int 0]))), (ul0, (.inr (0, [.int 0, .ref (ly_a y 6), .int 0]))), (ut0, (.inr (3, [.int 0, .int 0, .int 0]))), (uf1, (.inr (2, [.int (nI 1), .ref ul1, .ref ur0, .ref ut1, .int 0, .int 0, .int 0]))), (ul1, (.inr (0, [.int 0, .ref (ly_a y 6), .int 0]))), (ut1, (.inr (3, [.int 0, .int 0, .int 0]))), (uf2, (.inr (2, [.int (nI 2), .ref ul2, .ref ur0, .ref ut2, .int 0, .int 0, .int 0]))), (ul2, (.inr (0, [.int 0, .ref (ly_a y 6), .int 0]))), (ut2, (.inr (3, [.int 0, .int 0, .int 0]))), (uf3, (.inr (2, [.int (nI 3), .ref ul3, .ref ur0, .ref ut3, .int 0, .int 0, .int 0]))), (ul3, (.inr (0, [.int 0, .ref (ly_a y 6), .int 0]))), (ut3, (.inr (3, [.int 0, .int 0, .int 0]))), (uf4, (.inr (2, [.int (nI 4), .ref ul4, .ref ur0, .ref ut4, .int 0, .int 0, .int 0]))), (ul4, (.inr (0, [.int 0, .ref (ly_a y 6), .int 0]))), (ut4, (.inr (3, [.int 0, .int 0, .int 0]))), (uh0, (.inr (1, [.null, .null]))), (uh1, (.inr (1, [.null, .null]))), (uh2, (.inr (1, [.null, .null]))), (uh3, (.inr (1, [.null, .null])))] : List (Nat × va_E))[i]? = some (a, e) → A a := fun i a e h => (hP a e (gk_j1 (hc2.1 i a e h))).1
  refine W.eq (g2 := F0 m 15 ls [.ref uq0]) rfl ?_
  refine lv_astore_n (lv' := [(2, .ref uq0), (1, .ref q0), (0, .ref sc)]) hK.1.1 hK.1.2.1 dL_law_15 rfl hl (by decide) rfl (fun ls hl => ?_)
  have h9 : ¬ A (ly_a y 6) := va_T.out hK.2.2.1.2.2.2.2.2.2
  have h6 : ly_a y 6 ≠ ra ∧ ly_a y 6 ≠ fa ∧ ly_a y 6 ≠ ha := ⟨fun z => h9 (z ▸ hA9 1 _ _ rfl), fun z => h9 (z ▸ hA9 2 _ _ rfl), fun z => h9 (z ▸ hA9 3 _ _ rfl)⟩
  have k6 : ly_a y 6 ≠ ura ∧ ly_a y 6 ≠ ufa ∧ ly_a y 6 ≠ uha := ⟨fun z => h9 (z ▸ hA8 1 _ _ rfl), fun z => h9 (z ▸ hA8 2 _ _ rfl), fun z => h9 (z ▸ hA8 3 _ _ rfl)⟩
  have hK2 : gk_K p s m c args cL_law RL 8 (st_y2 y (st_a y q0 ra fa ha) (st_a y uq0 ura ufa uha) (st_f [r0, r1, r2] [f0, f1, f2, f3, f4] [h0, h1, h2, h3] [l0, l1, l2, l3, l4]) (st_f [ur0, ur1, ur2] [uf0, uf1, uf2, uf3, uf4] [uh0, uh1, uh2, uh3] [ul0, ul1, ul2, ul3, ul4])) A := ⟨hK.1, hK.2.1, st_V2 hK.2.2.1, hK.2.2.2⟩
  have hW := lw_mk (y := (st_y2 y (st_a y q0 ra fa ha) (st_a y uq0 ura ufa uha) (st_f [r0, r1, r2] [f0, f1, f2, f3, f4] [h0, h1, h2, h3] [l0, l1, l2, l3, l4]) (st_f [ur0, ur1, ur2] [uf0, uf1, uf2, uf3, uf4] [uh0, uh1, uh2, uh3] [ul0, ul1, ul2, ul3, ul4]))) hd2 (st_cv1 (st_rp (y := y) hc h6)) (st_cv2 (st_rp (y := y) hc2 k6))
  exact lw_entry2 hfl hK2 hX hbl hbA hn9 kk rfl (st_D9 hc) rfl (st_D9 hc2) hW hP hS hl
