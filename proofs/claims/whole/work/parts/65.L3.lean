/-! the law: one case of the switch after the other -/
set_option maxHeartbeats 4000000 in
set_option maxRecDepth 100000 in
theorem lw_11 {p : Program} {l : Launch} {e : Env} {s : State} {m : MethodId} {args : Array Value} {below : List Frame} {meth : Method} {c : Code} {H : Heap} {locs : List Loc} {cells slots : Nat} {Q : State → Prop} {ls : Array Slot} {y : ly_T} {A : Nat → Prop} {G : gk_G} {td : Int32} {ru : Nat → Nat → Int32} {fr lv : Nat → Nat} {lt et tl : Nat → Int32} {hf hp : Nat → Option Nat} {ol : Nat → List Nat} {PS : Nat → Prop} {pf : Nat → Nat → Int32} {ov : Int64} {md mq mt : Int32} {mv : Nat → Nat → Int32} {row : List Nat} {fi : Nat → Nat} {N i n9 sc : Nat} {sf : Nat → Int32} (hfl : l.stackTraces = false) (hK : gk_K p s m c args cL_law RL 7 y A) (hT : va_T .int sc n9 (fun j => .int (sf j)) A s s.heap) (hP : gk_P (ly_D y) A G H) (hS : va_S A s.heap H locs) (hR : rp y G td ru fr lv lt et tl hf hp ol PS pf ov md mq mt mv) (hI : xI td ru fr (lv, lt, et, tl, ol, PS, pf) hf hp row fi md mq mv N) (hN : N < 512) (hc : cells + 100 ≤ 601024) (hs : slots + 8000 ≤ 7293034) (hi : i + 7 ≤ n9) (hn9 : n9 ≤ 3584) (hl : lv_has ls 7 [(4, .int (nI i)), (0, .ref sc), (1, .ref (ly_a y 0)), (2, .ref (ly_a y 5)), (3, .ref (ly_a y 4))]) (kk : ∀ (ls : Array Slot) (H : Heap) (locs : List Loc) (G : gk_G) (td : Int32) (ru : Nat → Nat → Int32) (fr lv : Nat → Nat) (lt et tl : Nat → Int32) (hf hp : Nat → Option Nat) (ol : Nat → List Nat) (PS : Nat → Prop) (pf : Nat → Nat → Int32) (ov : Int64) (md mq mt : Int32) (mv : Nat → Nat → Int32) (row : List Nat) (fi : Nat → Nat), gk_P (ly_D y) A G H → va_S A s.heap H locs → rp y G td ru fr lv lt et tl hf hp ol PS pf ov md mq mt mv → xI td ru fr (lv, lt, et, tl, ol, PS, pf) hf hp row fi md mq mv (N + 1) → lv_has ls 7 [(4, .int (nI i)), (0, .ref sc), (1, .ref (ly_a y 0)), (2, .ref (ly_a y 5)), (3, .ref (ly_a y 4))] → W p l e { frames := 12, cells := 601024, slots := 7293034, locals := 444 } s m args below meth c H locs (cells + 100) (slots + 8000) Q (F0 m 1428 ls [])) : W p l e { frames := 12, cells := 601024, slots := 7293034, locals := 444 } s m args below meth c H locs cells slots Q (F0 m 861 ls []) := by
  refine lv_aload_n hK.1.1 hK.1.2.1 dL_law_861 rfl (lv_at hl 2 rfl) ?_
  refine gk_callV0 (n := 0) (As := []) (rest := []) hK (c_X4_day l hR) (gk_gV q_19_5 q_19_6 q_19_7 q_1_2 q_19_8) ⟨rfl, by decide +kernel, by decide +kernel, by decide +kernel⟩ ⟨(Nat.le_of_ble_eq_true rfl), (Nat.le_of_ble_eq_true rfl)⟩ hP hS (gk_recv hK.2.2.1.1 hP hR.1 rfl) rfl hl.1 rfl (Nat.le_of_ble_eq_true rfl) dL_law_862 ⟨(by show cells + 0 ≤ 601024; omega), (by show slots + 0 ≤ 7293034; omega)⟩ (fun v G1 H locs hw hP hS => ?_)
  obtain ⟨rfl, hG9⟩ := hw
  rw [hG9] at hP
  refine W.eq (g2 := F0 m 865 ls [.int td]) rfl ?_
  refine lv_aload_n hK.1.1 hK.1.2.1 dL_law_865 rfl (lv_at hl 3 rfl) ?_
  refine gk_callV0 (n := 0) (As := []) (rest := [.int td]) hK (c_X5_day l hR) (gk_gV q_19_9 q_19_10 q_19_11 q_1_5 q_19_12) ⟨rfl, by decide +kernel, by decide +kernel, by decide +kernel⟩ ⟨(Nat.le_of_ble_eq_true rfl), (Nat.le_of_ble_eq_true rfl)⟩ hP hS (gk_recv hK.2.2.1.1 hP hR.2.2.2.2.2.2.2.2.1 rfl) rfl hl.1 rfl (Nat.le_of_ble_eq_true rfl) dL_law_866 ⟨(by show (cells + 0) + 0 ≤ 601024; omega), (by show (slots + 0) + 0 ≤ 7293034; omega)⟩ (fun v G1 H locs hw hP hS => ?_)
  obtain ⟨rfl, hR⟩ := hw
  refine W.eq (g2 := F0 m 869 ls [.int md, .int td]) rfl ?_
  refine lv_icmp_eq (tgt := 1428) hK.1.1 hK.1.2.1 dL_law_869 (by decide) (fun _ => ?_) (fun c => absurd hI.1.1.symm c)
  exact W.widen (show ((cells + 0) + 0) ≤ cells + 100 by omega) (show ((slots + 0) + 0) ≤ slots + 8000 by omega) (kk ls _ _ _ _ _ _ _ _ _ _ _ _ _ _ _ _ _ _ _ _ _ _ hP hS hR (xI_mono hI) (lv_sub hl [0, 1, 2, 3, 4] rfl))
set_option maxHeartbeats 4000000 in
set_option maxRecDepth 100000 in
theorem lw_14 {p : Program} {l : Launch} {e : Env} {s : State} {m : MethodId} {args : Array Value} {below : List Frame} {meth : Method} {c : Code} {H : Heap} {locs : List Loc} {cells slots : Nat} {Q : State → Prop} {ls : Array Slot} {y : ly_T} {A : Nat → Prop} {G : gk_G} {td : Int32} {ru : Nat → Nat → Int32} {fr lv : Nat → Nat} {lt et tl : Nat → Int32} {hf hp : Nat → Option Nat} {ol : Nat → List Nat} {PS : Nat → Prop} {pf : Nat → Nat → Int32} {ov : Int64} {md mq mt : Int32} {mv : Nat → Nat → Int32} {row : List Nat} {fi : Nat → Nat} {N i n9 sc : Nat} {sf : Nat → Int32} (hfl : l.stackTraces = false) (hK : gk_K p s m c args cL_law RL 7 y A) (hT : va_T .int sc n9 (fun j => .int (sf j)) A s s.heap) (hP : gk_P (ly_D y) A G H) (hS : va_S A s.heap H locs) (hR : rp y G td ru fr lv lt et tl hf hp ol PS pf ov md mq mt mv) (hI : xI td ru fr (lv, lt, et, tl, ol, PS, pf) hf hp row fi md mq mv N) (hN : N < 512) (hc : cells + 100 ≤ 601024) (hs : slots + 8000 ≤ 7293034) (hi : i + 7 ≤ n9) (hn9 : n9 ≤ 3584) (hl : lv_has ls 7 [(4, .int (nI i)), (0, .ref sc), (1, .ref (ly_a y 0)), (2, .ref (ly_a y 5)), (3, .ref (ly_a y 4))]) (kk : ∀ (ls : Array Slot) (H : Heap) (locs : List Loc) (G : gk_G) (td : Int32) (ru : Nat → Nat → Int32) (fr lv : Nat → Nat) (lt et tl : Nat → Int32) (hf hp : Nat → Option Nat) (ol : Nat → List Nat) (PS : Nat → Prop) (pf : Nat → Nat → Int32) (ov : Int64) (md mq mt : Int32) (mv : Nat → Nat → Int32) (row : List Nat) (fi : Nat → Nat), gk_P (ly_D y) A G H → va_S A s.heap H locs → rp y G td ru fr lv lt et tl hf hp ol PS pf ov md mq mt mv → xI td ru fr (lv, lt, et, tl, ol, PS, pf) hf hp row fi md mq mv (N + 1) → lv_has ls 7 [(4, .int (nI i)), (0, .ref sc), (1, .ref (ly_a y 0)), (2, .ref (ly_a y 5)), (3, .ref (ly_a y 4))] → W p l e { frames := 12, cells := 601024, slots := 7293034, locals := 444 } s m args below meth c H locs (cells + 100) (slots + 8000) Q (F0 m 1428 ls [])) : W p l e { frames := 12, cells := 601024, slots := 7293034, locals := 444 } s m args below meth c H locs cells slots Q (F0 m 993 ls []) := by
  refine lv_aload_n hK.1.1 hK.1.2.1 dL_law_993 rfl (lv_at hl 2 rfl) ?_
  refine lv_aload_n hK.1.1 hK.1.2.1 dL_law_994 rfl (lv_at hl 1 rfl) ?_
  refine lv_iload hK.1.1 hK.1.2.1 dL_law_995 (lv_at hl 0 rfl) ?_
  refine lv_iconst (v := 1) hK.1.1 hK.1.2.1 dL_law_997 (by decide) ?_
  refine lv_iadd hK.1.1 hK.1.2.1 dL_law_998 ?_
  rw [show nI i + 1 = nI (i + 1) from nI_add i 1]
  refine va_ti hK.1.1 hK.1.2.1 hT hS (vp_in_nI (show i + 1 < n9 by omega) (by omega)) (v := .int (sf (i + 1))) (by rw [nI_clamp (by omega)]) dL_law_999 ?_
  refine lv_aload_n hK.1.1 hK.1.2.1 dL_law_1000 rfl (lv_at hl 4 rfl) ?_
  refine gk_callSW (n := 3) (As := [.ref (ly_a y 0), .int (sf (i + 1)), .ref (ly_a y 4)]) (rest := []) hK (c_L_live l hfl hR (i := (sf (i + 1))) (xI_Ll hI)) (gk_gS q_20_11 q_20_12 q_5_0 q_20_13) ⟨by decide +kernel, by decide +kernel, by decide +kernel⟩ ⟨(Nat.le_of_ble_eq_true rfl), (Nat.le_of_ble_eq_true rfl)⟩ hP hS rfl hl.1 rfl (Nat.le_of_ble_eq_true rfl) dL_law_1001 ⟨(by show cells + 16 ≤ 601024; omega), (by show slots + 128 ≤ 7293034; omega)⟩ (fun v G1 H locs hw hP hS => ?_)
  rcases hw with ⟨f, hf5, e1, rfl, hR⟩ | ⟨ho, rfl, hR⟩
  · refine W.eq (g2 := F0 m 1004 ls [.int 0]) rfl ?_
    refine lv_istore (lv' := [(5, .int 0), (4, .int (nI i)), (0, .ref sc), (1, .ref (ly_a y 0)), (2, .ref (ly_a y 5)), (3, .ref (ly_a y 4))]) hK.1.1 hK.1.2.1 dL_law_1004 hl (by decide) rfl (fun ls hl => ?_)
    refine lv_aload_n hK.1.1 hK.1.2.1 dL_law_1006 rfl (lv_at hl 4 rfl) ?_
    refine lv_aload_n hK.1.1 hK.1.2.1 dL_law_1007 rfl (lv_at hl 2 rfl) ?_
    refine lv_iload hK.1.1 hK.1.2.1 dL_law_1008 (lv_at hl 1 rfl) ?_
    refine lv_iconst (v := 1) hK.1.1 hK.1.2.1 dL_law_1010 (by decide) ?_
    refine lv_iadd hK.1.1 hK.1.2.1 dL_law_1011 ?_
    rw [show nI i + 1 = nI (i + 1) from nI_add i 1]
    refine va_ti hK.1.1 hK.1.2.1 hT hS (vp_in_nI (show i + 1 < n9 by omega) (by omega)) (v := .int (sf (i + 1))) (by rw [nI_clamp (by omega)]) dL_law_1012 ?_
    refine gk_callV0 (n := 1) (As := [.int (sf (i + 1))]) (rest := []) hK (c_X5_live l hR (i := (sf (i + 1))) ) (gk_gV q_20_18 q_20_19 q_20_20 q_1_5 q_20_21) ⟨rfl, by decide +kernel, by decide +kernel, by decide +kernel⟩ ⟨(Nat.le_of_ble_eq_true rfl), (Nat.le_of_ble_eq_true rfl)⟩ hP hS (gk_recv hK.2.2.1.1 hP hR.2.2.2.2.2.2.2.2.1 rfl) rfl hl.1 rfl (Nat.le_of_ble_eq_true rfl) dL_law_1013 ⟨(by show (cells + 16) + 0 ≤ 601024; omega), (by show (slots + 128) + 0 ≤ 7293034; omega)⟩ (fun v G1 H locs hw hP hS => ?_)
    rcases hw with ⟨f2, h2, e2, rfl, hR⟩ | ⟨ho2, ⟨x, rfl⟩, hR⟩
    · obtain rfl : f = f2 := (nI_eq (by omega) (by omega)).mp (e1.symm.trans e2)
      refine W.eq (g2 := F0 m 1016 ls [.int (mv 10 f)]) rfl ?_
      refine lv_istore (lv' := [(6, .int (mv 10 f)), (5, .int 0), (4, .int (nI i)), (0, .ref sc), (1, .ref (ly_a y 0)), (2, .ref (ly_a y 5)), (3, .ref (ly_a y 4))]) hK.1.1 hK.1.2.1 dL_law_1016 hl (by decide) rfl (fun ls hl => ?_)
      refine lv_aload_n hK.1.1 hK.1.2.1 dL_law_1018 rfl (lv_at hl 5 rfl) ?_
      refine gk_callV0 (n := 0) (As := []) (rest := []) hK (c_X5_thrown l hR) (gk_gV q_6_14 q_6_15 q_6_16 q_1_5 q_6_17) ⟨rfl, by decide +kernel, by decide +kernel, by decide +kernel⟩ ⟨(Nat.le_of_ble_eq_true rfl), (Nat.le_of_ble_eq_true rfl)⟩ hP hS (gk_recv hK.2.2.1.1 hP hR.2.2.2.2.2.2.2.2.1 rfl) rfl hl.1 rfl (Nat.le_of_ble_eq_true rfl) dL_law_1019 ⟨(by show ((cells + 16) + 0) + 0 ≤ 601024; omega), (by show ((slots + 128) + 0) + 0 ≤ 7293034; omega)⟩ (fun v G1 H locs hw hP hS => ?_)
      obtain ⟨rfl, hG9⟩ := hw
      rw [hG9] at hP
      refine W.eq (g2 := F0 m 1022 ls [.int 0]) rfl ?_
      refine lv_iload hK.1.1 hK.1.2.1 dL_law_1022 (lv_at hl 1 rfl) ?_
      refine lv_icmp_eq (tgt := 1029) hK.1.1 hK.1.2.1 dL_law_1024 (by decide) (fun _ => ?_) (fun c => absurd (by decide) c)
      refine lv_iload hK.1.1 hK.1.2.1 dL_law_1029 (lv_at hl 1 rfl) ?_
      refine lv_if_ne (tgt := 1046) hK.1.1 hK.1.2.1 dL_law_1031 (by decide) (fun c => absurd c (by decide)) (fun _ => ?_)
      refine lv_aload_n hK.1.1 hK.1.2.1 dL_law_1034 rfl (lv_at hl 6 rfl) ?_
      refine lv_iconst (v := 0) hK.1.1 hK.1.2.1 dL_law_1035 (by decide) ?_
      refine lo_get hK hP hR dL_law_1036 ?_
      refine lv_iload hK.1.1 hK.1.2.1 dL_law_1037 (lv_at hl 0 rfl) ?_
      refine lv_i2l hK.1.1 hK.1.2.1 dL_law_1039 rfl ?_
      refine W.lcmp hK.1.1 hK.1.2.1 dL_law_1040 ?_
      refine lv_if_eq (tgt := 1046) hK.1.1 hK.1.2.1 dL_law_1041 (by decide) (fun _ => ?_) (fun c => absurd (by rw [show mv 10 f = pf 0 (lv f) from (hI.1.2.2.2.1 f hf5).2.1]; simp [lg_cmp]) c)
      refine lv_goto (tgt := 1428) hK.1.1 hK.1.2.1 dL_law_1046 (by decide) ?_
      exact W.widen (show (((cells + 16) + 0) + 0) ≤ cells + 100 by omega) (show (((slots + 128) + 0) + 0) ≤ slots + 8000 by omega) (kk ls _ _ _ _ _ _ _ _ _ _ _ _ _ _ _ _ _ _ _ _ _ _ hP hS hR (xI_mono hI) (lv_sub hl [2, 3, 4, 5, 6] rfl))
    · exact absurd (e1 ▸ ho2) (rg_out_no hf5 (by decide))
  · refine W.eq (g2 := F0 m 1004 ls [.int 1]) rfl ?_
    refine lv_istore (lv' := [(5, .int 1), (4, .int (nI i)), (0, .ref sc), (1, .ref (ly_a y 0)), (2, .ref (ly_a y 5)), (3, .ref (ly_a y 4))]) hK.1.1 hK.1.2.1 dL_law_1004 hl (by decide) rfl (fun ls hl => ?_)
    refine lv_aload_n hK.1.1 hK.1.2.1 dL_law_1006 rfl (lv_at hl 4 rfl) ?_
    refine lv_aload_n hK.1.1 hK.1.2.1 dL_law_1007 rfl (lv_at hl 2 rfl) ?_
    refine lv_iload hK.1.1 hK.1.2.1 dL_law_1008 (lv_at hl 1 rfl) ?_
    refine lv_iconst (v := 1) hK.1.1 hK.1.2.1 dL_law_1010 (by decide) ?_
    refine lv_iadd hK.1.1 hK.1.2.1 dL_law_1011 ?_
    rw [show nI i + 1 = nI (i + 1) from nI_add i 1]
    refine va_ti hK.1.1 hK.1.2.1 hT hS (vp_in_nI (show i + 1 < n9 by omega) (by omega)) (v := .int (sf (i + 1))) (by rw [nI_clamp (by omega)]) dL_law_1012 ?_
    refine gk_callV0 (n := 1) (As := [.int (sf (i + 1))]) (rest := []) hK (c_X5_live l hR (i := (sf (i + 1))) ) (gk_gV q_20_18 q_20_19 q_20_20 q_1_5 q_20_21) ⟨rfl, by decide +kernel, by decide +kernel, by decide +kernel⟩ ⟨(Nat.le_of_ble_eq_true rfl), (Nat.le_of_ble_eq_true rfl)⟩ hP hS (gk_recv hK.2.2.1.1 hP hR.2.2.2.2.2.2.2.2.1 rfl) rfl hl.1 rfl (Nat.le_of_ble_eq_true rfl) dL_law_1013 ⟨(by show (cells + 16) + 0 ≤ 601024; omega), (by show (slots + 128) + 0 ≤ 7293034; omega)⟩ (fun v G1 H locs hw hP hS => ?_)
    rcases hw with ⟨f2, h2, e2, rfl, hR⟩ | ⟨ho2, ⟨x, rfl⟩, hR⟩
    · exact absurd (e2 ▸ ho) (rg_out_no h2 (by decide))
    · refine W.eq (g2 := F0 m 1016 ls [.int x]) rfl ?_
      refine lv_istore (lv' := [(6, .int x), (5, .int 1), (4, .int (nI i)), (0, .ref sc), (1, .ref (ly_a y 0)), (2, .ref (ly_a y 5)), (3, .ref (ly_a y 4))]) hK.1.1 hK.1.2.1 dL_law_1016 hl (by decide) rfl (fun ls hl => ?_)
      refine lv_aload_n hK.1.1 hK.1.2.1 dL_law_1018 rfl (lv_at hl 5 rfl) ?_
      refine gk_callV0 (n := 0) (As := []) (rest := []) hK (c_X5_thrown l hR) (gk_gV q_6_14 q_6_15 q_6_16 q_1_5 q_6_17) ⟨rfl, by decide +kernel, by decide +kernel, by decide +kernel⟩ ⟨(Nat.le_of_ble_eq_true rfl), (Nat.le_of_ble_eq_true rfl)⟩ hP hS (gk_recv hK.2.2.1.1 hP hR.2.2.2.2.2.2.2.2.1 rfl) rfl hl.1 rfl (Nat.le_of_ble_eq_true rfl) dL_law_1019 ⟨(by show ((cells + 16) + 0) + 0 ≤ 601024; omega), (by show ((slots + 128) + 0) + 0 ≤ 7293034; omega)⟩ (fun v G1 H locs hw hP hS => ?_)
      obtain ⟨rfl, hG9⟩ := hw
      rw [hG9] at hP
      refine W.eq (g2 := F0 m 1022 ls [.int 1]) rfl ?_
      refine lv_iload hK.1.1 hK.1.2.1 dL_law_1022 (lv_at hl 1 rfl) ?_
      refine lv_icmp_eq (tgt := 1029) hK.1.1 hK.1.2.1 dL_law_1024 (by decide) (fun _ => ?_) (fun c => absurd (by decide) c)
      refine lv_iload hK.1.1 hK.1.2.1 dL_law_1029 (lv_at hl 1 rfl) ?_
      refine lv_if_ne (tgt := 1046) hK.1.1 hK.1.2.1 dL_law_1031 (by decide) (fun _ => ?_) (fun c => absurd c (by decide))
      refine lv_goto (tgt := 1428) hK.1.1 hK.1.2.1 dL_law_1046 (by decide) ?_
      exact W.widen (show (((cells + 16) + 0) + 0) ≤ cells + 100 by omega) (show (((slots + 128) + 0) + 0) ≤ slots + 8000 by omega) (kk ls _ _ _ _ _ _ _ _ _ _ _ _ _ _ _ _ _ _ _ _ _ _ hP hS hR (xI_mono hI) (lv_sub hl [2, 3, 4, 5, 6] rfl))
set_option maxHeartbeats 4000000 in
set_option maxRecDepth 100000 in
theorem lw_19 {p : Program} {l : Launch} {e : Env} {s : State} {m : MethodId} {args : Array Value} {below : List Frame} {meth : Method} {c : Code} {H : Heap} {locs : List Loc} {cells slots : Nat} {Q : State → Prop} {ls : Array Slot} {y : ly_T} {A : Nat → Prop} {G : gk_G} {td : Int32} {ru : Nat → Nat → Int32} {fr lv : Nat → Nat} {lt et tl : Nat → Int32} {hf hp : Nat → Option Nat} {ol : Nat → List Nat} {PS : Nat → Prop} {pf : Nat → Nat → Int32} {ov : Int64} {md mq mt : Int32} {mv : Nat → Nat → Int32} {row : List Nat} {fi : Nat → Nat} {N i n9 sc : Nat} {sf : Nat → Int32} (hfl : l.stackTraces = false) (hK : gk_K p s m c args cL_law RL 7 y A) (hT : va_T .int sc n9 (fun j => .int (sf j)) A s s.heap) (hP : gk_P (ly_D y) A G H) (hS : va_S A s.heap H locs) (hR : rp y G td ru fr lv lt et tl hf hp ol PS pf ov md mq mt mv) (hI : xI td ru fr (lv, lt, et, tl, ol, PS, pf) hf hp row fi md mq mv N) (hN : N < 512) (hc : cells + 100 ≤ 601024) (hs : slots + 8000 ≤ 7293034) (hi : i + 7 ≤ n9) (hn9 : n9 ≤ 3584) (hl : lv_has ls 7 [(4, .int (nI i)), (0, .ref sc), (1, .ref (ly_a y 0)), (2, .ref (ly_a y 5)), (3, .ref (ly_a y 4))]) (kk : ∀ (ls : Array Slot) (H : Heap) (locs : List Loc) (G : gk_G) (td : Int32) (ru : Nat → Nat → Int32) (fr lv : Nat → Nat) (lt et tl : Nat → Int32) (hf hp : Nat → Option Nat) (ol : Nat → List Nat) (PS : Nat → Prop) (pf : Nat → Nat → Int32) (ov : Int64) (md mq mt : Int32) (mv : Nat → Nat → Int32) (row : List Nat) (fi : Nat → Nat), gk_P (ly_D y) A G H → va_S A s.heap H locs → rp y G td ru fr lv lt et tl hf hp ol PS pf ov md mq mt mv → xI td ru fr (lv, lt, et, tl, ol, PS, pf) hf hp row fi md mq mv (N + 1) → lv_has ls 7 [(4, .int (nI i)), (0, .ref sc), (1, .ref (ly_a y 0)), (2, .ref (ly_a y 5)), (3, .ref (ly_a y 4))] → W p l e { frames := 12, cells := 601024, slots := 7293034, locals := 444 } s m args below meth c H locs (cells + 100) (slots + 8000) Q (F0 m 1428 ls [])) : W p l e { frames := 12, cells := 601024, slots := 7293034, locals := 444 } s m args below meth c H locs cells slots Q (F0 m 1316 ls []) := by
  refine lv_aload_n hK.1.1 hK.1.2.1 dL_law_1316 rfl (lv_at hl 2 rfl) ?_
  refine lv_aload_n hK.1.1 hK.1.2.1 dL_law_1317 rfl (lv_at hl 1 rfl) ?_
  refine lv_iload hK.1.1 hK.1.2.1 dL_law_1318 (lv_at hl 0 rfl) ?_
  refine lv_iconst (v := 1) hK.1.1 hK.1.2.1 dL_law_1320 (by decide) ?_
  refine lv_iadd hK.1.1 hK.1.2.1 dL_law_1321 ?_
  rw [show nI i + 1 = nI (i + 1) from nI_add i 1]
  refine va_ti hK.1.1 hK.1.2.1 hT hS (vp_in_nI (show i + 1 < n9 by omega) (by omega)) (v := .int (sf (i + 1))) (by rw [nI_clamp (by omega)]) dL_law_1322 ?_
  refine lv_aload_n hK.1.1 hK.1.2.1 dL_law_1323 rfl (lv_at hl 4 rfl) ?_
  refine gk_callSW (n := 3) (As := [.ref (ly_a y 0), .int (sf (i + 1)), .ref (ly_a y 4)]) (rest := []) hK (c_L_thrown l hfl hR (i := (sf (i + 1))) ) (gk_gS q_23_4 q_23_5 q_5_0 q_23_6) ⟨by decide +kernel, by decide +kernel, by decide +kernel⟩ ⟨(Nat.le_of_ble_eq_true rfl), (Nat.le_of_ble_eq_true rfl)⟩ hP hS rfl hl.1 rfl (Nat.le_of_ble_eq_true rfl) dL_law_1324 ⟨(by show cells + 16 ≤ 601024; omega), (by show slots + 128 ≤ 7293034; omega)⟩ (fun v G1 H locs hw hP hS => ?_)
  rcases hw with ⟨f, hf5, e1, rfl, hR⟩ | ⟨ho, rfl, hR⟩
  · refine W.eq (g2 := F0 m 1327 ls [.int 0]) rfl ?_
    refine lv_istore (lv' := [(5, .int 0), (4, .int (nI i)), (0, .ref sc), (1, .ref (ly_a y 0)), (2, .ref (ly_a y 5)), (3, .ref (ly_a y 4))]) hK.1.1 hK.1.2.1 dL_law_1327 hl (by decide) rfl (fun ls hl => ?_)
    refine lv_aload_n hK.1.1 hK.1.2.1 dL_law_1329 rfl (lv_at hl 4 rfl) ?_
    refine lv_aload_n hK.1.1 hK.1.2.1 dL_law_1330 rfl (lv_at hl 2 rfl) ?_
    refine lv_iload hK.1.1 hK.1.2.1 dL_law_1331 (lv_at hl 1 rfl) ?_
    refine lv_iconst (v := 1) hK.1.1 hK.1.2.1 dL_law_1333 (by decide) ?_
    refine lv_iadd hK.1.1 hK.1.2.1 dL_law_1334 ?_
    rw [show nI i + 1 = nI (i + 1) from nI_add i 1]
    refine va_ti hK.1.1 hK.1.2.1 hT hS (vp_in_nI (show i + 1 < n9 by omega) (by omega)) (v := .int (sf (i + 1))) (by rw [nI_clamp (by omega)]) dL_law_1335 ?_
    refine gk_callV0 (n := 1) (As := [.int (sf (i + 1))]) (rest := []) hK (c_X5_thrown_ l hR (i := (sf (i + 1))) ) (gk_gV q_23_11 q_23_12 q_23_13 q_1_5 q_23_14) ⟨rfl, by decide +kernel, by decide +kernel, by decide +kernel⟩ ⟨(Nat.le_of_ble_eq_true rfl), (Nat.le_of_ble_eq_true rfl)⟩ hP hS (gk_recv hK.2.2.1.1 hP hR.2.2.2.2.2.2.2.2.1 rfl) rfl hl.1 rfl (Nat.le_of_ble_eq_true rfl) dL_law_1336 ⟨(by show (cells + 16) + 0 ≤ 601024; omega), (by show (slots + 128) + 0 ≤ 7293034; omega)⟩ (fun v G1 H locs hw hP hS => ?_)
    rcases hw with ⟨f2, h2, e2, rfl, hR⟩ | ⟨ho2, ⟨x, rfl⟩, hR⟩
    · obtain rfl : f = f2 := (nI_eq (by omega) (by omega)).mp (e1.symm.trans e2)
      refine W.eq (g2 := F0 m 1339 ls [.int (mv 13 f)]) rfl ?_
      refine lv_istore (lv' := [(6, .int (mv 13 f)), (5, .int 0), (4, .int (nI i)), (0, .ref sc), (1, .ref (ly_a y 0)), (2, .ref (ly_a y 5)), (3, .ref (ly_a y 4))]) hK.1.1 hK.1.2.1 dL_law_1339 hl (by decide) rfl (fun ls hl => ?_)
      refine lv_aload_n hK.1.1 hK.1.2.1 dL_law_1341 rfl (lv_at hl 5 rfl) ?_
      refine gk_callV0 (n := 0) (As := []) (rest := []) hK (c_X5_thrown l hR) (gk_gV q_6_14 q_6_15 q_6_16 q_1_5 q_6_17) ⟨rfl, by decide +kernel, by decide +kernel, by decide +kernel⟩ ⟨(Nat.le_of_ble_eq_true rfl), (Nat.le_of_ble_eq_true rfl)⟩ hP hS (gk_recv hK.2.2.1.1 hP hR.2.2.2.2.2.2.2.2.1 rfl) rfl hl.1 rfl (Nat.le_of_ble_eq_true rfl) dL_law_1342 ⟨(by show ((cells + 16) + 0) + 0 ≤ 601024; omega), (by show ((slots + 128) + 0) + 0 ≤ 7293034; omega)⟩ (fun v G1 H locs hw hP hS => ?_)
      obtain ⟨rfl, hG9⟩ := hw
      rw [hG9] at hP
      refine W.eq (g2 := F0 m 1345 ls [.int 0]) rfl ?_
      refine lv_iload hK.1.1 hK.1.2.1 dL_law_1345 (lv_at hl 1 rfl) ?_
      refine lv_icmp_eq (tgt := 1352) hK.1.1 hK.1.2.1 dL_law_1347 (by decide) (fun _ => ?_) (fun c => absurd (by decide) c)
      refine lv_iload hK.1.1 hK.1.2.1 dL_law_1352 (lv_at hl 1 rfl) ?_
      refine lv_if_ne (tgt := 1369) hK.1.1 hK.1.2.1 dL_law_1354 (by decide) (fun c => absurd c (by decide)) (fun _ => ?_)
      refine lv_aload_n hK.1.1 hK.1.2.1 dL_law_1357 rfl (lv_at hl 6 rfl) ?_
      refine lv_iconst (v := 0) hK.1.1 hK.1.2.1 dL_law_1358 (by decide) ?_
      refine lo_get hK hP hR dL_law_1359 ?_
      refine lv_iload hK.1.1 hK.1.2.1 dL_law_1360 (lv_at hl 0 rfl) ?_
      refine lv_i2l hK.1.1 hK.1.2.1 dL_law_1362 rfl ?_
      refine W.lcmp hK.1.1 hK.1.2.1 dL_law_1363 ?_
      refine lv_if_eq (tgt := 1369) hK.1.1 hK.1.2.1 dL_law_1364 (by decide) (fun _ => ?_) (fun c => absurd (by rw [show mv 13 f = tl f from (hI.1.2.2.2.1 f hf5).2.2.2.2]; simp [lg_cmp]) c)
      refine lv_goto (tgt := 1428) hK.1.1 hK.1.2.1 dL_law_1369 (by decide) ?_
      exact W.widen (show (((cells + 16) + 0) + 0) ≤ cells + 100 by omega) (show (((slots + 128) + 0) + 0) ≤ slots + 8000 by omega) (kk ls _ _ _ _ _ _ _ _ _ _ _ _ _ _ _ _ _ _ _ _ _ _ hP hS hR (xI_mono hI) (lv_sub hl [2, 3, 4, 5, 6] rfl))
    · exact absurd (e1 ▸ ho2) (rg_out_no hf5 (by decide))
  · refine W.eq (g2 := F0 m 1327 ls [.int 1]) rfl ?_
    refine lv_istore (lv' := [(5, .int 1), (4, .int (nI i)), (0, .ref sc), (1, .ref (ly_a y 0)), (2, .ref (ly_a y 5)), (3, .ref (ly_a y 4))]) hK.1.1 hK.1.2.1 dL_law_1327 hl (by decide) rfl (fun ls hl => ?_)
    refine lv_aload_n hK.1.1 hK.1.2.1 dL_law_1329 rfl (lv_at hl 4 rfl) ?_
    refine lv_aload_n hK.1.1 hK.1.2.1 dL_law_1330 rfl (lv_at hl 2 rfl) ?_
    refine lv_iload hK.1.1 hK.1.2.1 dL_law_1331 (lv_at hl 1 rfl) ?_
    refine lv_iconst (v := 1) hK.1.1 hK.1.2.1 dL_law_1333 (by decide) ?_
    refine lv_iadd hK.1.1 hK.1.2.1 dL_law_1334 ?_
    rw [show nI i + 1 = nI (i + 1) from nI_add i 1]
    refine va_ti hK.1.1 hK.1.2.1 hT hS (vp_in_nI (show i + 1 < n9 by omega) (by omega)) (v := .int (sf (i + 1))) (by rw [nI_clamp (by omega)]) dL_law_1335 ?_
    refine gk_callV0 (n := 1) (As := [.int (sf (i + 1))]) (rest := []) hK (c_X5_thrown_ l hR (i := (sf (i + 1))) ) (gk_gV q_23_11 q_23_12 q_23_13 q_1_5 q_23_14) ⟨rfl, by decide +kernel, by decide +kernel, by decide +kernel⟩ ⟨(Nat.le_of_ble_eq_true rfl), (Nat.le_of_ble_eq_true rfl)⟩ hP hS (gk_recv hK.2.2.1.1 hP hR.2.2.2.2.2.2.2.2.1 rfl) rfl hl.1 rfl (Nat.le_of_ble_eq_true rfl) dL_law_1336 ⟨(by show (cells + 16) + 0 ≤ 601024; omega), (by show (slots + 128) + 0 ≤ 7293034; omega)⟩ (fun v G1 H locs hw hP hS => ?_)
    rcases hw with ⟨f2, h2, e2, rfl, hR⟩ | ⟨ho2, ⟨x, rfl⟩, hR⟩
    · exact absurd (e2 ▸ ho) (rg_out_no h2 (by decide))
    · refine W.eq (g2 := F0 m 1339 ls [.int x]) rfl ?_
      refine lv_istore (lv' := [(6, .int x), (5, .int 1), (4, .int (nI i)), (0, .ref sc), (1, .ref (ly_a y 0)), (2, .ref (ly_a y 5)), (3, .ref (ly_a y 4))]) hK.1.1 hK.1.2.1 dL_law_1339 hl (by decide) rfl (fun ls hl => ?_)
      refine lv_aload_n hK.1.1 hK.1.2.1 dL_law_1341 rfl (lv_at hl 5 rfl) ?_
      refine gk_callV0 (n := 0) (As := []) (rest := []) hK (c_X5_thrown l hR) (gk_gV q_6_14 q_6_15 q_6_16 q_1_5 q_6_17) ⟨rfl, by decide +kernel, by decide +kernel, by decide +kernel⟩ ⟨(Nat.le_of_ble_eq_true rfl), (Nat.le_of_ble_eq_true rfl)⟩ hP hS (gk_recv hK.2.2.1.1 hP hR.2.2.2.2.2.2.2.2.1 rfl) rfl hl.1 rfl (Nat.le_of_ble_eq_true rfl) dL_law_1342 ⟨(by show ((cells + 16) + 0) + 0 ≤ 601024; omega), (by show ((slots + 128) + 0) + 0 ≤ 7293034; omega)⟩ (fun v G1 H locs hw hP hS => ?_)
      obtain ⟨rfl, hG9⟩ := hw
      rw [hG9] at hP
      refine W.eq (g2 := F0 m 1345 ls [.int 1]) rfl ?_
      refine lv_iload hK.1.1 hK.1.2.1 dL_law_1345 (lv_at hl 1 rfl) ?_
      refine lv_icmp_eq (tgt := 1352) hK.1.1 hK.1.2.1 dL_law_1347 (by decide) (fun _ => ?_) (fun c => absurd (by decide) c)
      refine lv_iload hK.1.1 hK.1.2.1 dL_law_1352 (lv_at hl 1 rfl) ?_
      refine lv_if_ne (tgt := 1369) hK.1.1 hK.1.2.1 dL_law_1354 (by decide) (fun _ => ?_) (fun c => absurd c (by decide))
      refine lv_goto (tgt := 1428) hK.1.1 hK.1.2.1 dL_law_1369 (by decide) ?_
      exact W.widen (show (((cells + 16) + 0) + 0) ≤ cells + 100 by omega) (show (((slots + 128) + 0) + 0) ≤ slots + 8000 by omega) (kk ls _ _ _ _ _ _ _ _ _ _ _ _ _ _ _ _ _ _ _ _ _ _ hP hS hR (xI_mono hI) (lv_sub hl [2, 3, 4, 5, 6] rfl))
set_option maxHeartbeats 4000000 in
set_option maxRecDepth 100000 in
theorem lw_15 {p : Program} {l : Launch} {e : Env} {s : State} {m : MethodId} {args : Array Value} {below : List Frame} {meth : Method} {c : Code} {H : Heap} {locs : List Loc} {cells slots : Nat} {Q : State → Prop} {ls : Array Slot} {y : ly_T} {A : Nat → Prop} {G : gk_G} {td : Int32} {ru : Nat → Nat → Int32} {fr lv : Nat → Nat} {lt et tl : Nat → Int32} {hf hp : Nat → Option Nat} {ol : Nat → List Nat} {PS : Nat → Prop} {pf : Nat → Nat → Int32} {ov : Int64} {md mq mt : Int32} {mv : Nat → Nat → Int32} {row : List Nat} {fi : Nat → Nat} {N i n9 sc : Nat} {sf : Nat → Int32} (hfl : l.stackTraces = false) (hK : gk_K p s m c args cL_law RL 7 y A) (hT : va_T .int sc n9 (fun j => .int (sf j)) A s s.heap) (hP : gk_P (ly_D y) A G H) (hS : va_S A s.heap H locs) (hR : rp y G td ru fr lv lt et tl hf hp ol PS pf ov md mq mt mv) (hI : xI td ru fr (lv, lt, et, tl, ol, PS, pf) hf hp row fi md mq mv N) (hN : N < 512) (hc : cells + 100 ≤ 601024) (hs : slots + 8000 ≤ 7293034) (hi : i + 7 ≤ n9) (hn9 : n9 ≤ 3584) (hl : lv_has ls 7 [(4, .int (nI i)), (0, .ref sc), (1, .ref (ly_a y 0)), (2, .ref (ly_a y 5)), (3, .ref (ly_a y 4))]) (kk : ∀ (ls : Array Slot) (H : Heap) (locs : List Loc) (G : gk_G) (td : Int32) (ru : Nat → Nat → Int32) (fr lv : Nat → Nat) (lt et tl : Nat → Int32) (hf hp : Nat → Option Nat) (ol : Nat → List Nat) (PS : Nat → Prop) (pf : Nat → Nat → Int32) (ov : Int64) (md mq mt : Int32) (mv : Nat → Nat → Int32) (row : List Nat) (fi : Nat → Nat), gk_P (ly_D y) A G H → va_S A s.heap H locs → rp y G td ru fr lv lt et tl hf hp ol PS pf ov md mq mt mv → xI td ru fr (lv, lt, et, tl, ol, PS, pf) hf hp row fi md mq mv (N + 1) → lv_has ls 7 [(4, .int (nI i)), (0, .ref sc), (1, .ref (ly_a y 0)), (2, .ref (ly_a y 5)), (3, .ref (ly_a y 4))] → W p l e { frames := 12, cells := 601024, slots := 7293034, locals := 444 } s m args below meth c H locs (cells + 100) (slots + 8000) Q (F0 m 1428 ls [])) : W p l e { frames := 12, cells := 601024, slots := 7293034, locals := 444 } s m args below meth c H locs cells slots Q (F0 m 1049 ls []) := by
  refine lv_aload_n hK.1.1 hK.1.2.1 dL_law_1049 rfl (lv_at hl 2 rfl) ?_
  refine lv_aload_n hK.1.1 hK.1.2.1 dL_law_1050 rfl (lv_at hl 1 rfl) ?_
  refine lv_iload hK.1.1 hK.1.2.1 dL_law_1051 (lv_at hl 0 rfl) ?_
  refine lv_iconst (v := 1) hK.1.1 hK.1.2.1 dL_law_1053 (by decide) ?_
  refine lv_iadd hK.1.1 hK.1.2.1 dL_law_1054 ?_
  rw [show nI i + 1 = nI (i + 1) from nI_add i 1]
  refine va_ti hK.1.1 hK.1.2.1 hT hS (vp_in_nI (show i + 1 < n9 by omega) (by omega)) (v := .int (sf (i + 1))) (by rw [nI_clamp (by omega)]) dL_law_1055 ?_
  refine lv_aload_n hK.1.1 hK.1.2.1 dL_law_1056 rfl (lv_at hl 4 rfl) ?_
  refine gk_callSW (n := 3) (As := [.ref (ly_a y 0), .int (sf (i + 1)), .ref (ly_a y 4)]) (rest := []) hK (c_L_olds l hfl hR (i := (sf (i + 1))) ) (gk_gS q_20_22 q_20_23 q_5_0 q_21_0) ⟨by decide +kernel, by decide +kernel, by decide +kernel⟩ ⟨(Nat.le_of_ble_eq_true rfl), (Nat.le_of_ble_eq_true rfl)⟩ hP hS rfl hl.1 rfl (Nat.le_of_ble_eq_true rfl) dL_law_1057 ⟨(by show cells + 16 ≤ 601024; omega), (by show slots + 128 ≤ 7293034; omega)⟩ (fun v G1 H locs hw hP hS => ?_)
  rcases hw with ⟨f, hf5, e1, rfl, hR⟩ | ⟨ho, rfl, hR⟩
  · refine W.eq (g2 := F0 m 1060 ls [.int 0]) rfl ?_
    refine lv_istore (lv' := [(5, .int 0), (4, .int (nI i)), (0, .ref sc), (1, .ref (ly_a y 0)), (2, .ref (ly_a y 5)), (3, .ref (ly_a y 4))]) hK.1.1 hK.1.2.1 dL_law_1060 hl (by decide) rfl (fun ls hl => ?_)
    refine lv_aload_n hK.1.1 hK.1.2.1 dL_law_1062 rfl (lv_at hl 4 rfl) ?_
    refine lv_aload_n hK.1.1 hK.1.2.1 dL_law_1063 rfl (lv_at hl 2 rfl) ?_
    refine lv_iload hK.1.1 hK.1.2.1 dL_law_1064 (lv_at hl 1 rfl) ?_
    refine lv_iconst (v := 1) hK.1.1 hK.1.2.1 dL_law_1066 (by decide) ?_
    refine lv_iadd hK.1.1 hK.1.2.1 dL_law_1067 ?_
    rw [show nI i + 1 = nI (i + 1) from nI_add i 1]
    refine va_ti hK.1.1 hK.1.2.1 hT hS (vp_in_nI (show i + 1 < n9 by omega) (by omega)) (v := .int (sf (i + 1))) (by rw [nI_clamp (by omega)]) dL_law_1068 ?_
    refine gk_callV0 (n := 1) (As := [.int (sf (i + 1))]) (rest := []) hK (c_X5_olds l hR (i := (sf (i + 1))) (n9 := row.length) (xI_q hI hN).1 (by have := (xI_q hI hN).2; omega)) (gk_gV q_21_5 q_21_6 q_21_7 q_1_5 q_21_8) ⟨rfl, by decide +kernel, by decide +kernel, by decide +kernel⟩ ⟨(Nat.le_of_ble_eq_true rfl), (Nat.le_of_ble_eq_true rfl)⟩ hP hS (gk_recv hK.2.2.1.1 hP hR.2.2.2.2.2.2.2.2.1 rfl) rfl hl.1 rfl (Nat.le_of_ble_eq_true rfl) dL_law_1069 ⟨(by show (cells + 16) + 0 ≤ 601024; omega), (by show (slots + 128) + 0 ≤ 7293034; omega)⟩ (fun v G1 H locs hw hP hS => ?_)
    rcases hw with ⟨f2, h2, e2, rfl, hR⟩ | ⟨ho2, ⟨x, rfl⟩, hR⟩
    · obtain rfl : f = f2 := (nI_eq (by omega) (by omega)).mp (e1.symm.trans e2)
      refine W.eq (g2 := F0 m 1072 ls [.int (nI (m_cnt mv (nI f) row.length))]) rfl ?_
      refine lv_istore (lv' := [(6, .int (nI (m_cnt mv (nI f) row.length))), (5, .int 0), (4, .int (nI i)), (0, .ref sc), (1, .ref (ly_a y 0)), (2, .ref (ly_a y 5)), (3, .ref (ly_a y 4))]) hK.1.1 hK.1.2.1 dL_law_1072 hl (by decide) rfl (fun ls hl => ?_)
      refine lv_aload_n hK.1.1 hK.1.2.1 dL_law_1074 rfl (lv_at hl 5 rfl) ?_
      refine gk_callV0 (n := 0) (As := []) (rest := []) hK (c_X5_thrown l hR) (gk_gV q_6_14 q_6_15 q_6_16 q_1_5 q_6_17) ⟨rfl, by decide +kernel, by decide +kernel, by decide +kernel⟩ ⟨(Nat.le_of_ble_eq_true rfl), (Nat.le_of_ble_eq_true rfl)⟩ hP hS (gk_recv hK.2.2.1.1 hP hR.2.2.2.2.2.2.2.2.1 rfl) rfl hl.1 rfl (Nat.le_of_ble_eq_true rfl) dL_law_1075 ⟨(by show ((cells + 16) + 0) + 0 ≤ 601024; omega), (by show ((slots + 128) + 0) + 0 ≤ 7293034; omega)⟩ (fun v G1 H locs hw hP hS => ?_)
      obtain ⟨rfl, hG9⟩ := hw
      rw [hG9] at hP
      refine W.eq (g2 := F0 m 1078 ls [.int 0]) rfl ?_
      refine lv_iload hK.1.1 hK.1.2.1 dL_law_1078 (lv_at hl 1 rfl) ?_
      refine lv_icmp_eq (tgt := 1085) hK.1.1 hK.1.2.1 dL_law_1080 (by decide) (fun _ => ?_) (fun c => absurd (by decide) c)
      refine lv_iload hK.1.1 hK.1.2.1 dL_law_1085 (lv_at hl 1 rfl) ?_
      refine lv_if_ne (tgt := 1102) hK.1.1 hK.1.2.1 dL_law_1087 (by decide) (fun c => absurd c (by decide)) (fun _ => ?_)
      refine lv_aload_n hK.1.1 hK.1.2.1 dL_law_1090 rfl (lv_at hl 6 rfl) ?_
      refine lv_iconst (v := 0) hK.1.1 hK.1.2.1 dL_law_1091 (by decide) ?_
      refine lo_get hK hP hR dL_law_1092 ?_
      refine lv_iload hK.1.1 hK.1.2.1 dL_law_1093 (lv_at hl 0 rfl) ?_
      refine lv_i2l hK.1.1 hK.1.2.1 dL_law_1095 rfl ?_
      refine W.lcmp hK.1.1 hK.1.2.1 dL_law_1096 ?_
      refine lv_if_eq (tgt := 1102) hK.1.1 hK.1.2.1 dL_law_1097 (by decide) (fun _ => ?_) (fun c => absurd (by rw [show m_cnt mv (nI f) row.length = (ol f).length from xI_olds hI hf5]; simp [lg_cmp]) c)
      refine lv_goto (tgt := 1428) hK.1.1 hK.1.2.1 dL_law_1102 (by decide) ?_
      exact W.widen (show (((cells + 16) + 0) + 0) ≤ cells + 100 by omega) (show (((slots + 128) + 0) + 0) ≤ slots + 8000 by omega) (kk ls _ _ _ _ _ _ _ _ _ _ _ _ _ _ _ _ _ _ _ _ _ _ hP hS hR (xI_mono hI) (lv_sub hl [2, 3, 4, 5, 6] rfl))
    · exact absurd (e1 ▸ ho2) (rg_out_no hf5 (by decide))
  · refine W.eq (g2 := F0 m 1060 ls [.int 1]) rfl ?_
    refine lv_istore (lv' := [(5, .int 1), (4, .int (nI i)), (0, .ref sc), (1, .ref (ly_a y 0)), (2, .ref (ly_a y 5)), (3, .ref (ly_a y 4))]) hK.1.1 hK.1.2.1 dL_law_1060 hl (by decide) rfl (fun ls hl => ?_)
    refine lv_aload_n hK.1.1 hK.1.2.1 dL_law_1062 rfl (lv_at hl 4 rfl) ?_
    refine lv_aload_n hK.1.1 hK.1.2.1 dL_law_1063 rfl (lv_at hl 2 rfl) ?_
    refine lv_iload hK.1.1 hK.1.2.1 dL_law_1064 (lv_at hl 1 rfl) ?_
    refine lv_iconst (v := 1) hK.1.1 hK.1.2.1 dL_law_1066 (by decide) ?_
    refine lv_iadd hK.1.1 hK.1.2.1 dL_law_1067 ?_
    rw [show nI i + 1 = nI (i + 1) from nI_add i 1]
    refine va_ti hK.1.1 hK.1.2.1 hT hS (vp_in_nI (show i + 1 < n9 by omega) (by omega)) (v := .int (sf (i + 1))) (by rw [nI_clamp (by omega)]) dL_law_1068 ?_
    refine gk_callV0 (n := 1) (As := [.int (sf (i + 1))]) (rest := []) hK (c_X5_olds l hR (i := (sf (i + 1))) (n9 := row.length) (xI_q hI hN).1 (by have := (xI_q hI hN).2; omega)) (gk_gV q_21_5 q_21_6 q_21_7 q_1_5 q_21_8) ⟨rfl, by decide +kernel, by decide +kernel, by decide +kernel⟩ ⟨(Nat.le_of_ble_eq_true rfl), (Nat.le_of_ble_eq_true rfl)⟩ hP hS (gk_recv hK.2.2.1.1 hP hR.2.2.2.2.2.2.2.2.1 rfl) rfl hl.1 rfl (Nat.le_of_ble_eq_true rfl) dL_law_1069 ⟨(by show (cells + 16) + 0 ≤ 601024; omega), (by show (slots + 128) + 0 ≤ 7293034; omega)⟩ (fun v G1 H locs hw hP hS => ?_)
    rcases hw with ⟨f2, h2, e2, rfl, hR⟩ | ⟨ho2, ⟨x, rfl⟩, hR⟩
    · exact absurd (e2 ▸ ho) (rg_out_no h2 (by decide))
    · refine W.eq (g2 := F0 m 1072 ls [.int x]) rfl ?_
      refine lv_istore (lv' := [(6, .int x), (5, .int 1), (4, .int (nI i)), (0, .ref sc), (1, .ref (ly_a y 0)), (2, .ref (ly_a y 5)), (3, .ref (ly_a y 4))]) hK.1.1 hK.1.2.1 dL_law_1072 hl (by decide) rfl (fun ls hl => ?_)
      refine lv_aload_n hK.1.1 hK.1.2.1 dL_law_1074 rfl (lv_at hl 5 rfl) ?_
      refine gk_callV0 (n := 0) (As := []) (rest := []) hK (c_X5_thrown l hR) (gk_gV q_6_14 q_6_15 q_6_16 q_1_5 q_6_17) ⟨rfl, by decide +kernel, by decide +kernel, by decide +kernel⟩ ⟨(Nat.le_of_ble_eq_true rfl), (Nat.le_of_ble_eq_true rfl)⟩ hP hS (gk_recv hK.2.2.1.1 hP hR.2.2.2.2.2.2.2.2.1 rfl) rfl hl.1 rfl (Nat.le_of_ble_eq_true rfl) dL_law_1075 ⟨(by show ((cells + 16) + 0) + 0 ≤ 601024; omega), (by show ((slots + 128) + 0) + 0 ≤ 7293034; omega)⟩ (fun v G1 H locs hw hP hS => ?_)
      obtain ⟨rfl, hG9⟩ := hw
      rw [hG9] at hP
      refine W.eq (g2 := F0 m 1078 ls [.int 1]) rfl ?_
      refine lv_iload hK.1.1 hK.1.2.1 dL_law_1078 (lv_at hl 1 rfl) ?_
      refine lv_icmp_eq (tgt := 1085) hK.1.1 hK.1.2.1 dL_law_1080 (by decide) (fun _ => ?_) (fun c => absurd (by decide) c)
      refine lv_iload hK.1.1 hK.1.2.1 dL_law_1085 (lv_at hl 1 rfl) ?_
      refine lv_if_ne (tgt := 1102) hK.1.1 hK.1.2.1 dL_law_1087 (by decide) (fun _ => ?_) (fun c => absurd c (by decide))
      refine lv_goto (tgt := 1428) hK.1.1 hK.1.2.1 dL_law_1102 (by decide) ?_
      exact W.widen (show (((cells + 16) + 0) + 0) ≤ cells + 100 by omega) (show (((slots + 128) + 0) + 0) ≤ slots + 8000 by omega) (kk ls _ _ _ _ _ _ _ _ _ _ _ _ _ _ _ _ _ _ _ _ _ _ hP hS hR (xI_mono hI) (lv_sub hl [2, 3, 4, 5, 6] rfl))
set_option maxHeartbeats 4000000 in
set_option maxRecDepth 100000 in
theorem lw_10 {p : Program} {l : Launch} {e : Env} {s : State} {m : MethodId} {args : Array Value} {below : List Frame} {meth : Method} {c : Code} {H : Heap} {locs : List Loc} {cells slots : Nat} {Q : State → Prop} {ls : Array Slot} {y : ly_T} {A : Nat → Prop} {G : gk_G} {td : Int32} {ru : Nat → Nat → Int32} {fr lv : Nat → Nat} {lt et tl : Nat → Int32} {hf hp : Nat → Option Nat} {ol : Nat → List Nat} {PS : Nat → Prop} {pf : Nat → Nat → Int32} {ov : Int64} {md mq mt : Int32} {mv : Nat → Nat → Int32} {row : List Nat} {fi : Nat → Nat} {N i n9 sc : Nat} {sf : Nat → Int32} (hfl : l.stackTraces = false) (hK : gk_K p s m c args cL_law RL 7 y A) (hT : va_T .int sc n9 (fun j => .int (sf j)) A s s.heap) (hP : gk_P (ly_D y) A G H) (hS : va_S A s.heap H locs) (hR : rp y G td ru fr lv lt et tl hf hp ol PS pf ov md mq mt mv) (hI : xI td ru fr (lv, lt, et, tl, ol, PS, pf) hf hp row fi md mq mv N) (hN : N < 512) (hc : cells + 100 ≤ 601024) (hs : slots + 8000 ≤ 7293034) (hi : i + 7 ≤ n9) (hn9 : n9 ≤ 3584) (hl : lv_has ls 7 [(4, .int (nI i)), (0, .ref sc), (1, .ref (ly_a y 0)), (2, .ref (ly_a y 5)), (3, .ref (ly_a y 4))]) (kk : ∀ (ls : Array Slot) (H : Heap) (locs : List Loc) (G : gk_G) (td : Int32) (ru : Nat → Nat → Int32) (fr lv : Nat → Nat) (lt et tl : Nat → Int32) (hf hp : Nat → Option Nat) (ol : Nat → List Nat) (PS : Nat → Prop) (pf : Nat → Nat → Int32) (ov : Int64) (md mq mt : Int32) (mv : Nat → Nat → Int32) (row : List Nat) (fi : Nat → Nat), gk_P (ly_D y) A G H → va_S A s.heap H locs → rp y G td ru fr lv lt et tl hf hp ol PS pf ov md mq mt mv → xI td ru fr (lv, lt, et, tl, ol, PS, pf) hf hp row fi md mq mv (N + 1) → lv_has ls 7 [(4, .int (nI i)), (0, .ref sc), (1, .ref (ly_a y 0)), (2, .ref (ly_a y 5)), (3, .ref (ly_a y 4))] → W p l e { frames := 12, cells := 601024, slots := 7293034, locals := 444 } s m args below meth c H locs (cells + 100) (slots + 8000) Q (F0 m 1428 ls [])) : W p l e { frames := 12, cells := 601024, slots := 7293034, locals := 444 } s m args below meth c H locs cells slots Q (F0 m 805 ls []) := by
  refine lv_aload_n hK.1.1 hK.1.2.1 dL_law_805 rfl (lv_at hl 2 rfl) ?_
  refine lv_aload_n hK.1.1 hK.1.2.1 dL_law_806 rfl (lv_at hl 1 rfl) ?_
  refine lv_iload hK.1.1 hK.1.2.1 dL_law_807 (lv_at hl 0 rfl) ?_
  refine lv_iconst (v := 1) hK.1.1 hK.1.2.1 dL_law_809 (by decide) ?_
  refine lv_iadd hK.1.1 hK.1.2.1 dL_law_810 ?_
  rw [show nI i + 1 = nI (i + 1) from nI_add i 1]
  refine va_ti hK.1.1 hK.1.2.1 hT hS (vp_in_nI (show i + 1 < n9 by omega) (by omega)) (v := .int (sf (i + 1))) (by rw [nI_clamp (by omega)]) dL_law_811 ?_
  refine lv_aload_n hK.1.1 hK.1.2.1 dL_law_812 rfl (lv_at hl 4 rfl) ?_
  refine gk_callSW (n := 3) (As := [.ref (ly_a y 0), .int (sf (i + 1)), .ref (ly_a y 4)]) (rest := []) hK (c_L_lose l hfl hR (i := (sf (i + 1))) ) (gk_gS q_18_18 q_18_19 q_5_0 q_18_20) ⟨by decide +kernel, by decide +kernel, by decide +kernel⟩ ⟨(Nat.le_of_ble_eq_true rfl), (Nat.le_of_ble_eq_true rfl)⟩ hP hS rfl hl.1 rfl (Nat.le_of_ble_eq_true rfl) dL_law_813 ⟨(by show cells + 16 ≤ 601024; omega), (by show slots + 128 ≤ 7293034; omega)⟩ (fun v G1 H locs hw hP hS => ?_)
  rcases hw with ⟨f, hf5, e1, rfl, hR⟩ | ⟨ho, rfl, hR⟩
  · refine W.eq (g2 := F0 m 816 ls [.int 0]) rfl ?_
    refine lv_istore (lv' := [(5, .int 0), (4, .int (nI i)), (0, .ref sc), (1, .ref (ly_a y 0)), (2, .ref (ly_a y 5)), (3, .ref (ly_a y 4))]) hK.1.1 hK.1.2.1 dL_law_816 hl (by decide) rfl (fun ls hl => ?_)
    refine lv_aload_n hK.1.1 hK.1.2.1 dL_law_818 rfl (lv_at hl 4 rfl) ?_
    refine lv_aload_n hK.1.1 hK.1.2.1 dL_law_819 rfl (lv_at hl 2 rfl) ?_
    refine lv_iload hK.1.1 hK.1.2.1 dL_law_820 (lv_at hl 1 rfl) ?_
    refine lv_iconst (v := 1) hK.1.1 hK.1.2.1 dL_law_822 (by decide) ?_
    refine lv_iadd hK.1.1 hK.1.2.1 dL_law_823 ?_
    rw [show nI i + 1 = nI (i + 1) from nI_add i 1]
    refine va_ti hK.1.1 hK.1.2.1 hT hS (vp_in_nI (show i + 1 < n9 by omega) (by omega)) (v := .int (sf (i + 1))) (by rw [nI_clamp (by omega)]) dL_law_824 ?_
    refine gk_callV0 (n := 1) (As := [.int (sf (i + 1))]) (rest := []) hK (c_X5_lose l hR (i := (sf (i + 1))) ) (gk_gV q_19_1 q_19_2 q_19_3 q_1_5 q_19_4) ⟨rfl, by decide +kernel, by decide +kernel, by decide +kernel⟩ ⟨(Nat.le_of_ble_eq_true rfl), (Nat.le_of_ble_eq_true rfl)⟩ hP hS (gk_recv hK.2.2.1.1 hP hR.2.2.2.2.2.2.2.2.1 rfl) rfl hl.1 rfl (Nat.le_of_ble_eq_true rfl) dL_law_825 ⟨(by show (cells + 16) + 0 ≤ 601024; omega), (by show (slots + 128) + 0 ≤ 7293034; omega)⟩ (fun v G1 H locs hw hP hS => ?_)
    rcases hw with ⟨f2, h2, e2, rfl, hR⟩ | ⟨ho2, ⟨x, rfl⟩, hR⟩
    · obtain rfl : f = f2 := (nI_eq (by omega) (by omega)).mp (e1.symm.trans e2)
      refine W.eq (g2 := F0 m 828 ls [.int (mv 11 f)]) rfl ?_
      refine lv_istore (lv' := [(6, .int (mv 11 f)), (5, .int 0), (4, .int (nI i)), (0, .ref sc), (1, .ref (ly_a y 0)), (2, .ref (ly_a y 5)), (3, .ref (ly_a y 4))]) hK.1.1 hK.1.2.1 dL_law_828 hl (by decide) rfl (fun ls hl => ?_)
      refine lv_aload_n hK.1.1 hK.1.2.1 dL_law_830 rfl (lv_at hl 5 rfl) ?_
      refine gk_callV0 (n := 0) (As := []) (rest := []) hK (c_X5_thrown l hR) (gk_gV q_6_14 q_6_15 q_6_16 q_1_5 q_6_17) ⟨rfl, by decide +kernel, by decide +kernel, by decide +kernel⟩ ⟨(Nat.le_of_ble_eq_true rfl), (Nat.le_of_ble_eq_true rfl)⟩ hP hS (gk_recv hK.2.2.1.1 hP hR.2.2.2.2.2.2.2.2.1 rfl) rfl hl.1 rfl (Nat.le_of_ble_eq_true rfl) dL_law_831 ⟨(by show ((cells + 16) + 0) + 0 ≤ 601024; omega), (by show ((slots + 128) + 0) + 0 ≤ 7293034; omega)⟩ (fun v G1 H locs hw hP hS => ?_)
      obtain ⟨rfl, hG9⟩ := hw
      rw [hG9] at hP
      refine W.eq (g2 := F0 m 834 ls [.int 0]) rfl ?_
      refine lv_iload hK.1.1 hK.1.2.1 dL_law_834 (lv_at hl 1 rfl) ?_
      refine lv_icmp_eq (tgt := 841) hK.1.1 hK.1.2.1 dL_law_836 (by decide) (fun _ => ?_) (fun c => absurd (by decide) c)
      refine lv_iload hK.1.1 hK.1.2.1 dL_law_841 (lv_at hl 1 rfl) ?_
      refine lv_if_ne (tgt := 858) hK.1.1 hK.1.2.1 dL_law_843 (by decide) (fun c => absurd c (by decide)) (fun _ => ?_)
      refine lv_aload_n hK.1.1 hK.1.2.1 dL_law_846 rfl (lv_at hl 6 rfl) ?_
      refine lv_iconst (v := 0) hK.1.1 hK.1.2.1 dL_law_847 (by decide) ?_
      refine lo_get hK hP hR dL_law_848 ?_
      refine lv_iload hK.1.1 hK.1.2.1 dL_law_849 (lv_at hl 0 rfl) ?_
      refine lv_i2l hK.1.1 hK.1.2.1 dL_law_851 rfl ?_
      refine W.lcmp hK.1.1 hK.1.2.1 dL_law_852 ?_
      refine lv_if_eq (tgt := 858) hK.1.1 hK.1.2.1 dL_law_853 (by decide) (fun _ => ?_) (fun c => absurd (by rw [show mv 11 f = lt f from (hI.1.2.2.2.1 f hf5).2.2.1]; simp [lg_cmp]) c)
      refine lv_goto (tgt := 1428) hK.1.1 hK.1.2.1 dL_law_858 (by decide) ?_
      exact W.widen (show (((cells + 16) + 0) + 0) ≤ cells + 100 by omega) (show (((slots + 128) + 0) + 0) ≤ slots + 8000 by omega) (kk ls _ _ _ _ _ _ _ _ _ _ _ _ _ _ _ _ _ _ _ _ _ _ hP hS hR (xI_lose hI hf5) (lv_sub hl [2, 3, 4, 5, 6] rfl))
    · exact absurd (e1 ▸ ho2) (rg_out_no hf5 (by decide))
  · refine W.eq (g2 := F0 m 816 ls [.int 1]) rfl ?_
    refine lv_istore (lv' := [(5, .int 1), (4, .int (nI i)), (0, .ref sc), (1, .ref (ly_a y 0)), (2, .ref (ly_a y 5)), (3, .ref (ly_a y 4))]) hK.1.1 hK.1.2.1 dL_law_816 hl (by decide) rfl (fun ls hl => ?_)
    refine lv_aload_n hK.1.1 hK.1.2.1 dL_law_818 rfl (lv_at hl 4 rfl) ?_
    refine lv_aload_n hK.1.1 hK.1.2.1 dL_law_819 rfl (lv_at hl 2 rfl) ?_
    refine lv_iload hK.1.1 hK.1.2.1 dL_law_820 (lv_at hl 1 rfl) ?_
    refine lv_iconst (v := 1) hK.1.1 hK.1.2.1 dL_law_822 (by decide) ?_
    refine lv_iadd hK.1.1 hK.1.2.1 dL_law_823 ?_
    rw [show nI i + 1 = nI (i + 1) from nI_add i 1]
    refine va_ti hK.1.1 hK.1.2.1 hT hS (vp_in_nI (show i + 1 < n9 by omega) (by omega)) (v := .int (sf (i + 1))) (by rw [nI_clamp (by omega)]) dL_law_824 ?_
    refine gk_callV0 (n := 1) (As := [.int (sf (i + 1))]) (rest := []) hK (c_X5_lose l hR (i := (sf (i + 1))) ) (gk_gV q_19_1 q_19_2 q_19_3 q_1_5 q_19_4) ⟨rfl, by decide +kernel, by decide +kernel, by decide +kernel⟩ ⟨(Nat.le_of_ble_eq_true rfl), (Nat.le_of_ble_eq_true rfl)⟩ hP hS (gk_recv hK.2.2.1.1 hP hR.2.2.2.2.2.2.2.2.1 rfl) rfl hl.1 rfl (Nat.le_of_ble_eq_true rfl) dL_law_825 ⟨(by show (cells + 16) + 0 ≤ 601024; omega), (by show (slots + 128) + 0 ≤ 7293034; omega)⟩ (fun v G1 H locs hw hP hS => ?_)
    rcases hw with ⟨f2, h2, e2, rfl, hR⟩ | ⟨ho2, ⟨x, rfl⟩, hR⟩
    · exact absurd (e2 ▸ ho) (rg_out_no h2 (by decide))
    · refine W.eq (g2 := F0 m 828 ls [.int x]) rfl ?_
      refine lv_istore (lv' := [(6, .int x), (5, .int 1), (4, .int (nI i)), (0, .ref sc), (1, .ref (ly_a y 0)), (2, .ref (ly_a y 5)), (3, .ref (ly_a y 4))]) hK.1.1 hK.1.2.1 dL_law_828 hl (by decide) rfl (fun ls hl => ?_)
      refine lv_aload_n hK.1.1 hK.1.2.1 dL_law_830 rfl (lv_at hl 5 rfl) ?_
      refine gk_callV0 (n := 0) (As := []) (rest := []) hK (c_X5_thrown l hR) (gk_gV q_6_14 q_6_15 q_6_16 q_1_5 q_6_17) ⟨rfl, by decide +kernel, by decide +kernel, by decide +kernel⟩ ⟨(Nat.le_of_ble_eq_true rfl), (Nat.le_of_ble_eq_true rfl)⟩ hP hS (gk_recv hK.2.2.1.1 hP hR.2.2.2.2.2.2.2.2.1 rfl) rfl hl.1 rfl (Nat.le_of_ble_eq_true rfl) dL_law_831 ⟨(by show ((cells + 16) + 0) + 0 ≤ 601024; omega), (by show ((slots + 128) + 0) + 0 ≤ 7293034; omega)⟩ (fun v G1 H locs hw hP hS => ?_)
      obtain ⟨rfl, hG9⟩ := hw
      rw [hG9] at hP
      refine W.eq (g2 := F0 m 834 ls [.int 1]) rfl ?_
      refine lv_iload hK.1.1 hK.1.2.1 dL_law_834 (lv_at hl 1 rfl) ?_
      refine lv_icmp_eq (tgt := 841) hK.1.1 hK.1.2.1 dL_law_836 (by decide) (fun _ => ?_) (fun c => absurd (by decide) c)
      refine lv_iload hK.1.1 hK.1.2.1 dL_law_841 (lv_at hl 1 rfl) ?_
      refine lv_if_ne (tgt := 858) hK.1.1 hK.1.2.1 dL_law_843 (by decide) (fun _ => ?_) (fun c => absurd c (by decide))
      refine lv_goto (tgt := 1428) hK.1.1 hK.1.2.1 dL_law_858 (by decide) ?_
      exact W.widen (show (((cells + 16) + 0) + 0) ≤ cells + 100 by omega) (show (((slots + 128) + 0) + 0) ≤ slots + 8000 by omega) (kk ls _ _ _ _ _ _ _ _ _ _ _ _ _ _ _ _ _ _ _ _ _ _ hP hS hR (xI_mono hI) (lv_sub hl [2, 3, 4, 5, 6] rfl))
set_option maxHeartbeats 4000000 in
set_option maxRecDepth 100000 in
theorem lw_16 {p : Program} {l : Launch} {e : Env} {s : State} {m : MethodId} {args : Array Value} {below : List Frame} {meth : Method} {c : Code} {H : Heap} {locs : List Loc} {cells slots : Nat} {Q : State → Prop} {ls : Array Slot} {y : ly_T} {A : Nat → Prop} {G : gk_G} {td : Int32} {ru : Nat → Nat → Int32} {fr lv : Nat → Nat} {lt et tl : Nat → Int32} {hf hp : Nat → Option Nat} {ol : Nat → List Nat} {PS : Nat → Prop} {pf : Nat → Nat → Int32} {ov : Int64} {md mq mt : Int32} {mv : Nat → Nat → Int32} {row : List Nat} {fi : Nat → Nat} {N i n9 sc : Nat} {sf : Nat → Int32} (hfl : l.stackTraces = false) (hK : gk_K p s m c args cL_law RL 7 y A) (hT : va_T .int sc n9 (fun j => .int (sf j)) A s s.heap) (hP : gk_P (ly_D y) A G H) (hS : va_S A s.heap H locs) (hR : rp y G td ru fr lv lt et tl hf hp ol PS pf ov md mq mt mv) (hI : xI td ru fr (lv, lt, et, tl, ol, PS, pf) hf hp row fi md mq mv N) (hN : N < 512) (hc : cells + 100 ≤ 601024) (hs : slots + 8000 ≤ 7293034) (hi : i + 7 ≤ n9) (hn9 : n9 ≤ 3584) (hl : lv_has ls 7 [(4, .int (nI i)), (0, .ref sc), (1, .ref (ly_a y 0)), (2, .ref (ly_a y 5)), (3, .ref (ly_a y 4))]) (kk : ∀ (ls : Array Slot) (H : Heap) (locs : List Loc) (G : gk_G) (td : Int32) (ru : Nat → Nat → Int32) (fr lv : Nat → Nat) (lt et tl : Nat → Int32) (hf hp : Nat → Option Nat) (ol : Nat → List Nat) (PS : Nat → Prop) (pf : Nat → Nat → Int32) (ov : Int64) (md mq mt : Int32) (mv : Nat → Nat → Int32) (row : List Nat) (fi : Nat → Nat), gk_P (ly_D y) A G H → va_S A s.heap H locs → rp y G td ru fr lv lt et tl hf hp ol PS pf ov md mq mt mv → xI td ru fr (lv, lt, et, tl, ol, PS, pf) hf hp row fi md mq mv (N + 1) → lv_has ls 7 [(4, .int (nI i)), (0, .ref sc), (1, .ref (ly_a y 0)), (2, .ref (ly_a y 5)), (3, .ref (ly_a y 4))] → W p l e { frames := 12, cells := 601024, slots := 7293034, locals := 444 } s m args below meth c H locs (cells + 100) (slots + 8000) Q (F0 m 1428 ls [])) : W p l e { frames := 12, cells := 601024, slots := 7293034, locals := 444 } s m args below meth c H locs cells slots Q (F0 m 1105 ls []) := by
  refine lv_aload_n hK.1.1 hK.1.2.1 dL_law_1105 rfl (lv_at hl 2 rfl) ?_
  refine lv_aload_n hK.1.1 hK.1.2.1 dL_law_1106 rfl (lv_at hl 1 rfl) ?_
  refine lv_iload hK.1.1 hK.1.2.1 dL_law_1107 (lv_at hl 0 rfl) ?_
  refine lv_iconst (v := 1) hK.1.1 hK.1.2.1 dL_law_1109 (by decide) ?_
  refine lv_iadd hK.1.1 hK.1.2.1 dL_law_1110 ?_
  rw [show nI i + 1 = nI (i + 1) from nI_add i 1]
  refine va_ti hK.1.1 hK.1.2.1 hT hS (vp_in_nI (show i + 1 < n9 by omega) (by omega)) (v := .int (sf (i + 1))) (by rw [nI_clamp (by omega)]) dL_law_1111 ?_
  refine lv_aload_n hK.1.1 hK.1.2.1 dL_law_1112 rfl (lv_at hl 1 rfl) ?_
  refine lv_iload hK.1.1 hK.1.2.1 dL_law_1113 (lv_at hl 0 rfl) ?_
  refine lv_iconst (v := 2) hK.1.1 hK.1.2.1 dL_law_1115 (by decide) ?_
  refine lv_iadd hK.1.1 hK.1.2.1 dL_law_1116 ?_
  rw [show nI i + 2 = nI (i + 2) from nI_add i 2]
  refine va_ti hK.1.1 hK.1.2.1 hT hS (vp_in_nI (show i + 2 < n9 by omega) (by omega)) (v := .int (sf (i + 2))) (by rw [nI_clamp (by omega)]) dL_law_1117 ?_
  refine lv_aload_n hK.1.1 hK.1.2.1 dL_law_1118 rfl (lv_at hl 4 rfl) ?_
  refine gk_callSW (n := 4) (As := [.ref (ly_a y 0), .int (sf (i + 1)), .int (sf (i + 2)), .ref (ly_a y 4)]) (rest := []) hK (c_L_lines l hfl hR (i := (sf (i + 1))) (j := (sf (i + 2))) (xI_in5 hI)) (gk_gS q_21_9 q_21_10 q_5_0 q_21_11) ⟨by decide +kernel, by decide +kernel, by decide +kernel⟩ ⟨(Nat.le_of_ble_eq_true rfl), (Nat.le_of_ble_eq_true rfl)⟩ hP hS rfl hl.1 rfl (Nat.le_of_ble_eq_true rfl) dL_law_1119 ⟨(by show cells + 16 ≤ 601024; omega), (by show slots + 128 ≤ 7293034; omega)⟩ (fun v G1 H locs hw hP hS => ?_)
  rcases hw with ⟨f, k, t, hf5, e1, htk, e2, rfl, hR⟩ | ⟨ho, rfl, hR⟩
  · refine W.eq (g2 := F0 m 1122 ls [.int 0]) rfl ?_
    refine lv_istore (lv' := [(5, .int 0), (4, .int (nI i)), (0, .ref sc), (1, .ref (ly_a y 0)), (2, .ref (ly_a y 5)), (3, .ref (ly_a y 4))]) hK.1.1 hK.1.2.1 dL_law_1122 hl (by decide) rfl (fun ls hl => ?_)
    refine lv_aload_n hK.1.1 hK.1.2.1 dL_law_1124 rfl (lv_at hl 4 rfl) ?_
    refine lv_aload_n hK.1.1 hK.1.2.1 dL_law_1125 rfl (lv_at hl 2 rfl) ?_
    refine lv_iload hK.1.1 hK.1.2.1 dL_law_1126 (lv_at hl 1 rfl) ?_
    refine lv_iconst (v := 1) hK.1.1 hK.1.2.1 dL_law_1128 (by decide) ?_
    refine lv_iadd hK.1.1 hK.1.2.1 dL_law_1129 ?_
    rw [show nI i + 1 = nI (i + 1) from nI_add i 1]
    refine va_ti hK.1.1 hK.1.2.1 hT hS (vp_in_nI (show i + 1 < n9 by omega) (by omega)) (v := .int (sf (i + 1))) (by rw [nI_clamp (by omega)]) dL_law_1130 ?_
    refine lv_aload_n hK.1.1 hK.1.2.1 dL_law_1131 rfl (lv_at hl 2 rfl) ?_
    refine lv_iload hK.1.1 hK.1.2.1 dL_law_1132 (lv_at hl 1 rfl) ?_
    refine lv_iconst (v := 2) hK.1.1 hK.1.2.1 dL_law_1134 (by decide) ?_
    refine lv_iadd hK.1.1 hK.1.2.1 dL_law_1135 ?_
    rw [show nI i + 2 = nI (i + 2) from nI_add i 2]
    refine va_ti hK.1.1 hK.1.2.1 hT hS (vp_in_nI (show i + 2 < n9 by omega) (by omega)) (v := .int (sf (i + 2))) (by rw [nI_clamp (by omega)]) dL_law_1136 ?_
    refine gk_callV0 (n := 2) (As := [.int (sf (i + 1)), .int (sf (i + 2))]) (rest := []) hK (c_X5_lines l hR (i := (sf (i + 1))) (j := (sf (i + 2))) (n9 := row.length) (xI_q hI hN).1 (by have := (xI_q hI hN).2; omega)) (gk_gV q_21_19 q_21_20 q_21_21 q_1_5 q_21_22) ⟨rfl, by decide +kernel, by decide +kernel, by decide +kernel⟩ ⟨(Nat.le_of_ble_eq_true rfl), (Nat.le_of_ble_eq_true rfl)⟩ hP hS (gk_recv hK.2.2.1.1 hP hR.2.2.2.2.2.2.2.2.1 rfl) rfl hl.1 rfl (Nat.le_of_ble_eq_true rfl) dL_law_1137 ⟨(by show (cells + 16) + 0 ≤ 601024; omega), (by show (slots + 128) + 0 ≤ 7293034; omega)⟩ (fun v G1 H locs hw hP hS => ?_)
    rcases hw with ⟨pz, hpn, hp14, hpj, rfl, hR⟩ | ⟨hpn, ⟨x, rfl⟩, hR⟩
    · obtain ⟨hrow, hcnt⟩ := (xI_plc_ok hI hN hf5 htk).2 pz hpn (hp14.trans e1) (by rw [← e2, hpj, e1])
      refine W.eq (g2 := F0 m 1140 ls [.int (mv 15 pz)]) rfl ?_
      refine lv_istore (lv' := [(6, .int (mv 15 pz)), (5, .int 0), (4, .int (nI i)), (0, .ref sc), (1, .ref (ly_a y 0)), (2, .ref (ly_a y 5)), (3, .ref (ly_a y 4))]) hK.1.1 hK.1.2.1 dL_law_1140 hl (by decide) rfl (fun ls hl => ?_)
      refine lv_aload_n hK.1.1 hK.1.2.1 dL_law_1142 rfl (lv_at hl 5 rfl) ?_
      refine gk_callV0 (n := 0) (As := []) (rest := []) hK (c_X5_thrown l hR) (gk_gV q_6_14 q_6_15 q_6_16 q_1_5 q_6_17) ⟨rfl, by decide +kernel, by decide +kernel, by decide +kernel⟩ ⟨(Nat.le_of_ble_eq_true rfl), (Nat.le_of_ble_eq_true rfl)⟩ hP hS (gk_recv hK.2.2.1.1 hP hR.2.2.2.2.2.2.2.2.1 rfl) rfl hl.1 rfl (Nat.le_of_ble_eq_true rfl) dL_law_1143 ⟨(by show ((cells + 16) + 0) + 0 ≤ 601024; omega), (by show ((slots + 128) + 0) + 0 ≤ 7293034; omega)⟩ (fun v G1 H locs hw hP hS => ?_)
      obtain ⟨rfl, hG9⟩ := hw
      rw [hG9] at hP
      refine W.eq (g2 := F0 m 1146 ls [.int 0]) rfl ?_
      refine lv_iload hK.1.1 hK.1.2.1 dL_law_1146 (lv_at hl 1 rfl) ?_
      refine lv_icmp_eq (tgt := 1153) hK.1.1 hK.1.2.1 dL_law_1148 (by decide) (fun _ => ?_) (fun c => absurd (by decide) c)
      refine lv_iload hK.1.1 hK.1.2.1 dL_law_1153 (lv_at hl 1 rfl) ?_
      refine lv_if_ne (tgt := 1170) hK.1.1 hK.1.2.1 dL_law_1155 (by decide) (fun c => absurd c (by decide)) (fun _ => ?_)
      refine lv_aload_n hK.1.1 hK.1.2.1 dL_law_1158 rfl (lv_at hl 6 rfl) ?_
      refine lv_iconst (v := 0) hK.1.1 hK.1.2.1 dL_law_1159 (by decide) ?_
      refine lo_get hK hP hR dL_law_1160 ?_
      refine lv_iload hK.1.1 hK.1.2.1 dL_law_1161 (lv_at hl 0 rfl) ?_
      refine lv_i2l hK.1.1 hK.1.2.1 dL_law_1163 rfl ?_
      refine W.lcmp hK.1.1 hK.1.2.1 dL_law_1164 ?_
      refine lv_if_eq (tgt := 1170) hK.1.1 hK.1.2.1 dL_law_1165 (by decide) (fun _ => ?_) (fun c => absurd (by rw [show mv 15 pz = pf 0 t from (hI.1.2.2.2.2.1 pz t hrow).2.1]; simp [lg_cmp]) c)
      refine lv_goto (tgt := 1428) hK.1.1 hK.1.2.1 dL_law_1170 (by decide) ?_
      exact W.widen (show (((cells + 16) + 0) + 0) ≤ cells + 100 by omega) (show (((slots + 128) + 0) + 0) ≤ slots + 8000 by omega) (kk ls _ _ _ _ _ _ _ _ _ _ _ _ _ _ _ _ _ _ _ _ _ _ hP hS hR (xI_mono hI) (lv_sub hl [2, 3, 4, 5, 6] rfl))
    · obtain ⟨pz, p1, p2, p3⟩ := (xI_plc_ok hI hN hf5 htk).1
      exact absurd (by rw [e2, p3, e1]) (hpn pz p1 (p2.trans e1.symm))
  · refine W.eq (g2 := F0 m 1122 ls [.int 1]) rfl ?_
    refine lv_istore (lv' := [(5, .int 1), (4, .int (nI i)), (0, .ref sc), (1, .ref (ly_a y 0)), (2, .ref (ly_a y 5)), (3, .ref (ly_a y 4))]) hK.1.1 hK.1.2.1 dL_law_1122 hl (by decide) rfl (fun ls hl => ?_)
    refine lv_aload_n hK.1.1 hK.1.2.1 dL_law_1124 rfl (lv_at hl 4 rfl) ?_
    refine lv_aload_n hK.1.1 hK.1.2.1 dL_law_1125 rfl (lv_at hl 2 rfl) ?_
    refine lv_iload hK.1.1 hK.1.2.1 dL_law_1126 (lv_at hl 1 rfl) ?_
    refine lv_iconst (v := 1) hK.1.1 hK.1.2.1 dL_law_1128 (by decide) ?_
    refine lv_iadd hK.1.1 hK.1.2.1 dL_law_1129 ?_
    rw [show nI i + 1 = nI (i + 1) from nI_add i 1]
    refine va_ti hK.1.1 hK.1.2.1 hT hS (vp_in_nI (show i + 1 < n9 by omega) (by omega)) (v := .int (sf (i + 1))) (by rw [nI_clamp (by omega)]) dL_law_1130 ?_
    refine lv_aload_n hK.1.1 hK.1.2.1 dL_law_1131 rfl (lv_at hl 2 rfl) ?_
    refine lv_iload hK.1.1 hK.1.2.1 dL_law_1132 (lv_at hl 1 rfl) ?_
    refine lv_iconst (v := 2) hK.1.1 hK.1.2.1 dL_law_1134 (by decide) ?_
    refine lv_iadd hK.1.1 hK.1.2.1 dL_law_1135 ?_
    rw [show nI i + 2 = nI (i + 2) from nI_add i 2]
    refine va_ti hK.1.1 hK.1.2.1 hT hS (vp_in_nI (show i + 2 < n9 by omega) (by omega)) (v := .int (sf (i + 2))) (by rw [nI_clamp (by omega)]) dL_law_1136 ?_
    refine gk_callV0 (n := 2) (As := [.int (sf (i + 1)), .int (sf (i + 2))]) (rest := []) hK (c_X5_lines l hR (i := (sf (i + 1))) (j := (sf (i + 2))) (n9 := row.length) (xI_q hI hN).1 (by have := (xI_q hI hN).2; omega)) (gk_gV q_21_19 q_21_20 q_21_21 q_1_5 q_21_22) ⟨rfl, by decide +kernel, by decide +kernel, by decide +kernel⟩ ⟨(Nat.le_of_ble_eq_true rfl), (Nat.le_of_ble_eq_true rfl)⟩ hP hS (gk_recv hK.2.2.1.1 hP hR.2.2.2.2.2.2.2.2.1 rfl) rfl hl.1 rfl (Nat.le_of_ble_eq_true rfl) dL_law_1137 ⟨(by show (cells + 16) + 0 ≤ 601024; omega), (by show (slots + 128) + 0 ≤ 7293034; omega)⟩ (fun v G1 H locs hw hP hS => ?_)
    rcases hw with ⟨pz, hpn, hp14, hpj, rfl, hR⟩ | ⟨hpn, ⟨x, rfl⟩, hR⟩
    · exact absurd hpj (xI_plc_no hI hN ho pz hpn hp14)
    · refine W.eq (g2 := F0 m 1140 ls [.int x]) rfl ?_
      refine lv_istore (lv' := [(6, .int x), (5, .int 1), (4, .int (nI i)), (0, .ref sc), (1, .ref (ly_a y 0)), (2, .ref (ly_a y 5)), (3, .ref (ly_a y 4))]) hK.1.1 hK.1.2.1 dL_law_1140 hl (by decide) rfl (fun ls hl => ?_)
      refine lv_aload_n hK.1.1 hK.1.2.1 dL_law_1142 rfl (lv_at hl 5 rfl) ?_
      refine gk_callV0 (n := 0) (As := []) (rest := []) hK (c_X5_thrown l hR) (gk_gV q_6_14 q_6_15 q_6_16 q_1_5 q_6_17) ⟨rfl, by decide +kernel, by decide +kernel, by decide +kernel⟩ ⟨(Nat.le_of_ble_eq_true rfl), (Nat.le_of_ble_eq_true rfl)⟩ hP hS (gk_recv hK.2.2.1.1 hP hR.2.2.2.2.2.2.2.2.1 rfl) rfl hl.1 rfl (Nat.le_of_ble_eq_true rfl) dL_law_1143 ⟨(by show ((cells + 16) + 0) + 0 ≤ 601024; omega), (by show ((slots + 128) + 0) + 0 ≤ 7293034; omega)⟩ (fun v G1 H locs hw hP hS => ?_)
      obtain ⟨rfl, hG9⟩ := hw
      rw [hG9] at hP
      refine W.eq (g2 := F0 m 1146 ls [.int 1]) rfl ?_
      refine lv_iload hK.1.1 hK.1.2.1 dL_law_1146 (lv_at hl 1 rfl) ?_
      refine lv_icmp_eq (tgt := 1153) hK.1.1 hK.1.2.1 dL_law_1148 (by decide) (fun _ => ?_) (fun c => absurd (by decide) c)
      refine lv_iload hK.1.1 hK.1.2.1 dL_law_1153 (lv_at hl 1 rfl) ?_
      refine lv_if_ne (tgt := 1170) hK.1.1 hK.1.2.1 dL_law_1155 (by decide) (fun _ => ?_) (fun c => absurd c (by decide))
      refine lv_goto (tgt := 1428) hK.1.1 hK.1.2.1 dL_law_1170 (by decide) ?_
      exact W.widen (show (((cells + 16) + 0) + 0) ≤ cells + 100 by omega) (show (((slots + 128) + 0) + 0) ≤ slots + 8000 by omega) (kk ls _ _ _ _ _ _ _ _ _ _ _ _ _ _ _ _ _ _ _ _ _ _ hP hS hR (xI_mono hI) (lv_sub hl [2, 3, 4, 5, 6] rfl))
set_option maxHeartbeats 4000000 in
set_option maxRecDepth 100000 in
theorem lw_17 {p : Program} {l : Launch} {e : Env} {s : State} {m : MethodId} {args : Array Value} {below : List Frame} {meth : Method} {c : Code} {H : Heap} {locs : List Loc} {cells slots : Nat} {Q : State → Prop} {ls : Array Slot} {y : ly_T} {A : Nat → Prop} {G : gk_G} {td : Int32} {ru : Nat → Nat → Int32} {fr lv : Nat → Nat} {lt et tl : Nat → Int32} {hf hp : Nat → Option Nat} {ol : Nat → List Nat} {PS : Nat → Prop} {pf : Nat → Nat → Int32} {ov : Int64} {md mq mt : Int32} {mv : Nat → Nat → Int32} {row : List Nat} {fi : Nat → Nat} {N i n9 sc : Nat} {sf : Nat → Int32} (hfl : l.stackTraces = false) (hK : gk_K p s m c args cL_law RL 7 y A) (hT : va_T .int sc n9 (fun j => .int (sf j)) A s s.heap) (hP : gk_P (ly_D y) A G H) (hS : va_S A s.heap H locs) (hR : rp y G td ru fr lv lt et tl hf hp ol PS pf ov md mq mt mv) (hI : xI td ru fr (lv, lt, et, tl, ol, PS, pf) hf hp row fi md mq mv N) (hN : N < 512) (hc : cells + 100 ≤ 601024) (hs : slots + 8000 ≤ 7293034) (hi : i + 7 ≤ n9) (hn9 : n9 ≤ 3584) (hl : lv_has ls 7 [(4, .int (nI i)), (0, .ref sc), (1, .ref (ly_a y 0)), (2, .ref (ly_a y 5)), (3, .ref (ly_a y 4))]) (kk : ∀ (ls : Array Slot) (H : Heap) (locs : List Loc) (G : gk_G) (td : Int32) (ru : Nat → Nat → Int32) (fr lv : Nat → Nat) (lt et tl : Nat → Int32) (hf hp : Nat → Option Nat) (ol : Nat → List Nat) (PS : Nat → Prop) (pf : Nat → Nat → Int32) (ov : Int64) (md mq mt : Int32) (mv : Nat → Nat → Int32) (row : List Nat) (fi : Nat → Nat), gk_P (ly_D y) A G H → va_S A s.heap H locs → rp y G td ru fr lv lt et tl hf hp ol PS pf ov md mq mt mv → xI td ru fr (lv, lt, et, tl, ol, PS, pf) hf hp row fi md mq mv (N + 1) → lv_has ls 7 [(4, .int (nI i)), (0, .ref sc), (1, .ref (ly_a y 0)), (2, .ref (ly_a y 5)), (3, .ref (ly_a y 4))] → W p l e { frames := 12, cells := 601024, slots := 7293034, locals := 444 } s m args below meth c H locs (cells + 100) (slots + 8000) Q (F0 m 1428 ls [])) : W p l e { frames := 12, cells := 601024, slots := 7293034, locals := 444 } s m args below meth c H locs cells slots Q (F0 m 1173 ls []) := by
  refine lv_aload_n hK.1.1 hK.1.2.1 dL_law_1173 rfl (lv_at hl 2 rfl) ?_
  refine lv_aload_n hK.1.1 hK.1.2.1 dL_law_1174 rfl (lv_at hl 1 rfl) ?_
  refine lv_iload hK.1.1 hK.1.2.1 dL_law_1175 (lv_at hl 0 rfl) ?_
  refine lv_iconst (v := 1) hK.1.1 hK.1.2.1 dL_law_1177 (by decide) ?_
  refine lv_iadd hK.1.1 hK.1.2.1 dL_law_1178 ?_
  rw [show nI i + 1 = nI (i + 1) from nI_add i 1]
  refine va_ti hK.1.1 hK.1.2.1 hT hS (vp_in_nI (show i + 1 < n9 by omega) (by omega)) (v := .int (sf (i + 1))) (by rw [nI_clamp (by omega)]) dL_law_1179 ?_
  refine lv_aload_n hK.1.1 hK.1.2.1 dL_law_1180 rfl (lv_at hl 1 rfl) ?_
  refine lv_iload hK.1.1 hK.1.2.1 dL_law_1181 (lv_at hl 0 rfl) ?_
  refine lv_iconst (v := 2) hK.1.1 hK.1.2.1 dL_law_1183 (by decide) ?_
  refine lv_iadd hK.1.1 hK.1.2.1 dL_law_1184 ?_
  rw [show nI i + 2 = nI (i + 2) from nI_add i 2]
  refine va_ti hK.1.1 hK.1.2.1 hT hS (vp_in_nI (show i + 2 < n9 by omega) (by omega)) (v := .int (sf (i + 2))) (by rw [nI_clamp (by omega)]) dL_law_1185 ?_
  refine lv_aload_n hK.1.1 hK.1.2.1 dL_law_1186 rfl (lv_at hl 4 rfl) ?_
  refine gk_callSW (n := 4) (As := [.ref (ly_a y 0), .int (sf (i + 1)), .int (sf (i + 2)), .ref (ly_a y 4)]) (rest := []) hK (c_L_name l hfl hR (i := (sf (i + 1))) (j := (sf (i + 2))) (xI_in5 hI)) (gk_gS q_22_3 q_22_4 q_5_0 q_22_5) ⟨by decide +kernel, by decide +kernel, by decide +kernel⟩ ⟨(Nat.le_of_ble_eq_true rfl), (Nat.le_of_ble_eq_true rfl)⟩ hP hS rfl hl.1 rfl (Nat.le_of_ble_eq_true rfl) dL_law_1187 ⟨(by show cells + 16 ≤ 601024; omega), (by show slots + 128 ≤ 7293034; omega)⟩ (fun v G1 H locs hw hP hS => ?_)
  rcases hw with ⟨f, k, t, hf5, e1, htk, e2, rfl, hR⟩ | ⟨ho, rfl, hR⟩
  · refine W.eq (g2 := F0 m 1190 ls [.int 0]) rfl ?_
    refine lv_istore (lv' := [(5, .int 0), (4, .int (nI i)), (0, .ref sc), (1, .ref (ly_a y 0)), (2, .ref (ly_a y 5)), (3, .ref (ly_a y 4))]) hK.1.1 hK.1.2.1 dL_law_1190 hl (by decide) rfl (fun ls hl => ?_)
    refine lv_aload_n hK.1.1 hK.1.2.1 dL_law_1192 rfl (lv_at hl 4 rfl) ?_
    refine lv_aload_n hK.1.1 hK.1.2.1 dL_law_1193 rfl (lv_at hl 2 rfl) ?_
    refine lv_iload hK.1.1 hK.1.2.1 dL_law_1194 (lv_at hl 1 rfl) ?_
    refine lv_iconst (v := 1) hK.1.1 hK.1.2.1 dL_law_1196 (by decide) ?_
    refine lv_iadd hK.1.1 hK.1.2.1 dL_law_1197 ?_
    rw [show nI i + 1 = nI (i + 1) from nI_add i 1]
    refine va_ti hK.1.1 hK.1.2.1 hT hS (vp_in_nI (show i + 1 < n9 by omega) (by omega)) (v := .int (sf (i + 1))) (by rw [nI_clamp (by omega)]) dL_law_1198 ?_
    refine lv_aload_n hK.1.1 hK.1.2.1 dL_law_1199 rfl (lv_at hl 2 rfl) ?_
    refine lv_iload hK.1.1 hK.1.2.1 dL_law_1200 (lv_at hl 1 rfl) ?_
    refine lv_iconst (v := 2) hK.1.1 hK.1.2.1 dL_law_1202 (by decide) ?_
    refine lv_iadd hK.1.1 hK.1.2.1 dL_law_1203 ?_
    rw [show nI i + 2 = nI (i + 2) from nI_add i 2]
    refine va_ti hK.1.1 hK.1.2.1 hT hS (vp_in_nI (show i + 2 < n9 by omega) (by omega)) (v := .int (sf (i + 2))) (by rw [nI_clamp (by omega)]) dL_law_1204 ?_
    refine gk_callV0 (n := 2) (As := [.int (sf (i + 1)), .int (sf (i + 2))]) (rest := []) hK (c_X5_name l hR (i := (sf (i + 1))) (j := (sf (i + 2))) (n9 := row.length) (mr := fr) (xI_q hI hN).1 (by have := (xI_q hI hN).2; omega) (xI_r9 hI) (xI_14 hI)) (gk_gV q_22_13 q_22_14 q_22_15 q_1_5 q_22_16) ⟨rfl, by decide +kernel, by decide +kernel, by decide +kernel⟩ ⟨(Nat.le_of_ble_eq_true rfl), (Nat.le_of_ble_eq_true rfl)⟩ hP hS (gk_recv hK.2.2.1.1 hP hR.2.2.2.2.2.2.2.2.1 rfl) rfl hl.1 rfl (Nat.le_of_ble_eq_true rfl) dL_law_1205 ⟨(by show (cells + 16) + 0 ≤ 601024; omega), (by show (slots + 128) + 0 ≤ 7293034; omega)⟩ (fun v G1 H locs hw hP hS => ?_)
    rcases hw with ⟨pz, f2, hpn, hp14, hpj, hf2, e3, rfl, hR⟩ | ⟨hpn, ⟨x, rfl⟩, hR⟩
    · obtain ⟨hrow, hcnt⟩ := (xI_plc_ok hI hN hf5 htk).2 pz hpn (hp14.trans e1) (by rw [← e2, hpj, e1])
      refine W.eq (g2 := F0 m 1208 ls [.int (if mv 7 (fr f2) = 0 then nI (m_cnt mv (sf (i + 1)) row.length) - sf (i + 2) else 1000 * mv 16 pz + nI (m_old mv (sf (i + 1)) pz pz))]) rfl ?_
      refine lv_istore (lv' := [(6, .int (if mv 7 (fr f2) = 0 then nI (m_cnt mv (sf (i + 1)) row.length) - sf (i + 2) else 1000 * mv 16 pz + nI (m_old mv (sf (i + 1)) pz pz))), (5, .int 0), (4, .int (nI i)), (0, .ref sc), (1, .ref (ly_a y 0)), (2, .ref (ly_a y 5)), (3, .ref (ly_a y 4))]) hK.1.1 hK.1.2.1 dL_law_1208 hl (by decide) rfl (fun ls hl => ?_)
      refine lv_aload_n hK.1.1 hK.1.2.1 dL_law_1210 rfl (lv_at hl 5 rfl) ?_
      refine gk_callV0 (n := 0) (As := []) (rest := []) hK (c_X5_thrown l hR) (gk_gV q_6_14 q_6_15 q_6_16 q_1_5 q_6_17) ⟨rfl, by decide +kernel, by decide +kernel, by decide +kernel⟩ ⟨(Nat.le_of_ble_eq_true rfl), (Nat.le_of_ble_eq_true rfl)⟩ hP hS (gk_recv hK.2.2.1.1 hP hR.2.2.2.2.2.2.2.2.1 rfl) rfl hl.1 rfl (Nat.le_of_ble_eq_true rfl) dL_law_1211 ⟨(by show ((cells + 16) + 0) + 0 ≤ 601024; omega), (by show ((slots + 128) + 0) + 0 ≤ 7293034; omega)⟩ (fun v G1 H locs hw hP hS => ?_)
      obtain ⟨rfl, hG9⟩ := hw
      rw [hG9] at hP
      refine W.eq (g2 := F0 m 1214 ls [.int 0]) rfl ?_
      refine lv_iload hK.1.1 hK.1.2.1 dL_law_1214 (lv_at hl 1 rfl) ?_
      refine lv_icmp_eq (tgt := 1221) hK.1.1 hK.1.2.1 dL_law_1216 (by decide) (fun _ => ?_) (fun c => absurd (by decide) c)
      refine lv_iload hK.1.1 hK.1.2.1 dL_law_1221 (lv_at hl 1 rfl) ?_
      refine lv_if_ne (tgt := 1238) hK.1.1 hK.1.2.1 dL_law_1223 (by decide) (fun c => absurd c (by decide)) (fun _ => ?_)
      refine lv_aload_n hK.1.1 hK.1.2.1 dL_law_1226 rfl (lv_at hl 6 rfl) ?_
      refine lv_iconst (v := 0) hK.1.1 hK.1.2.1 dL_law_1227 (by decide) ?_
      refine lo_get hK hP hR dL_law_1228 ?_
      refine lv_iload hK.1.1 hK.1.2.1 dL_law_1229 (lv_at hl 0 rfl) ?_
      refine lv_i2l hK.1.1 hK.1.2.1 dL_law_1231 rfl ?_
      refine W.lcmp hK.1.1 hK.1.2.1 dL_law_1232 ?_
      refine lv_if_eq (tgt := 1238) hK.1.1 hK.1.2.1 dL_law_1233 (by decide) (fun _ => ?_) (fun c => absurd (by rw [show (if mv 7 (fr f2) = 0 then nI (m_cnt mv (sf (i + 1)) row.length) - sf (i + 2) else 1000 * mv 16 pz + nI (m_old mv (sf (i + 1)) pz pz)) = if ru (fr f) 8 = 0 then nI ((ol f).length - k) else 1000 * pf 1 t + nI (t_cnt pf (ol f) k (pf 1 t)) from (by obtain rfl : f = f2 := (nI_eq (by omega) (by omega)).mp (e1.symm.trans e3); rw [e1, e2]; exact xI_name hI hN hf5 hrow hcnt (Nat.le_of_lt (List.getElem?_eq_some_iff.mp htk).1))]; simp [lg_cmp]) c)
      refine lv_goto (tgt := 1428) hK.1.1 hK.1.2.1 dL_law_1238 (by decide) ?_
      exact W.widen (show (((cells + 16) + 0) + 0) ≤ cells + 100 by omega) (show (((slots + 128) + 0) + 0) ≤ slots + 8000 by omega) (kk ls _ _ _ _ _ _ _ _ _ _ _ _ _ _ _ _ _ _ _ _ _ _ hP hS hR (xI_mono hI) (lv_sub hl [2, 3, 4, 5, 6] rfl))
    · obtain ⟨pz, p1, p2, p3⟩ := (xI_plc_ok hI hN hf5 htk).1
      exact absurd (by rw [e2, p3, e1]) (hpn pz p1 (p2.trans e1.symm))
  · refine W.eq (g2 := F0 m 1190 ls [.int 1]) rfl ?_
    refine lv_istore (lv' := [(5, .int 1), (4, .int (nI i)), (0, .ref sc), (1, .ref (ly_a y 0)), (2, .ref (ly_a y 5)), (3, .ref (ly_a y 4))]) hK.1.1 hK.1.2.1 dL_law_1190 hl (by decide) rfl (fun ls hl => ?_)
    refine lv_aload_n hK.1.1 hK.1.2.1 dL_law_1192 rfl (lv_at hl 4 rfl) ?_
    refine lv_aload_n hK.1.1 hK.1.2.1 dL_law_1193 rfl (lv_at hl 2 rfl) ?_
    refine lv_iload hK.1.1 hK.1.2.1 dL_law_1194 (lv_at hl 1 rfl) ?_
    refine lv_iconst (v := 1) hK.1.1 hK.1.2.1 dL_law_1196 (by decide) ?_
    refine lv_iadd hK.1.1 hK.1.2.1 dL_law_1197 ?_
    rw [show nI i + 1 = nI (i + 1) from nI_add i 1]
    refine va_ti hK.1.1 hK.1.2.1 hT hS (vp_in_nI (show i + 1 < n9 by omega) (by omega)) (v := .int (sf (i + 1))) (by rw [nI_clamp (by omega)]) dL_law_1198 ?_
    refine lv_aload_n hK.1.1 hK.1.2.1 dL_law_1199 rfl (lv_at hl 2 rfl) ?_
    refine lv_iload hK.1.1 hK.1.2.1 dL_law_1200 (lv_at hl 1 rfl) ?_
    refine lv_iconst (v := 2) hK.1.1 hK.1.2.1 dL_law_1202 (by decide) ?_
    refine lv_iadd hK.1.1 hK.1.2.1 dL_law_1203 ?_
    rw [show nI i + 2 = nI (i + 2) from nI_add i 2]
    refine va_ti hK.1.1 hK.1.2.1 hT hS (vp_in_nI (show i + 2 < n9 by omega) (by omega)) (v := .int (sf (i + 2))) (by rw [nI_clamp (by omega)]) dL_law_1204 ?_
    refine gk_callV0 (n := 2) (As := [.int (sf (i + 1)), .int (sf (i + 2))]) (rest := []) hK (c_X5_name l hR (i := (sf (i + 1))) (j := (sf (i + 2))) (n9 := row.length) (mr := fr) (xI_q hI hN).1 (by have := (xI_q hI hN).2; omega) (xI_r9 hI) (xI_14 hI)) (gk_gV q_22_13 q_22_14 q_22_15 q_1_5 q_22_16) ⟨rfl, by decide +kernel, by decide +kernel, by decide +kernel⟩ ⟨(Nat.le_of_ble_eq_true rfl), (Nat.le_of_ble_eq_true rfl)⟩ hP hS (gk_recv hK.2.2.1.1 hP hR.2.2.2.2.2.2.2.2.1 rfl) rfl hl.1 rfl (Nat.le_of_ble_eq_true rfl) dL_law_1205 ⟨(by show (cells + 16) + 0 ≤ 601024; omega), (by show (slots + 128) + 0 ≤ 7293034; omega)⟩ (fun v G1 H locs hw hP hS => ?_)
    rcases hw with ⟨pz, f2, hpn, hp14, hpj, hf2, e3, rfl, hR⟩ | ⟨hpn, ⟨x, rfl⟩, hR⟩
    · exact absurd hpj (xI_plc_no hI hN ho pz hpn hp14)
    · refine W.eq (g2 := F0 m 1208 ls [.int x]) rfl ?_
      refine lv_istore (lv' := [(6, .int x), (5, .int 1), (4, .int (nI i)), (0, .ref sc), (1, .ref (ly_a y 0)), (2, .ref (ly_a y 5)), (3, .ref (ly_a y 4))]) hK.1.1 hK.1.2.1 dL_law_1208 hl (by decide) rfl (fun ls hl => ?_)
      refine lv_aload_n hK.1.1 hK.1.2.1 dL_law_1210 rfl (lv_at hl 5 rfl) ?_
      refine gk_callV0 (n := 0) (As := []) (rest := []) hK (c_X5_thrown l hR) (gk_gV q_6_14 q_6_15 q_6_16 q_1_5 q_6_17) ⟨rfl, by decide +kernel, by decide +kernel, by decide +kernel⟩ ⟨(Nat.le_of_ble_eq_true rfl), (Nat.le_of_ble_eq_true rfl)⟩ hP hS (gk_recv hK.2.2.1.1 hP hR.2.2.2.2.2.2.2.2.1 rfl) rfl hl.1 rfl (Nat.le_of_ble_eq_true rfl) dL_law_1211 ⟨(by show ((cells + 16) + 0) + 0 ≤ 601024; omega), (by show ((slots + 128) + 0) + 0 ≤ 7293034; omega)⟩ (fun v G1 H locs hw hP hS => ?_)
      obtain ⟨rfl, hG9⟩ := hw
      rw [hG9] at hP
      refine W.eq (g2 := F0 m 1214 ls [.int 1]) rfl ?_
      refine lv_iload hK.1.1 hK.1.2.1 dL_law_1214 (lv_at hl 1 rfl) ?_
      refine lv_icmp_eq (tgt := 1221) hK.1.1 hK.1.2.1 dL_law_1216 (by decide) (fun _ => ?_) (fun c => absurd (by decide) c)
      refine lv_iload hK.1.1 hK.1.2.1 dL_law_1221 (lv_at hl 1 rfl) ?_
      refine lv_if_ne (tgt := 1238) hK.1.1 hK.1.2.1 dL_law_1223 (by decide) (fun _ => ?_) (fun c => absurd c (by decide))
      refine lv_goto (tgt := 1428) hK.1.1 hK.1.2.1 dL_law_1238 (by decide) ?_
      exact W.widen (show (((cells + 16) + 0) + 0) ≤ cells + 100 by omega) (show (((slots + 128) + 0) + 0) ≤ slots + 8000 by omega) (kk ls _ _ _ _ _ _ _ _ _ _ _ _ _ _ _ _ _ _ _ _ _ _ hP hS hR (xI_mono hI) (lv_sub hl [2, 3, 4, 5, 6] rfl))
