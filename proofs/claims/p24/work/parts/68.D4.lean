/-! the law: a turn and what it did -/
set_option maxHeartbeats 4000000 in
set_option maxRecDepth 100000 in
theorem c_L_turns (l : Launch) {y : ly_T} {A : Nat → Prop} {G : gk_G} {ed N : Nat} {td : Int32} {ru : Nat → Nat → Int32} {fr : Nat → Nat} {hf hp hp2 : Nat → Option Nat} {S S2 : ts_T} {tt rr ff cc : Nat → Int32} {fi fi2 φ : Nat → Nat} {ar af ac : Nat} (hfl : l.stackTraces = false) (hW : lw y G td ru fr hf S hp td ru fr hf S2 hp2 [(ar, 27, rr), (af, 20, ff), (ac, 1, cc)]) (hI : iv ed N td ru fr hf S hp tt fi) (hI2 : iv ed N td ru fr hf S2 hp2 tt fi2) (hrn : rn φ S hp S2 hp2) (hlr : lr rr ru) (hlf : lf ff fr S tt) (hcc : cc 0 = td) (hN : N ≤ 110) {f : Nat} (f5 : f < 5) (h80 : (S.2.2.2.2.1 f).length ≤ 80) : gk_M0 l yL_turns (Cond.code yL_turns cL_turns 16 (some .boolean)) 10 340 12 4600 y A [.ref (ly_a y 0), .ref (ly_a (ly_sw y) 0), .ref ar, .ref af, .ref ac, .int (nI f)] G (fun v G1 => v = some (.int 1) ∧ lj y G1 ar af ac (N + 1)) := by
  refine gk_of0 (cc := cL_turns) (maxL := 16) (ret := (some .boolean)) (own := RL) (by decide +kernel) rfl rfl (Nat.le_of_ble_eq_true rfl) ?_
  intro p e s m below meth c ls hK hret hlk _ hP hS hl
  have hl : lv_has ls 16 [(0, .ref (ly_a y 0)), (1, .ref (ly_a (ly_sw y) 0)), (2, .ref ar), (3, .ref af), (4, .ref ac), (5, .int (nI f))] := hl
  have hN1 : N ≤ 111 := by omega
  have he9 := hI.1.2
  have hle := iv_len hI hN1 f f5
  refine lv_iconst (v := 1) hK.1.1 hK.1.2.1 dL_turns_0 (by decide) ?_
  refine gk_newa hK.1 hK.2.2.1.1 hP hS hK.2.2.2 (atype := .int) q_1_3 rfl 0 (ty := .int) rfl (a0 := (1, .inl (fun _ => 0))) (fun _ => rfl) (by decide) (by decide) (by decide) (Nat.le_of_ble_eq_true rfl) (Nat.le_of_ble_eq_true rfl) dL_turns_1 (fun q_1 H hn_2 hP hS => ?_)
  have hW : lw y (gk_up G q_1 (rp_i (ly_k y 0) 1 (fun _ => 0))) td ru fr hf S hp td ru fr hf S2 hp2 [(q_1, 1, (fun _ => 0)), (ar, 27, rr), (af, 20, ff), (ac, 1, cc)] := lw_new hW hn_2 1 (fun _ => 0)
  obtain ⟨G_3, hG_3⟩ : ∃ z, z = gk_up G q_1 (rp_i (ly_k y 0) 1 (fun _ => 0)) := ⟨_, rfl⟩
  have hP : gk_P (ly_D y) A G_3 H := by rw [hG_3]; exact hP
  have hW : lw y G_3 td ru fr hf S hp td ru fr hf S2 hp2 [(q_1, 1, (fun _ => 0)), (ar, 27, rr), (af, 20, ff), (ac, 1, cc)] := by rw [hG_3]; exact hW
  refine lv_astore (lv' := [(6, .ref q_1), (0, .ref (ly_a y 0)), (1, .ref (ly_a (ly_sw y) 0)), (2, .ref ar), (3, .ref af), (4, .ref ac), (5, .int (nI f))]) hK.1.1 hK.1.2.1 dL_turns_3 hl (by decide) rfl (fun ls hl => ?_)
  refine lv_aload_n hK.1.1 hK.1.2.1 dL_turns_5 rfl (lv_at hl 1 rfl) ?_
  refine lv_iload hK.1.1 hK.1.2.1 dL_turns_6 (lv_at hl 6 rfl) ?_
  refine gk_callSW (n := 2) (As := [.ref (ly_a y 0), .int (nI f)]) (rest := []) hK (c0_L_olds l hfl (lw_o hW) (f := f) f5) (gk_gS q_16_10 q_16_11 q_10_12 q_16_12) ⟨by decide +kernel, by decide +kernel, by decide +kernel⟩ ⟨(Nat.le_of_ble_eq_true rfl), (Nat.le_of_ble_eq_true rfl)⟩ hP hS rfl hl.1 rfl (Nat.le_of_ble_eq_true rfl) dL_turns_8 ⟨(Nat.le_of_ble_eq_true rfl), (Nat.le_of_ble_eq_true rfl)⟩ (fun v G1 H locs hw hP hS => ?_)
  obtain ⟨rfl, hG9⟩ := hw
  rw [hG9] at hP
  refine W.eq (g2 := F0 m 11 ls [.int (nI (S.2.2.2.2.1 f).length)]) rfl ?_
  refine lv_istore (lv' := [(7, .int (nI (S.2.2.2.2.1 f).length)), (6, .ref q_1), (0, .ref (ly_a y 0)), (1, .ref (ly_a (ly_sw y) 0)), (2, .ref ar), (3, .ref af), (4, .ref ac), (5, .int (nI f))]) hK.1.1 hK.1.2.1 dL_turns_11 hl (by decide) rfl (fun ls hl => ?_)
  refine lv_aload_n hK.1.1 hK.1.2.1 dL_turns_13 rfl (lv_at hl 2 rfl) ?_
  refine lv_iload hK.1.1 hK.1.2.1 dL_turns_14 (lv_at hl 7 rfl) ?_
  refine gk_callSW (n := 2) (As := [.ref (ly_a y 0), .int (nI f)]) (rest := []) hK (c0_L_live l hfl (lw_o hW) (f := f) f5 (iv_Ll hI)) (gk_gS q_15_4 q_15_5 q_10_12 q_15_6) ⟨by decide +kernel, by decide +kernel, by decide +kernel⟩ ⟨(Nat.le_of_ble_eq_true rfl), (Nat.le_of_ble_eq_true rfl)⟩ hP hS rfl hl.1 rfl (Nat.le_of_ble_eq_true rfl) dL_turns_16 ⟨(Nat.le_of_ble_eq_true rfl), (Nat.le_of_ble_eq_true rfl)⟩ (fun v G1 H locs hw hP hS => ?_)
  obtain ⟨rfl, hG9⟩ := hw
  rw [hG9] at hP
  refine W.eq (g2 := F0 m 19 ls [.int (S.2.2.2.2.2.2 0 (S.1 f))]) rfl ?_
  refine lv_istore (lv' := [(8, .int (S.2.2.2.2.2.2 0 (S.1 f))), (7, .int (nI (S.2.2.2.2.1 f).length)), (6, .ref q_1), (0, .ref (ly_a y 0)), (1, .ref (ly_a (ly_sw y) 0)), (2, .ref ar), (3, .ref af), (4, .ref ac), (5, .int (nI f))]) hK.1.1 hK.1.2.1 dL_turns_19 hl (by decide) rfl (fun ls hl => ?_)
  refine lv_aload_n hK.1.1 hK.1.2.1 dL_turns_21 rfl (lv_at hl 3 rfl) ?_
  refine lv_iload hK.1.1 hK.1.2.1 dL_turns_22 (lv_at hl 8 rfl) ?_
  refine gk_callSW (n := 2) (As := [.ref (ly_a y 0), .int (nI f)]) (rest := []) hK (c0_L_thrown l hfl (lw_o hW) (f := f) f5) (gk_gS q_17_20 q_17_21 q_10_12 q_17_22) ⟨by decide +kernel, by decide +kernel, by decide +kernel⟩ ⟨(Nat.le_of_ble_eq_true rfl), (Nat.le_of_ble_eq_true rfl)⟩ hP hS rfl hl.1 rfl (Nat.le_of_ble_eq_true rfl) dL_turns_24 ⟨(Nat.le_of_ble_eq_true rfl), (Nat.le_of_ble_eq_true rfl)⟩ (fun v G1 H locs hw hP hS => ?_)
  obtain ⟨rfl, hG9⟩ := hw
  rw [hG9] at hP
  refine W.eq (g2 := F0 m 27 ls [.int (S.2.2.2.1 f)]) rfl ?_
  refine lv_istore (lv' := [(9, .int (S.2.2.2.1 f)), (8, .int (S.2.2.2.2.2.2 0 (S.1 f))), (7, .int (nI (S.2.2.2.2.1 f).length)), (6, .ref q_1), (0, .ref (ly_a y 0)), (1, .ref (ly_a (ly_sw y) 0)), (2, .ref ar), (3, .ref af), (4, .ref ac), (5, .int (nI f))]) hK.1.1 hK.1.2.1 dL_turns_27 hl (by decide) rfl (fun ls hl => ?_)
  refine lv_iconst (v := 4) hK.1.1 hK.1.2.1 dL_turns_29 (by decide) ?_
  refine gk_newa hK.1 hK.2.2.1.1 hP hS hK.2.2.2 (atype := .int) q_1_3 rfl 0 (ty := .int) rfl (a0 := (4, .inl (fun _ => 0))) (fun _ => rfl) (by decide) (by decide) (by decide) (Nat.le_of_ble_eq_true rfl) (Nat.le_of_ble_eq_true rfl) dL_turns_30 (fun q_4 H hn_5 hP hS => ?_)
  have hW : lw y (gk_up G_3 q_4 (rp_i (ly_k y 0) 4 (fun _ => 0))) td ru fr hf S hp td ru fr hf S2 hp2 [(q_4, 4, (fun _ => 0)), (q_1, 1, (fun _ => 0)), (ar, 27, rr), (af, 20, ff), (ac, 1, cc)] := lw_new hW hn_5 4 (fun _ => 0)
  obtain ⟨G_6, hG_6⟩ : ∃ z, z = gk_up G_3 q_4 (rp_i (ly_k y 0) 4 (fun _ => 0)) := ⟨_, rfl⟩
  have hP : gk_P (ly_D y) A G_6 H := by rw [hG_6]; exact hP
  have hW : lw y G_6 td ru fr hf S hp td ru fr hf S2 hp2 [(q_4, 4, (fun _ => 0)), (q_1, 1, (fun _ => 0)), (ar, 27, rr), (af, 20, ff), (ac, 1, cc)] := by rw [hG_6]; exact hW
  refine lv_astore (lv' := [(10, .ref q_4), (9, .int (S.2.2.2.1 f)), (8, .int (S.2.2.2.2.2.2 0 (S.1 f))), (7, .int (nI (S.2.2.2.2.1 f).length)), (6, .ref q_1), (0, .ref (ly_a y 0)), (1, .ref (ly_a (ly_sw y) 0)), (2, .ref ar), (3, .ref af), (4, .ref ac), (5, .int (nI f))]) hK.1.1 hK.1.2.1 dL_turns_32 hl (by decide) rfl (fun ls hl => ?_)
  refine lv_iconst (v := 0) hK.1.1 hK.1.2.1 dL_turns_34 (by decide) ?_
  refine lv_istore (lv' := [(11, .int 0), (10, .ref q_4), (9, .int (S.2.2.2.1 f)), (8, .int (S.2.2.2.2.2.2 0 (S.1 f))), (7, .int (nI (S.2.2.2.2.1 f).length)), (6, .ref q_1), (0, .ref (ly_a y 0)), (1, .ref (ly_a (ly_sw y) 0)), (2, .ref ar), (3, .ref af), (4, .ref ac), (5, .int (nI f))]) hK.1.1 hK.1.2.1 dL_turns_35 hl (by decide) rfl (fun ls hl => ?_)
  have loop : ∀ (dd n : Nat) (gg : Nat → Int32) (ls : Array Slot) (H : Heap) (locs : List Loc) (G : gk_G), 4 - n = dd → n ≤ 4 → (∀ j, j < n → gg j = hz hf hp S.2.2.2.2.1 j) → gk_P (ly_D y) A G H → va_S A s.heap H locs → lw y G td ru fr hf S hp td ru fr hf S2 hp2 [(q_4, 4, gg), (q_1, 1, (fun _ => 0)), (ar, 27, rr), (af, 20, ff), (ac, 1, cc)] → lv_has ls 16 [(11, .int (nI n)), (10, .ref q_4), (9, .int (S.2.2.2.1 f)), (8, .int (S.2.2.2.2.2.2 0 (S.1 f))), (7, .int (nI (S.2.2.2.2.1 f).length)), (6, .ref q_1), (0, .ref (ly_a y 0)), (1, .ref (ly_a (ly_sw y) 0)), (2, .ref ar), (3, .ref af), (4, .ref ac), (5, .int (nI f))] → W p l e { frames := 10, cells := 12, slots := 4600, locals := 340 } s m [.ref (ly_a y 0), .ref (ly_a (ly_sw y) 0), .ref ar, .ref af, .ref ac, .int (nI f)].toArray below meth c H locs (((((0 + 1) + 0) + 0) + 0) + 1) (((((0 + 1) + 0) + 0) + 0) + 4) (MQ below (gk_Q y A (fun v G1 => v = some (.int 1) ∧ lj y G1 ar af ac (N + 1))) [.ref (ly_a y 0), .ref (ly_a (ly_sw y) 0), .ref ar, .ref af, .ref ac, .int (nI f)].toArray s 12 4600 A) (F0 m 37 ls []) := by
    intro dd
    induction dd using Nat.strongRecOn with
    | _ dd ih =>
    intro n gg ls H locs G hdd hn hgg hP hS hW hl
    refine lv_iload hK.1.1 hK.1.2.1 dL_turns_37 (lv_at hl 0 rfl) ?_
    refine lv_iconst (v := 4) hK.1.1 hK.1.2.1 dL_turns_39 (by decide) ?_
    refine lv_icmp_ge (tgt := 60) hK.1.1 hK.1.2.1 dL_turns_40 (by decide) (fun c40_7 => ?_) (fun c40_7 => ?_)
    · have hn4 : n = 4 := Nat.le_antisymm hn ((nI_leI (a := 4) (by omega) (by omega)).mp c40_7)
      have hgg : ∀ j, j < 4 → gg j = hz hf hp S.2.2.2.2.1 j := fun j hj => hgg j (by omega)
      refine lv_aload_n hK.1.1 hK.1.2.1 dL_turns_60 rfl (lv_at hl 6 rfl) ?_
      refine lv_iload hK.1.1 hK.1.2.1 dL_turns_61 (lv_at hl 11 rfl) ?_
      refine gk_callSW (n := 2) (As := [.ref (ly_a y 0), .int (nI f)]) (rest := []) hK (co_turn hfl hW (f := f) f5 (iv_Ll hI) (iv_in5 hI) (iv_len5 hI hN1)) (gk_gS q_18_3 q_18_4 q_10_12 q_18_5) ⟨by decide +kernel, by decide +kernel, by decide +kernel⟩ ⟨(Nat.le_of_ble_eq_true rfl), (Nat.le_of_ble_eq_true rfl)⟩ hP hS rfl hl.1 rfl (Nat.le_of_ble_eq_true rfl) dL_turns_63 ⟨(Nat.le_of_ble_eq_true rfl), (Nat.le_of_ble_eq_true rfl)⟩ (fun v G_8 H locs hw hP hS => ?_)
      obtain ⟨qo, hqo, rfl, hW⟩ := hw
      refine W.eq (g2 := F0 m 66 ls [.int (nI (t_tth td ru fr S.1 hp S.2.2.2.2.1 S.2.2.2.2.2.2 f qo).length)]) rfl ?_
      obtain ⟨T, hT⟩ : ∃ z, z = t_turn td ru fr hp S f qo := ⟨_, rfl⟩
      have hW : lw y G_8 td ru fr hf T hp td ru fr hf S2 hp2 [(q_4, 4, gg), (q_1, 1, (fun _ => 0)), (ar, 27, rr), (af, 20, ff), (ac, 1, cc)] := by rw [hT]; exact hW
      refine lv_istore (lv' := [(11, .int (nI (t_tth td ru fr S.1 hp S.2.2.2.2.1 S.2.2.2.2.2.2 f qo).length)), (10, .ref q_4), (9, .int (S.2.2.2.1 f)), (8, .int (S.2.2.2.2.2.2 0 (S.1 f))), (7, .int (nI (S.2.2.2.2.1 f).length)), (6, .ref q_1), (0, .ref (ly_a y 0)), (1, .ref (ly_a (ly_sw y) 0)), (2, .ref ar), (3, .ref af), (4, .ref ac), (5, .int (nI f))]) hK.1.1 hK.1.2.1 dL_turns_66 hl (by decide) rfl (fun ls hl => ?_)
      refine lv_aload_n hK.1.1 hK.1.2.1 dL_turns_68 rfl (lv_at hl 7 rfl) ?_
      refine lv_iload hK.1.1 hK.1.2.1 dL_turns_69 (lv_at hl 11 rfl) ?_
      refine gk_callSW (n := 2) (As := [.ref (ly_a (ly_sw y) 0), .int (nI f)]) (rest := []) hK (ct_turn hfl hW (f := f) f5 (iv_Ll hI2) (iv_in5 hI2) (iv_len5 hI2 hN1)) (gk_gS q_18_3 q_18_4 q_10_12 q_18_5) ⟨by decide +kernel, by decide +kernel, by decide +kernel⟩ ⟨(Nat.le_of_ble_eq_true rfl), (Nat.le_of_ble_eq_true rfl)⟩ hP hS rfl hl.1 rfl (Nat.le_of_ble_eq_true rfl) dL_turns_71 ⟨(Nat.le_of_ble_eq_true rfl), (Nat.le_of_ble_eq_true rfl)⟩ (fun v G_9 H locs hw hP hS => ?_)
      obtain ⟨qt, hqt, rfl, hW⟩ := hw
      refine W.eq (g2 := F0 m 74 ls [.int (nI (t_tth td ru fr S2.1 hp2 S2.2.2.2.2.1 S2.2.2.2.2.2.2 f qt).length)]) rfl ?_
      obtain ⟨T2, hT2⟩ : ∃ z, z = t_turn td ru fr hp2 S2 f qt := ⟨_, rfl⟩
      have hW : lw y G_9 td ru fr hf T hp td ru fr hf T2 hp2 [(q_4, 4, gg), (q_1, 1, (fun _ => 0)), (ar, 27, rr), (af, 20, ff), (ac, 1, cc)] := by rw [hT2]; exact hW
      have hIT : iv ed (N + 1) td ru fr hf T hp tt (va_up fi qo f) := by rw [hT]; exact iv_turn hI f5 hqo (Or.inl h80)
      have h80b : (S2.2.2.2.2.1 f).length ≤ 80 := by rw [hrn.2.2.1 f f5, List.length_map]; exact h80
      have hIT2 : iv ed (N + 1) td ru fr hf T2 hp2 tt (va_up fi2 qt f) := by rw [hT2]; exact iv_turn hI2 f5 hqt (Or.inl h80b)
      obtain ⟨htl, hrnT⟩ := rn_turn (td := td) (ru := ru) (fr := fr) hrn f5 (iv_Ll hI) (iv_in5 hI) (iv_Lp hI) hqo hqt
      rw [← hT, ← hT2] at hrnT
      have htn : (T.2.2.2.2.1 f).length + (t_tth td ru fr S.1 hp S.2.2.2.2.1 S.2.2.2.2.2.2 f qo).length = (S.2.2.2.2.1 f).length + 1 := by rw [hT]; exact tn_len
      have hN2 : N + 1 ≤ 111 := by omega
      have hleT := iv_len hIT hN2 f f5
      obtain ⟨ln, hln⟩ : ∃ z, z = (t_tth td ru fr S.1 hp S.2.2.2.2.1 S.2.2.2.2.2.2 f qo).length := ⟨_, rfl⟩
      rw [← hln] at htl htn
      have hl : lv_has ls 16 [(11, .int (nI ln)), (10, .ref q_4), (9, .int (S.2.2.2.1 f)), (8, .int (S.2.2.2.2.2.2 0 (S.1 f))), (7, .int (nI (S.2.2.2.2.1 f).length)), (6, .ref q_1), (0, .ref (ly_a y 0)), (1, .ref (ly_a (ly_sw y) 0)), (2, .ref ar), (3, .ref af), (4, .ref ac), (5, .int (nI f))] := by rw [hln]; exact hl
      refine lv_iload hK.1.1 hK.1.2.1 dL_turns_74 (lv_at hl 0 rfl) ?_
      refine lv_icmp_ne (tgt := 104) hK.1.1 hK.1.2.1 dL_turns_76 (by decide) (fun c => absurd (by rw [htl]) c) (fun _ => ?_)
      refine lv_iload hK.1.1 hK.1.2.1 dL_turns_79 (lv_at hl 0 rfl) ?_
      refine lv_if_lt (tgt := 104) hK.1.1 hK.1.2.1 dL_turns_81 (by decide) (fun c => absurd c (nI_pos (by omega))) (fun _ => ?_)
      refine lv_aload_n hK.1.1 hK.1.2.1 dL_turns_84 rfl (lv_at hl 6 rfl) ?_
      refine lv_iload hK.1.1 hK.1.2.1 dL_turns_85 (lv_at hl 11 rfl) ?_
      refine gk_callSW (n := 2) (As := [.ref (ly_a y 0), .int (nI f)]) (rest := []) hK (c0_L_olds l hfl (lw_o hW) (f := f) f5) (gk_gS q_16_10 q_16_11 q_10_12 q_16_12) ⟨by decide +kernel, by decide +kernel, by decide +kernel⟩ ⟨(Nat.le_of_ble_eq_true rfl), (Nat.le_of_ble_eq_true rfl)⟩ hP hS rfl hl.1 rfl (Nat.le_of_ble_eq_true rfl) dL_turns_87 ⟨(Nat.le_of_ble_eq_true rfl), (Nat.le_of_ble_eq_true rfl)⟩ (fun v G1 H locs hw hP hS => ?_)
      obtain ⟨rfl, hG9⟩ := hw
      rw [hG9] at hP
      refine W.eq (g2 := F0 m 90 ls [.int (nI (T.2.2.2.2.1 f).length)]) rfl ?_
      refine lv_iload hK.1.1 hK.1.2.1 dL_turns_90 (lv_at hl 4 rfl) ?_
      refine lv_iconst (v := 1) hK.1.1 hK.1.2.1 dL_turns_92 (by decide) ?_
      refine lv_iadd hK.1.1 hK.1.2.1 dL_turns_93 ?_
      refine W.eq (g2 := F0 m 94 ls [.int (nI ((S.2.2.2.2.1 f).length + 1)), .int (nI (T.2.2.2.2.1 f).length)]) (by rw [show (nI (S.2.2.2.2.1 f).length) + 1 = nI ((S.2.2.2.2.1 f).length + 1) from nI_add _ _]) ?_
      refine lv_iload hK.1.1 hK.1.2.1 dL_turns_94 (lv_at hl 0 rfl) ?_
      refine lv_isub hK.1.1 hK.1.2.1 dL_turns_96 ?_
      refine lv_icmp_ne (tgt := 104) hK.1.1 hK.1.2.1 dL_turns_97 (by decide) (fun c => absurd (by rw [pk_sub (by omega)]; congr 1; omega) c) (fun _ => ?_)
      refine lv_iconst (v := 1) hK.1.1 hK.1.2.1 dL_turns_100 (by decide) ?_
      refine lv_goto (tgt := 105) hK.1.1 hK.1.2.1 dL_turns_101 (by decide) ?_
      refine lv_istore (lv' := [(12, .int 1), (11, .int (nI ln)), (10, .ref q_4), (9, .int (S.2.2.2.1 f)), (8, .int (S.2.2.2.2.2.2 0 (S.1 f))), (7, .int (nI (S.2.2.2.2.1 f).length)), (6, .ref q_1), (0, .ref (ly_a y 0)), (1, .ref (ly_a (ly_sw y) 0)), (2, .ref ar), (3, .ref af), (4, .ref ac), (5, .int (nI f))]) hK.1.1 hK.1.2.1 dL_turns_105 hl (by decide) rfl (fun ls hl => ?_)
      refine lv_aload_n hK.1.1 hK.1.2.1 dL_turns_107 rfl (lv_at hl 10 rfl) ?_
      refine lv_iconst (v := 4) hK.1.1 hK.1.2.1 dL_turns_108 (by decide) ?_
      refine lv_iload hK.1.1 hK.1.2.1 dL_turns_109 (lv_at hl 12 rfl) ?_
      refine lv_imul hK.1.1 hK.1.2.1 dL_turns_111 ?_
      refine W.eq (g2 := F0 m 112 ls [.int (nI (4 * f)), .ref af]) (by rw [show 4 * (nI f) = nI (4 * f) from pk_mul _ _]) ?_
      refine lv_iconst (v := 1) hK.1.1 hK.1.2.1 dL_turns_112 (by decide) ?_
      refine lv_iadd hK.1.1 hK.1.2.1 dL_turns_113 ?_
      refine W.eq (g2 := F0 m 114 ls [.int (nI ((4 * f) + 1)), .ref af]) (by rw [show (nI (4 * f)) + 1 = nI ((4 * f) + 1) from nI_add _ _]) ?_
      refine lv_aload hK.1.1 hK.1.2.1 dL_turns_114 (lv_at hl 11 rfl) ?_
      refine lv_iconst (v := 0) hK.1.1 hK.1.2.1 dL_turns_116 (by decide) ?_
      refine gk_iald hK.1 hK.2.2.1.1 hP 0 (lw_get hW (k := 4) rfl) rfl (i := 0) (vp_in_nI (n := 0) (N := 1) (by omega) (by decide)) dL_turns_117 ?_
      refine W.eq (g2 := F0 m 118 ls [.int td, .int (nI ((4 * f) + 1)), .ref af]) (by rw [show cc (0 : Int32).toNatClampNeg = td from by rw [show (0 : Int32).toNatClampNeg = 0 from nI_clamp (n := 0) (by omega)]; exact hcc]) ?_
      refine gk_iast hK.1 hK.2.2.1.1 hP hS 0 (lw_get hW (k := 3) rfl) rfl (i := nI ((4 * f) + 1)) (vp_in_nI (n := (4 * f) + 1) (N := 20) (by omega) (by decide)) dL_turns_118 (fun H locs hP hS => ?_)
      rw [show (nI ((4 * f) + 1) : Int32).toNatClampNeg = (4 * f) + 1 from nI_clamp (n := (4 * f) + 1) (by omega)] at hP
      obtain ⟨g_10, hg_10⟩ : ∃ z, z = upd ff ((4 * f) + 1) td := ⟨_, rfl⟩
      have hW : lw y (gk_up G_9 af (rp_i (ly_k y 0) 20 g_10)) td ru fr hf T hp td ru fr hf T2 hp2 [(q_4, 4, gg), (q_1, 1, (fun _ => 0)), (ar, 27, rr), (af, 20, g_10), (ac, 1, cc)] := lw_set hW (k := 3) rfl g_10
      have hP : gk_P (ly_D y) A (gk_up G_9 af (rp_i (ly_k y 0) 20 g_10)) H := by rw [hg_10]; exact hP
      obtain ⟨G_11, hG_11⟩ : ∃ z, z = gk_up G_9 af (rp_i (ly_k y 0) 20 g_10) := ⟨_, rfl⟩
      have hP : gk_P (ly_D y) A G_11 H := by rw [hG_11]; exact hP
      have hW : lw y G_11 td ru fr hf T hp td ru fr hf T2 hp2 [(q_4, 4, gg), (q_1, 1, (fun _ => 0)), (ar, 27, rr), (af, 20, g_10), (ac, 1, cc)] := by rw [hG_11]; exact hW
      refine lv_aload_n hK.1.1 hK.1.2.1 dL_turns_119 rfl (lv_at hl 10 rfl) ?_
      refine lv_iconst (v := 4) hK.1.1 hK.1.2.1 dL_turns_120 (by decide) ?_
      refine lv_iload hK.1.1 hK.1.2.1 dL_turns_121 (lv_at hl 12 rfl) ?_
      refine lv_imul hK.1.1 hK.1.2.1 dL_turns_123 ?_
      refine W.eq (g2 := F0 m 124 ls [.int (nI (4 * f)), .ref af]) (by rw [show 4 * (nI f) = nI (4 * f) from pk_mul _ _]) ?_
      refine lv_iconst (v := 2) hK.1.1 hK.1.2.1 dL_turns_124 (by decide) ?_
      refine lv_iadd hK.1.1 hK.1.2.1 dL_turns_125 ?_
      refine W.eq (g2 := F0 m 126 ls [.int (nI ((4 * f) + 2)), .ref af]) (by rw [show (nI (4 * f)) + 2 = nI ((4 * f) + 2) from nI_add _ _]) ?_
      refine lv_iconst (v := 1) hK.1.1 hK.1.2.1 dL_turns_126 (by decide) ?_
      refine gk_iast hK.1 hK.2.2.1.1 hP hS 0 (lw_get hW (k := 3) rfl) rfl (i := nI ((4 * f) + 2)) (vp_in_nI (n := (4 * f) + 2) (N := 20) (by omega) (by decide)) dL_turns_127 (fun H locs hP hS => ?_)
      rw [show (nI ((4 * f) + 2) : Int32).toNatClampNeg = (4 * f) + 2 from nI_clamp (n := (4 * f) + 2) (by omega)] at hP
      obtain ⟨g_12, hg_12⟩ : ∃ z, z = upd g_10 ((4 * f) + 2) 1 := ⟨_, rfl⟩
      have hW : lw y (gk_up G_11 af (rp_i (ly_k y 0) 20 g_12)) td ru fr hf T hp td ru fr hf T2 hp2 [(q_4, 4, gg), (q_1, 1, (fun _ => 0)), (ar, 27, rr), (af, 20, g_12), (ac, 1, cc)] := lw_set hW (k := 3) rfl g_12
      have hP : gk_P (ly_D y) A (gk_up G_11 af (rp_i (ly_k y 0) 20 g_12)) H := by rw [hg_12]; exact hP
      obtain ⟨G_13, hG_13⟩ : ∃ z, z = gk_up G_11 af (rp_i (ly_k y 0) 20 g_12) := ⟨_, rfl⟩
      have hP : gk_P (ly_D y) A G_13 H := by rw [hG_13]; exact hP
      have hW : lw y G_13 td ru fr hf T hp td ru fr hf T2 hp2 [(q_4, 4, gg), (q_1, 1, (fun _ => 0)), (ar, 27, rr), (af, 20, g_12), (ac, 1, cc)] := by rw [hG_13]; exact hW
      have hlfT : lf g_12 fr T tt := by rw [hg_12, hg_10, hT]; exact lf_turn hlf
      refine lv_iconst (v := 0) hK.1.1 hK.1.2.1 dL_turns_128 (by decide) ?_
      refine lv_istore (lv' := [(13, .int 0), (12, .int 1), (11, .int (nI ln)), (10, .ref q_4), (9, .int (S.2.2.2.1 f)), (8, .int (S.2.2.2.2.2.2 0 (S.1 f))), (7, .int (nI (S.2.2.2.2.1 f).length)), (6, .ref q_1), (0, .ref (ly_a y 0)), (1, .ref (ly_a (ly_sw y) 0)), (2, .ref ar), (3, .ref af), (4, .ref ac), (5, .int (nI f))]) hK.1.1 hK.1.2.1 dL_turns_129 hl (by decide) rfl (fun ls hl => ?_)
      refine lv_iconst (v := 0) hK.1.1 hK.1.2.1 dL_turns_131 (by decide) ?_
      refine lv_istore (lv' := [(14, .int 0), (13, .int 0), (12, .int 1), (11, .int (nI ln)), (10, .ref q_4), (9, .int (S.2.2.2.1 f)), (8, .int (S.2.2.2.2.2.2 0 (S.1 f))), (7, .int (nI (S.2.2.2.2.1 f).length)), (6, .ref q_1), (0, .ref (ly_a y 0)), (1, .ref (ly_a (ly_sw y) 0)), (2, .ref ar), (3, .ref af), (4, .ref ac), (5, .int (nI f))]) hK.1.1 hK.1.2.1 dL_turns_132 hl (by decide) rfl (fun ls hl => ?_)
      have loop2 : ∀ (dd n2 : Nat) (KB : Bool) (ls : Array Slot) (H : Heap) (locs : List Loc), 4 - n2 = dd → n2 ≤ 4 → (KB = true → ∃ j, j < 4 ∧ hf j = some f ∧ hp j = some (S.1 f)) → gk_P (ly_D y) A G_13 H → va_S A s.heap H locs → lv_has ls 16 [(14, .int (nI n2)), (13, .int (rg_b KB)), (12, .int 1), (10, .ref q_4), (9, .int (S.2.2.2.1 f)), (8, .int (S.2.2.2.2.2.2 0 (S.1 f))), (7, .int (nI (S.2.2.2.2.1 f).length)), (6, .ref q_1), (0, .ref (ly_a y 0)), (1, .ref (ly_a (ly_sw y) 0)), (2, .ref ar), (3, .ref af), (4, .ref ac), (5, .int (nI f)), (11, .int (nI ln))] → W p l e { frames := 10, cells := 12, slots := 4600, locals := 340 } s m [.ref (ly_a y 0), .ref (ly_a (ly_sw y) 0), .ref ar, .ref af, .ref ac, .int (nI f)].toArray below meth c H locs ((((((((0 + 1) + 0) + 0) + 0) + 1) + 3) + 3) + 0) ((((((((0 + 1) + 0) + 0) + 0) + 4) + 1509) + 1509) + 0) (MQ below (gk_Q y A (fun v G1 => v = some (.int 1) ∧ lj y G1 ar af ac (N + 1))) [.ref (ly_a y 0), .ref (ly_a (ly_sw y) 0), .ref ar, .ref af, .ref ac, .int (nI f)].toArray s 12 4600 A) (F0 m 134 ls []) := by
        intro dd
        induction dd using Nat.strongRecOn with
        | _ dd ih2 =>
        intro n2 KB ls H locs hdd2 hn2 hKB hP hS hl
        refine lv_iload hK.1.1 hK.1.2.1 dL_turns_134 (lv_at hl 0 rfl) ?_
        refine lv_iconst (v := 4) hK.1.1 hK.1.2.1 dL_turns_136 (by decide) ?_
        refine lv_icmp_ge (tgt := 291) hK.1.1 hK.1.2.1 dL_turns_137 (by decide) (fun c137_14 => ?_) (fun c137_14 => ?_)
        · refine lv_iload hK.1.1 hK.1.2.1 dL_turns_291 (lv_at hl 2 rfl) ?_
          refine lv_if_eq (tgt := 363) hK.1.1 hK.1.2.1 dL_turns_293 (by decide) (fun c => absurd c (by decide)) (fun _ => ?_)
          refine lv_iload hK.1.1 hK.1.2.1 dL_turns_296 (lv_at hl 1 rfl) ?_
          refine lv_if_eq (tgt := 320) hK.1.1 hK.1.2.1 dL_turns_298 (by decide) (fun c298_15 => ?_) (fun c298_15 => ?_)
          · refine lv_iload hK.1.1 hK.1.2.1 dL_turns_320 (lv_at hl 14 rfl) ?_
            refine lv_if_gt (tgt := 336) hK.1.1 hK.1.2.1 dL_turns_322 (by decide) (fun c322_16 => ?_) (fun c322_16 => ?_)
            · refine lv_aload_n hK.1.1 hK.1.2.1 dL_turns_336 rfl (lv_at hl 8 rfl) ?_
              refine lv_aload_n hK.1.1 hK.1.2.1 dL_turns_337 rfl (lv_at hl 10 rfl) ?_
              refine lv_aload_n hK.1.1 hK.1.2.1 dL_turns_338 rfl (lv_at hl 11 rfl) ?_
              refine lv_iload hK.1.1 hK.1.2.1 dL_turns_339 (lv_at hl 13 rfl) ?_
              refine lv_aload hK.1.1 hK.1.2.1 dL_turns_341 (lv_at hl 7 rfl) ?_
              refine gk_callS0 (n := 5) (As := [.ref (ly_a y 0), .ref ar, .ref af, .int (nI f), .ref q_1]) (rest := []) hK (c_L_isTurned l hfl (lw_o hW) hIT hN2 (lw_get hW (k := 2) rfl) (lw_get hW (k := 3) rfl) hlr (lw_get hW (k := 1) rfl) (f := f) f5 (hlfT f f5).1 (by rw [hT]; exact tn_live) (fun _ h7 n t hn hl9 h0 => by rw [hT] at hn hl9 h0; exact tn_sq (iv_z hI) f5 hqo h7 hn hl9 h0) (fun _ n t hn hh ha => by rw [hT] at hn ha ⊢; exact tn_dt hn hh ha (by omega)) (Or.inl rfl)) (gk_gS q_16_7 q_16_8 q_10_12 q_16_9) ⟨by decide +kernel, by decide +kernel, by decide +kernel⟩ ⟨(Nat.le_of_ble_eq_true rfl), (Nat.le_of_ble_eq_true rfl)⟩ hP hS rfl hl.1 rfl (Nat.le_of_ble_eq_true rfl) dL_turns_343 ⟨(Nat.le_of_ble_eq_true rfl), (Nat.le_of_ble_eq_true rfl)⟩ (fun v G1 H locs hw hP hS => ?_)
              obtain ⟨rfl, hG9⟩ := hw
              rw [hG9] at hP
              refine W.eq (g2 := F0 m 346 ls [.int 1]) rfl ?_
              refine lv_if_eq (tgt := 363) hK.1.1 hK.1.2.1 dL_turns_346 (by decide) (fun c => absurd c (by decide)) (fun _ => ?_)
              refine lv_aload_n hK.1.1 hK.1.2.1 dL_turns_349 rfl (lv_at hl 8 rfl) ?_
              refine lv_iconst (v := 5) hK.1.1 hK.1.2.1 dL_turns_350 (by decide) ?_
              refine gk_callSW (n := 2) (As := [.ref (ly_a y 0), .int 5]) (rest := []) hK (cb0_turn hfl (lw_o hW) (i := 5) (Or.inr (by decide)) (iv_Ll hIT) (iv_in5 hIT) (iv_len5 hIT hN2)) (gk_gS q_18_3 q_18_4 q_10_12 q_18_5) ⟨by decide +kernel, by decide +kernel, by decide +kernel⟩ ⟨(Nat.le_of_ble_eq_true rfl), (Nat.le_of_ble_eq_true rfl)⟩ hP hS rfl hl.1 rfl (Nat.le_of_ble_eq_true rfl) dL_turns_351 ⟨(Nat.le_of_ble_eq_true rfl), (Nat.le_of_ble_eq_true rfl)⟩ (fun v G1 H locs hw hP hS => ?_)
              obtain ⟨rfl, hG9⟩ := hw
              rw [hG9] at hP
              refine W.eq (g2 := F0 m 354 ls [.int (-1000001)]) rfl ?_
              refine lv_ldc (v := (-1000001)) hK.1.1 hK.1.2.1 hK.1.2.2.1 (hK.1.2.2.2 _ q_1_4) dL_turns_354 ?_
              refine lv_icmp_ne (tgt := 363) hK.1.1 hK.1.2.1 dL_turns_356 (by decide) (fun c => absurd rfl c) (fun _ => ?_)
              obtain ⟨G_17, hW, hsub⟩ := lw_tail hW
              have hP := gk_P_sub hP hsub
              obtain ⟨G_18, hW, hsub⟩ := lw_tail hW
              have hP := gk_P_sub hP hsub
              refine lv_iconst (v := 1) hK.1.1 hK.1.2.1 dL_turns_359 (by decide) ?_
              refine lv_goto (tgt := 364) hK.1.1 hK.1.2.1 dL_turns_360 (by decide) ?_
              exact gk_zret0 hK.1 hret (by first | decide | exact (rp_nz (by first | assumption | (simp; done))).1) hlk hP hS (Nat.le_of_ble_eq_true rfl) (Nat.le_of_ble_eq_true rfl) dL_turns_364 ⟨rfl, ed, td, ru, fr, hf, T, hp, T2, hp2, tt, rr, _, cc, hW, ⟨_, hIT⟩, ⟨_, hIT2⟩, ⟨_, hrnT⟩, hlr, hlfT, hcc⟩
            · refine lv_aload_n hK.1.1 hK.1.2.1 dL_turns_325 rfl (lv_at hl 8 rfl) ?_
              refine lv_iload hK.1.1 hK.1.2.1 dL_turns_326 (lv_at hl 13 rfl) ?_
              refine gk_callSW (n := 2) (As := [.ref (ly_a y 0), .int (nI f)]) (rest := []) hK (c0_L_thrown l hfl (lw_o hW) (f := f) f5) (gk_gS q_17_20 q_17_21 q_10_12 q_17_22) ⟨by decide +kernel, by decide +kernel, by decide +kernel⟩ ⟨(Nat.le_of_ble_eq_true rfl), (Nat.le_of_ble_eq_true rfl)⟩ hP hS rfl hl.1 rfl (Nat.le_of_ble_eq_true rfl) dL_turns_328 ⟨(Nat.le_of_ble_eq_true rfl), (Nat.le_of_ble_eq_true rfl)⟩ (fun v G1 H locs hw hP hS => ?_)
              obtain ⟨rfl, hG9⟩ := hw
              rw [hG9] at hP
              refine W.eq (g2 := F0 m 331 ls [.int (T.2.2.2.1 f)]) rfl ?_
              refine lv_iload hK.1.1 hK.1.2.1 dL_turns_331 (lv_at hl 4 rfl) ?_
              refine lv_icmp_ne (tgt := 363) hK.1.1 hK.1.2.1 dL_turns_333 (by decide) (fun c => absurd (by rw [hT]; exact tn_tl (by rw [← hln]; exact Nat.eq_zero_of_not_pos (fun z => c322_16 (nI_lt (a := 0) z (by omega))))) c) (fun _ => ?_)
              refine lv_aload_n hK.1.1 hK.1.2.1 dL_turns_336 rfl (lv_at hl 8 rfl) ?_
              refine lv_aload_n hK.1.1 hK.1.2.1 dL_turns_337 rfl (lv_at hl 10 rfl) ?_
              refine lv_aload_n hK.1.1 hK.1.2.1 dL_turns_338 rfl (lv_at hl 11 rfl) ?_
              refine lv_iload hK.1.1 hK.1.2.1 dL_turns_339 (lv_at hl 13 rfl) ?_
              refine lv_aload hK.1.1 hK.1.2.1 dL_turns_341 (lv_at hl 7 rfl) ?_
              refine gk_callS0 (n := 5) (As := [.ref (ly_a y 0), .ref ar, .ref af, .int (nI f), .ref q_1]) (rest := []) hK (c_L_isTurned l hfl (lw_o hW) hIT hN2 (lw_get hW (k := 2) rfl) (lw_get hW (k := 3) rfl) hlr (lw_get hW (k := 1) rfl) (f := f) f5 (hlfT f f5).1 (by rw [hT]; exact tn_live) (fun _ h7 n t hn hl9 h0 => by rw [hT] at hn hl9 h0; exact tn_sq (iv_z hI) f5 hqo h7 hn hl9 h0) (fun _ n t hn hh ha => by rw [hT] at hn ha ⊢; exact tn_dt hn hh ha (by omega)) (Or.inl rfl)) (gk_gS q_16_7 q_16_8 q_10_12 q_16_9) ⟨by decide +kernel, by decide +kernel, by decide +kernel⟩ ⟨(Nat.le_of_ble_eq_true rfl), (Nat.le_of_ble_eq_true rfl)⟩ hP hS rfl hl.1 rfl (Nat.le_of_ble_eq_true rfl) dL_turns_343 ⟨(Nat.le_of_ble_eq_true rfl), (Nat.le_of_ble_eq_true rfl)⟩ (fun v G1 H locs hw hP hS => ?_)
              obtain ⟨rfl, hG9⟩ := hw
              rw [hG9] at hP
              refine W.eq (g2 := F0 m 346 ls [.int 1]) rfl ?_
              refine lv_if_eq (tgt := 363) hK.1.1 hK.1.2.1 dL_turns_346 (by decide) (fun c => absurd c (by decide)) (fun _ => ?_)
              refine lv_aload_n hK.1.1 hK.1.2.1 dL_turns_349 rfl (lv_at hl 8 rfl) ?_
              refine lv_iconst (v := 5) hK.1.1 hK.1.2.1 dL_turns_350 (by decide) ?_
              refine gk_callSW (n := 2) (As := [.ref (ly_a y 0), .int 5]) (rest := []) hK (cb0_turn hfl (lw_o hW) (i := 5) (Or.inr (by decide)) (iv_Ll hIT) (iv_in5 hIT) (iv_len5 hIT hN2)) (gk_gS q_18_3 q_18_4 q_10_12 q_18_5) ⟨by decide +kernel, by decide +kernel, by decide +kernel⟩ ⟨(Nat.le_of_ble_eq_true rfl), (Nat.le_of_ble_eq_true rfl)⟩ hP hS rfl hl.1 rfl (Nat.le_of_ble_eq_true rfl) dL_turns_351 ⟨(Nat.le_of_ble_eq_true rfl), (Nat.le_of_ble_eq_true rfl)⟩ (fun v G1 H locs hw hP hS => ?_)
              obtain ⟨rfl, hG9⟩ := hw
              rw [hG9] at hP
              refine W.eq (g2 := F0 m 354 ls [.int (-1000001)]) rfl ?_
              refine lv_ldc (v := (-1000001)) hK.1.1 hK.1.2.1 hK.1.2.2.1 (hK.1.2.2.2 _ q_1_4) dL_turns_354 ?_
              refine lv_icmp_ne (tgt := 363) hK.1.1 hK.1.2.1 dL_turns_356 (by decide) (fun c => absurd rfl c) (fun _ => ?_)
              obtain ⟨G_19, hW, hsub⟩ := lw_tail hW
              have hP := gk_P_sub hP hsub
              obtain ⟨G_20, hW, hsub⟩ := lw_tail hW
              have hP := gk_P_sub hP hsub
              refine lv_iconst (v := 1) hK.1.1 hK.1.2.1 dL_turns_359 (by decide) ?_
              refine lv_goto (tgt := 364) hK.1.1 hK.1.2.1 dL_turns_360 (by decide) ?_
              exact gk_zret0 hK.1 hret (by first | decide | exact (rp_nz (by first | assumption | (simp; done))).1) hlk hP hS (Nat.le_of_ble_eq_true rfl) (Nat.le_of_ble_eq_true rfl) dL_turns_364 ⟨rfl, ed, td, ru, fr, hf, T, hp, T2, hp2, tt, rr, _, cc, hW, ⟨_, hIT⟩, ⟨_, hIT2⟩, ⟨_, hrnT⟩, hlr, hlfT, hcc⟩
          · obtain ⟨j9, hj9, hjf, hjp⟩ := hKB (by cases hz9 : KB with | true => rfl | false => exact absurd (rg_b0.mpr hz9) c298_15)
            obtain ⟨-, hk9⟩ := tn_keep (q := qo) (td := td) (ru := ru) (fr := fr) (iv_z hI) f5 hj9 hjp (Or.inl rfl)
            rw [← hT] at hk9
            obtain ⟨hk8, hk7⟩ := hk9 rfl
            refine lv_aload_n hK.1.1 hK.1.2.1 dL_turns_301 rfl (lv_at hl 8 rfl) ?_
            refine lv_iload hK.1.1 hK.1.2.1 dL_turns_302 (lv_at hl 13 rfl) ?_
            refine lv_aload_n hK.1.1 hK.1.2.1 dL_turns_304 rfl (lv_at hl 8 rfl) ?_
            refine lv_iload hK.1.1 hK.1.2.1 dL_turns_305 (lv_at hl 13 rfl) ?_
            refine gk_callSW (n := 2) (As := [.ref (ly_a y 0), .int (nI f)]) (rest := [.int (nI f), .ref (ly_a y 0)]) hK (c0_L_olds l hfl (lw_o hW) (f := f) f5) (gk_gS q_16_10 q_16_11 q_10_12 q_16_12) ⟨by decide +kernel, by decide +kernel, by decide +kernel⟩ ⟨(Nat.le_of_ble_eq_true rfl), (Nat.le_of_ble_eq_true rfl)⟩ hP hS rfl hl.1 rfl (Nat.le_of_ble_eq_true rfl) dL_turns_307 ⟨(Nat.le_of_ble_eq_true rfl), (Nat.le_of_ble_eq_true rfl)⟩ (fun v G1 H locs hw hP hS => ?_)
            obtain ⟨rfl, hG9⟩ := hw
            rw [hG9] at hP
            refine W.eq (g2 := F0 m 310 ls [.int (nI (T.2.2.2.2.1 f).length), .int (nI f), .ref (ly_a y 0)]) rfl ?_
            refine lv_iconst (v := 1) hK.1.1 hK.1.2.1 dL_turns_310 (by decide) ?_
            refine lv_isub hK.1.1 hK.1.2.1 dL_turns_311 ?_
            refine W.eq (g2 := F0 m 312 ls [.int (nI ((T.2.2.2.2.1 f).length - 1)), .int (nI f), .ref (ly_a y 0)]) (by rw [show (nI (T.2.2.2.2.1 f).length) - 1 = nI ((T.2.2.2.2.1 f).length - 1) from pk_sub (b := 1) (by omega)]) ?_
            refine gk_callSW (n := 3) (As := [.ref (ly_a y 0), .int (nI f), .int (nI ((T.2.2.2.2.1 f).length - 1))]) (rest := []) hK (c0_L_lines l hfl (lw_o hW) (f := f) f5 hk8 (iv_in5 hIT)) (gk_gS q_15_11 q_15_12 q_10_12 q_15_13) ⟨by decide +kernel, by decide +kernel, by decide +kernel⟩ ⟨(Nat.le_of_ble_eq_true rfl), (Nat.le_of_ble_eq_true rfl)⟩ hP hS rfl hl.1 rfl (Nat.le_of_ble_eq_true rfl) dL_turns_312 ⟨(Nat.le_of_ble_eq_true rfl), (Nat.le_of_ble_eq_true rfl)⟩ (fun v G1 H locs hw hP hS => ?_)
            obtain ⟨rfl, hG9⟩ := hw
            rw [hG9] at hP
            refine W.eq (g2 := F0 m 315 ls [.int (T.2.2.2.2.2.2 0 (S.1 f))]) rfl ?_
            refine lv_iload hK.1.1 hK.1.2.1 dL_turns_315 (lv_at hl 5 rfl) ?_
            refine lv_icmp_ne (tgt := 363) hK.1.1 hK.1.2.1 dL_turns_317 (by decide) (fun c => absurd (by rw [hT]; exact tn_pf0 (fun z => hqo (z ▸ iv_Ll hI f f5))) c) (fun _ => ?_)
            refine lv_iload hK.1.1 hK.1.2.1 dL_turns_320 (lv_at hl 14 rfl) ?_
            refine lv_if_gt (tgt := 336) hK.1.1 hK.1.2.1 dL_turns_322 (by decide) (fun c322_21 => ?_) (fun c322_21 => ?_)
            · refine lv_aload_n hK.1.1 hK.1.2.1 dL_turns_336 rfl (lv_at hl 8 rfl) ?_
              refine lv_aload_n hK.1.1 hK.1.2.1 dL_turns_337 rfl (lv_at hl 10 rfl) ?_
              refine lv_aload_n hK.1.1 hK.1.2.1 dL_turns_338 rfl (lv_at hl 11 rfl) ?_
              refine lv_iload hK.1.1 hK.1.2.1 dL_turns_339 (lv_at hl 13 rfl) ?_
              refine lv_aload hK.1.1 hK.1.2.1 dL_turns_341 (lv_at hl 7 rfl) ?_
              refine gk_callS0 (n := 5) (As := [.ref (ly_a y 0), .ref ar, .ref af, .int (nI f), .ref q_1]) (rest := []) hK (c_L_isTurned l hfl (lw_o hW) hIT hN2 (lw_get hW (k := 2) rfl) (lw_get hW (k := 3) rfl) hlr (lw_get hW (k := 1) rfl) (f := f) f5 (hlfT f f5).1 (by rw [hT]; exact tn_live) (fun _ h7 n t hn hl9 h0 => by rw [hT] at hn hl9 h0; exact tn_sq (iv_z hI) f5 hqo h7 hn hl9 h0) (fun _ n t hn hh ha => by rw [hT] at hn ha ⊢; exact tn_dt hn hh ha (by omega)) (Or.inl rfl)) (gk_gS q_16_7 q_16_8 q_10_12 q_16_9) ⟨by decide +kernel, by decide +kernel, by decide +kernel⟩ ⟨(Nat.le_of_ble_eq_true rfl), (Nat.le_of_ble_eq_true rfl)⟩ hP hS rfl hl.1 rfl (Nat.le_of_ble_eq_true rfl) dL_turns_343 ⟨(Nat.le_of_ble_eq_true rfl), (Nat.le_of_ble_eq_true rfl)⟩ (fun v G1 H locs hw hP hS => ?_)
              obtain ⟨rfl, hG9⟩ := hw
              rw [hG9] at hP
              refine W.eq (g2 := F0 m 346 ls [.int 1]) rfl ?_
              refine lv_if_eq (tgt := 363) hK.1.1 hK.1.2.1 dL_turns_346 (by decide) (fun c => absurd c (by decide)) (fun _ => ?_)
              refine lv_aload_n hK.1.1 hK.1.2.1 dL_turns_349 rfl (lv_at hl 8 rfl) ?_
              refine lv_iconst (v := 5) hK.1.1 hK.1.2.1 dL_turns_350 (by decide) ?_
              refine gk_callSW (n := 2) (As := [.ref (ly_a y 0), .int 5]) (rest := []) hK (cb0_turn hfl (lw_o hW) (i := 5) (Or.inr (by decide)) (iv_Ll hIT) (iv_in5 hIT) (iv_len5 hIT hN2)) (gk_gS q_18_3 q_18_4 q_10_12 q_18_5) ⟨by decide +kernel, by decide +kernel, by decide +kernel⟩ ⟨(Nat.le_of_ble_eq_true rfl), (Nat.le_of_ble_eq_true rfl)⟩ hP hS rfl hl.1 rfl (Nat.le_of_ble_eq_true rfl) dL_turns_351 ⟨(Nat.le_of_ble_eq_true rfl), (Nat.le_of_ble_eq_true rfl)⟩ (fun v G1 H locs hw hP hS => ?_)
              obtain ⟨rfl, hG9⟩ := hw
              rw [hG9] at hP
              refine W.eq (g2 := F0 m 354 ls [.int (-1000001)]) rfl ?_
              refine lv_ldc (v := (-1000001)) hK.1.1 hK.1.2.1 hK.1.2.2.1 (hK.1.2.2.2 _ q_1_4) dL_turns_354 ?_
              refine lv_icmp_ne (tgt := 363) hK.1.1 hK.1.2.1 dL_turns_356 (by decide) (fun c => absurd rfl c) (fun _ => ?_)
              obtain ⟨G_22, hW, hsub⟩ := lw_tail hW
              have hP := gk_P_sub hP hsub
              obtain ⟨G_23, hW, hsub⟩ := lw_tail hW
              have hP := gk_P_sub hP hsub
              refine lv_iconst (v := 1) hK.1.1 hK.1.2.1 dL_turns_359 (by decide) ?_
              refine lv_goto (tgt := 364) hK.1.1 hK.1.2.1 dL_turns_360 (by decide) ?_
              exact gk_zret0 hK.1 hret (by first | decide | exact (rp_nz (by first | assumption | (simp; done))).1) hlk hP hS (Nat.le_of_ble_eq_true rfl) (Nat.le_of_ble_eq_true rfl) dL_turns_364 ⟨rfl, ed, td, ru, fr, hf, T, hp, T2, hp2, tt, rr, _, cc, hW, ⟨_, hIT⟩, ⟨_, hIT2⟩, ⟨_, hrnT⟩, hlr, hlfT, hcc⟩
            · refine lv_aload_n hK.1.1 hK.1.2.1 dL_turns_325 rfl (lv_at hl 8 rfl) ?_
              refine lv_iload hK.1.1 hK.1.2.1 dL_turns_326 (lv_at hl 13 rfl) ?_
              refine gk_callSW (n := 2) (As := [.ref (ly_a y 0), .int (nI f)]) (rest := []) hK (c0_L_thrown l hfl (lw_o hW) (f := f) f5) (gk_gS q_17_20 q_17_21 q_10_12 q_17_22) ⟨by decide +kernel, by decide +kernel, by decide +kernel⟩ ⟨(Nat.le_of_ble_eq_true rfl), (Nat.le_of_ble_eq_true rfl)⟩ hP hS rfl hl.1 rfl (Nat.le_of_ble_eq_true rfl) dL_turns_328 ⟨(Nat.le_of_ble_eq_true rfl), (Nat.le_of_ble_eq_true rfl)⟩ (fun v G1 H locs hw hP hS => ?_)
              obtain ⟨rfl, hG9⟩ := hw
              rw [hG9] at hP
              refine W.eq (g2 := F0 m 331 ls [.int (T.2.2.2.1 f)]) rfl ?_
              refine lv_iload hK.1.1 hK.1.2.1 dL_turns_331 (lv_at hl 4 rfl) ?_
              refine lv_icmp_ne (tgt := 363) hK.1.1 hK.1.2.1 dL_turns_333 (by decide) (fun c => absurd (by rw [hT]; exact tn_tl (by rw [← hln]; exact Nat.eq_zero_of_not_pos (fun z => c322_21 (nI_lt (a := 0) z (by omega))))) c) (fun _ => ?_)
              refine lv_aload_n hK.1.1 hK.1.2.1 dL_turns_336 rfl (lv_at hl 8 rfl) ?_
              refine lv_aload_n hK.1.1 hK.1.2.1 dL_turns_337 rfl (lv_at hl 10 rfl) ?_
              refine lv_aload_n hK.1.1 hK.1.2.1 dL_turns_338 rfl (lv_at hl 11 rfl) ?_
              refine lv_iload hK.1.1 hK.1.2.1 dL_turns_339 (lv_at hl 13 rfl) ?_
              refine lv_aload hK.1.1 hK.1.2.1 dL_turns_341 (lv_at hl 7 rfl) ?_
              refine gk_callS0 (n := 5) (As := [.ref (ly_a y 0), .ref ar, .ref af, .int (nI f), .ref q_1]) (rest := []) hK (c_L_isTurned l hfl (lw_o hW) hIT hN2 (lw_get hW (k := 2) rfl) (lw_get hW (k := 3) rfl) hlr (lw_get hW (k := 1) rfl) (f := f) f5 (hlfT f f5).1 (by rw [hT]; exact tn_live) (fun _ h7 n t hn hl9 h0 => by rw [hT] at hn hl9 h0; exact tn_sq (iv_z hI) f5 hqo h7 hn hl9 h0) (fun _ n t hn hh ha => by rw [hT] at hn ha ⊢; exact tn_dt hn hh ha (by omega)) (Or.inl rfl)) (gk_gS q_16_7 q_16_8 q_10_12 q_16_9) ⟨by decide +kernel, by decide +kernel, by decide +kernel⟩ ⟨(Nat.le_of_ble_eq_true rfl), (Nat.le_of_ble_eq_true rfl)⟩ hP hS rfl hl.1 rfl (Nat.le_of_ble_eq_true rfl) dL_turns_343 ⟨(Nat.le_of_ble_eq_true rfl), (Nat.le_of_ble_eq_true rfl)⟩ (fun v G1 H locs hw hP hS => ?_)
              obtain ⟨rfl, hG9⟩ := hw
              rw [hG9] at hP
              refine W.eq (g2 := F0 m 346 ls [.int 1]) rfl ?_
              refine lv_if_eq (tgt := 363) hK.1.1 hK.1.2.1 dL_turns_346 (by decide) (fun c => absurd c (by decide)) (fun _ => ?_)
              refine lv_aload_n hK.1.1 hK.1.2.1 dL_turns_349 rfl (lv_at hl 8 rfl) ?_
              refine lv_iconst (v := 5) hK.1.1 hK.1.2.1 dL_turns_350 (by decide) ?_
              refine gk_callSW (n := 2) (As := [.ref (ly_a y 0), .int 5]) (rest := []) hK (cb0_turn hfl (lw_o hW) (i := 5) (Or.inr (by decide)) (iv_Ll hIT) (iv_in5 hIT) (iv_len5 hIT hN2)) (gk_gS q_18_3 q_18_4 q_10_12 q_18_5) ⟨by decide +kernel, by decide +kernel, by decide +kernel⟩ ⟨(Nat.le_of_ble_eq_true rfl), (Nat.le_of_ble_eq_true rfl)⟩ hP hS rfl hl.1 rfl (Nat.le_of_ble_eq_true rfl) dL_turns_351 ⟨(Nat.le_of_ble_eq_true rfl), (Nat.le_of_ble_eq_true rfl)⟩ (fun v G1 H locs hw hP hS => ?_)
              obtain ⟨rfl, hG9⟩ := hw
              rw [hG9] at hP
              refine W.eq (g2 := F0 m 354 ls [.int (-1000001)]) rfl ?_
              refine lv_ldc (v := (-1000001)) hK.1.1 hK.1.2.1 hK.1.2.2.1 (hK.1.2.2.2 _ q_1_4) dL_turns_354 ?_
              refine lv_icmp_ne (tgt := 363) hK.1.1 hK.1.2.1 dL_turns_356 (by decide) (fun c => absurd rfl c) (fun _ => ?_)
              obtain ⟨G_24, hW, hsub⟩ := lw_tail hW
              have hP := gk_P_sub hP hsub
              obtain ⟨G_25, hW, hsub⟩ := lw_tail hW
              have hP := gk_P_sub hP hsub
              refine lv_iconst (v := 1) hK.1.1 hK.1.2.1 dL_turns_359 (by decide) ?_
              refine lv_goto (tgt := 364) hK.1.1 hK.1.2.1 dL_turns_360 (by decide) ?_
              exact gk_zret0 hK.1 hret (by first | decide | exact (rp_nz (by first | assumption | (simp; done))).1) hlk hP hS (Nat.le_of_ble_eq_true rfl) (Nat.le_of_ble_eq_true rfl) dL_turns_364 ⟨rfl, ed, td, ru, fr, hf, T, hp, T2, hp2, tt, rr, _, cc, hW, ⟨_, hIT⟩, ⟨_, hIT2⟩, ⟨_, hrnT⟩, hlr, hlfT, hcc⟩
        · have hn5 : n2 < 4 := Nat.lt_of_not_le (fun h => c137_14 (nI_le (a := 4) h (by omega)))
          obtain ⟨tz1, tz2⟩ := tn_hz (q := qo) hI f5 hn5
          rw [← hT] at tz1 tz2
          have hgn := hgg n2 hn5
          rcases iv_hz hI hN1 hn5 with ⟨z1, z2, z3⟩ | ⟨g, t, r9, g5, q1, q2, z1, z2, z3, z4⟩
          · refine lv_aload hK.1.1 hK.1.2.1 dL_turns_140 (lv_at hl 3 rfl) ?_
            refine lv_iload hK.1.1 hK.1.2.1 dL_turns_142 (lv_at hl 0 rfl) ?_
            refine gk_iald hK.1 hK.2.2.1.1 hP 0 (lw_get hW (k := 0) rfl) rfl (i := nI n2) (vp_in_nI (n := n2) (N := 4) (by omega) (by decide)) dL_turns_144 ?_
            refine W.eq (g2 := F0 m 145 ls [.int (-1)]) (by rw [show gg (nI n2).toNatClampNeg = (-1) from by rw [show (nI n2 : Int32).toNatClampNeg = n2 from nI_clamp (n := n2) (by omega)]; exact (hgn.trans z3)]) ?_
            refine lv_if_lt (tgt := 165) hK.1.1 hK.1.2.1 dL_turns_145 (by decide) (fun _ => ?_) (fun c => absurd (by decide) c)
            refine lv_iconst (v := 0) hK.1.1 hK.1.2.1 dL_turns_165 (by decide) ?_
            refine lv_istore (lv' := [(15, .int 0), (14, .int (nI n2)), (13, .int (rg_b KB)), (12, .int 1), (10, .ref q_4), (9, .int (S.2.2.2.1 f)), (8, .int (S.2.2.2.2.2.2 0 (S.1 f))), (7, .int (nI (S.2.2.2.2.1 f).length)), (6, .ref q_1), (0, .ref (ly_a y 0)), (1, .ref (ly_a (ly_sw y) 0)), (2, .ref ar), (3, .ref af), (4, .ref ac), (5, .int (nI f)), (11, .int (nI ln))]) hK.1.1 hK.1.2.1 dL_turns_166 hl (by decide) rfl (fun ls hl => ?_)
            refine lv_iload hK.1.1 hK.1.2.1 dL_turns_168 (lv_at hl 3 rfl) ?_
            refine lv_if_eq (tgt := 254) hK.1.1 hK.1.2.1 dL_turns_170 (by decide) (fun c => absurd c (by decide)) (fun _ => ?_)
            refine lv_iload hK.1.1 hK.1.2.1 dL_turns_173 (lv_at hl 0 rfl) ?_
            refine lv_if_ne (tgt := 195) hK.1.1 hK.1.2.1 dL_turns_175 (by decide) (fun c => absurd rfl c) (fun _ => ?_)
            refine lv_aload_n hK.1.1 hK.1.2.1 dL_turns_178 rfl (lv_at hl 9 rfl) ?_
            refine lv_iload hK.1.1 hK.1.2.1 dL_turns_179 (lv_at hl 1 rfl) ?_
            refine gk_callSW (n := 2) (As := [.ref (ly_a y 0), .int (nI n2)]) (rest := []) hK (c0_L_holds l hfl (lw_o hW) (h := n2) hn5 (iv_Ho hIT)) (gk_gS q_10_10 q_10_11 q_10_12 q_10_13) ⟨by decide +kernel, by decide +kernel, by decide +kernel⟩ ⟨(Nat.le_of_ble_eq_true rfl), (Nat.le_of_ble_eq_true rfl)⟩ hP hS rfl hl.1 rfl (Nat.le_of_ble_eq_true rfl) dL_turns_181 ⟨(Nat.le_of_ble_eq_true rfl), (Nat.le_of_ble_eq_true rfl)⟩ (fun v G1 H locs hw hP hS => ?_)
            obtain ⟨x9, hx9, rfl, hG9⟩ := hw
            rw [hG9] at hP
            obtain rfl := hz_eq hx9
            refine W.eq (g2 := F0 m 184 ls [.int (hz hf hp T.2.2.2.2.1 n2)]) rfl ?_
            refine W.eq (g2 := F0 m 184 ls [.int (-1)]) (by rw [show hz hf hp T.2.2.2.2.1 n2 = (-1) from (hz_none z1)]) ?_
            refine lv_aload hK.1.1 hK.1.2.1 dL_turns_184 (lv_at hl 4 rfl) ?_
            refine lv_iload hK.1.1 hK.1.2.1 dL_turns_186 (lv_at hl 1 rfl) ?_
            refine gk_iald hK.1 hK.2.2.1.1 hP 0 (lw_get hW (k := 0) rfl) rfl (i := nI n2) (vp_in_nI (n := n2) (N := 4) (by omega) (by decide)) dL_turns_188 ?_
            refine W.eq (g2 := F0 m 189 ls [.int (-1), .int (-1)]) (by rw [show gg (nI n2).toNatClampNeg = (-1) from by rw [show (nI n2 : Int32).toNatClampNeg = n2 from nI_clamp (n := n2) (by omega)]; exact (hgn.trans z3)]) ?_
            refine lv_icmp_ne (tgt := 254) hK.1.1 hK.1.2.1 dL_turns_189 (by decide) (fun c => absurd rfl c) (fun _ => ?_)
            refine lv_goto (tgt := 250) hK.1.1 hK.1.2.1 dL_turns_192 (by decide) ?_
            refine lv_iconst (v := 1) hK.1.1 hK.1.2.1 dL_turns_250 (by decide) ?_
            refine lv_goto (tgt := 255) hK.1.1 hK.1.2.1 dL_turns_251 (by decide) ?_
            refine lv_istore (lv' := [(12, .int 1), (15, .int 0), (14, .int (nI n2)), (13, .int (rg_b KB)), (10, .ref q_4), (9, .int (S.2.2.2.1 f)), (8, .int (S.2.2.2.2.2.2 0 (S.1 f))), (7, .int (nI (S.2.2.2.2.1 f).length)), (6, .ref q_1), (0, .ref (ly_a y 0)), (1, .ref (ly_a (ly_sw y) 0)), (2, .ref ar), (3, .ref af), (4, .ref ac), (5, .int (nI f)), (11, .int (nI ln))]) hK.1.1 hK.1.2.1 dL_turns_255 hl (by decide) rfl (fun ls hl => ?_)
            refine lv_iload hK.1.1 hK.1.2.1 dL_turns_257 (lv_at hl 3 rfl) ?_
            refine lv_if_ne (tgt := 278) hK.1.1 hK.1.2.1 dL_turns_259 (by decide) (fun c259_26 => ?_) (fun c259_26 => ?_)
            · refine lv_iconst (v := 1) hK.1.1 hK.1.2.1 dL_turns_278 (by decide) ?_
              refine lv_goto (tgt := 283) hK.1.1 hK.1.2.1 dL_turns_279 (by decide) ?_
              refine lv_istore (lv' := [(13, .int 1), (12, .int 1), (15, .int 0), (14, .int (nI n2)), (10, .ref q_4), (9, .int (S.2.2.2.1 f)), (8, .int (S.2.2.2.2.2.2 0 (S.1 f))), (7, .int (nI (S.2.2.2.2.1 f).length)), (6, .ref q_1), (0, .ref (ly_a y 0)), (1, .ref (ly_a (ly_sw y) 0)), (2, .ref ar), (3, .ref af), (4, .ref ac), (5, .int (nI f)), (11, .int (nI ln))]) hK.1.1 hK.1.2.1 dL_turns_283 hl (by decide) rfl (fun ls hl => ?_)
              refine lv_iinc (v := nI (n2 + 1)) (lv' := [(14, .int (nI (n2 + 1))), (13, .int 1), (12, .int 1), (15, .int 0), (10, .ref q_4), (9, .int (S.2.2.2.1 f)), (8, .int (S.2.2.2.2.2.2 0 (S.1 f))), (7, .int (nI (S.2.2.2.2.1 f).length)), (6, .ref q_1), (0, .ref (ly_a y 0)), (1, .ref (ly_a (ly_sw y) 0)), (2, .ref ar), (3, .ref af), (4, .ref ac), (5, .int (nI f)), (11, .int (nI ln))]) hK.1.1 hK.1.2.1 dL_turns_285 hl (k := 3) rfl (nI_1 n2) (by decide) rfl (fun ls hl => ?_)
              refine lv_goto (tgt := 134) hK.1.1 hK.1.2.1 dL_turns_288 (by decide) ?_
              exact ih2 (4 - (n2 + 1)) (by omega) (n2 + 1) true ls _ _ rfl (by omega) (fun _ => hKB (by cases hz9 : KB with | true => rfl | false => exact absurd (rg_b0.mpr hz9) c259_26)) hP hS (lv_sub hl [0, 1, 2, 4, 5, 6, 7, 8, 9, 10, 11, 12, 13, 14, 15] rfl)
            · refine lv_iload hK.1.1 hK.1.2.1 dL_turns_262 (lv_at hl 1 rfl) ?_
              refine lv_if_eq (tgt := 282) hK.1.1 hK.1.2.1 dL_turns_264 (by decide) (fun _ => ?_) (fun c => absurd (by decide) c)
              refine lv_iconst (v := 0) hK.1.1 hK.1.2.1 dL_turns_282 (by decide) ?_
              refine lv_istore (lv' := [(13, .int 0), (12, .int 1), (15, .int 0), (14, .int (nI n2)), (10, .ref q_4), (9, .int (S.2.2.2.1 f)), (8, .int (S.2.2.2.2.2.2 0 (S.1 f))), (7, .int (nI (S.2.2.2.2.1 f).length)), (6, .ref q_1), (0, .ref (ly_a y 0)), (1, .ref (ly_a (ly_sw y) 0)), (2, .ref ar), (3, .ref af), (4, .ref ac), (5, .int (nI f)), (11, .int (nI ln))]) hK.1.1 hK.1.2.1 dL_turns_283 hl (by decide) rfl (fun ls hl => ?_)
              refine lv_iinc (v := nI (n2 + 1)) (lv' := [(14, .int (nI (n2 + 1))), (13, .int 0), (12, .int 1), (15, .int 0), (10, .ref q_4), (9, .int (S.2.2.2.1 f)), (8, .int (S.2.2.2.2.2.2 0 (S.1 f))), (7, .int (nI (S.2.2.2.2.1 f).length)), (6, .ref q_1), (0, .ref (ly_a y 0)), (1, .ref (ly_a (ly_sw y) 0)), (2, .ref ar), (3, .ref af), (4, .ref ac), (5, .int (nI f)), (11, .int (nI ln))]) hK.1.1 hK.1.2.1 dL_turns_285 hl (k := 3) rfl (nI_1 n2) (by decide) rfl (fun ls hl => ?_)
              refine lv_goto (tgt := 134) hK.1.1 hK.1.2.1 dL_turns_288 (by decide) ?_
              exact ih2 (4 - (n2 + 1)) (by omega) (n2 + 1) false ls _ _ rfl (by omega) (fun q => by cases q) hP hS (lv_sub hl [0, 1, 2, 4, 5, 6, 7, 8, 9, 10, 11, 12, 13, 14, 15] rfl)
          · have hlg := iv_len hI hN1 g g5
            refine lv_aload hK.1.1 hK.1.2.1 dL_turns_140 (lv_at hl 3 rfl) ?_
            refine lv_iload hK.1.1 hK.1.2.1 dL_turns_142 (lv_at hl 0 rfl) ?_
            refine gk_iald hK.1 hK.2.2.1.1 hP 0 (lw_get hW (k := 0) rfl) rfl (i := nI n2) (vp_in_nI (n := n2) (N := 4) (by omega) (by decide)) dL_turns_144 ?_
            refine W.eq (g2 := F0 m 145 ls [.int (nI (100 * g + r9))]) (by rw [show gg (nI n2).toNatClampNeg = nI (100 * g + r9) from by rw [show (nI n2 : Int32).toNatClampNeg = n2 from nI_clamp (n := n2) (by omega)]; exact (hgn.trans z3)]) ?_
            refine lv_if_lt (tgt := 165) hK.1.1 hK.1.2.1 dL_turns_145 (by decide) (fun c => absurd c (nI_pos (by omega))) (fun _ => ?_)
            refine lv_aload hK.1.1 hK.1.2.1 dL_turns_148 (lv_at hl 3 rfl) ?_
            refine lv_iload hK.1.1 hK.1.2.1 dL_turns_150 (lv_at hl 0 rfl) ?_
            refine gk_iald hK.1 hK.2.2.1.1 hP 0 (lw_get hW (k := 0) rfl) rfl (i := nI n2) (vp_in_nI (n := n2) (N := 4) (by omega) (by decide)) dL_turns_152 ?_
            refine W.eq (g2 := F0 m 153 ls [.int (nI (100 * g + r9))]) (by rw [show gg (nI n2).toNatClampNeg = nI (100 * g + r9) from by rw [show (nI n2 : Int32).toNatClampNeg = n2 from nI_clamp (n := n2) (by omega)]; exact (hgn.trans z3)]) ?_
            refine lv_bipush (v := 100) hK.1.1 hK.1.2.1 dL_turns_153 (by decide) ?_
            refine lv_idiv hK.1.1 hK.1.2.1 dL_turns_155 (by decide) ?_
            refine W.eq (g2 := F0 m 156 ls [.int (nI ((100 * g + r9) / 100))]) (by rw [show (nI (100 * g + r9)) / 100 = nI ((100 * g + r9) / 100) from pk_div (by omega) (by decide) (by decide)]) ?_
            refine W.eq (g2 := F0 m 156 ls [.int (nI g)]) (by rw [show nI ((100 * g + r9) / 100) = nI g from (by congr 1; omega)]) ?_
            refine lv_iload hK.1.1 hK.1.2.1 dL_turns_156 (lv_at hl 13 rfl) ?_
            refine lv_icmp_ne (tgt := 165) hK.1.1 hK.1.2.1 dL_turns_158 (by decide) (fun c158_27 => ?_) (fun c158_27 => ?_)
            · have hgf : g ≠ f := fun q => c158_27 (by rw [q])
              refine lv_iconst (v := 0) hK.1.1 hK.1.2.1 dL_turns_165 (by decide) ?_
              refine lv_istore (lv' := [(15, .int 0), (14, .int (nI n2)), (13, .int (rg_b KB)), (12, .int 1), (10, .ref q_4), (9, .int (S.2.2.2.1 f)), (8, .int (S.2.2.2.2.2.2 0 (S.1 f))), (7, .int (nI (S.2.2.2.2.1 f).length)), (6, .ref q_1), (0, .ref (ly_a y 0)), (1, .ref (ly_a (ly_sw y) 0)), (2, .ref ar), (3, .ref af), (4, .ref ac), (5, .int (nI f)), (11, .int (nI ln))]) hK.1.1 hK.1.2.1 dL_turns_166 hl (by decide) rfl (fun ls hl => ?_)
              refine lv_iload hK.1.1 hK.1.2.1 dL_turns_168 (lv_at hl 3 rfl) ?_
              refine lv_if_eq (tgt := 254) hK.1.1 hK.1.2.1 dL_turns_170 (by decide) (fun c => absurd c (by decide)) (fun _ => ?_)
              refine lv_iload hK.1.1 hK.1.2.1 dL_turns_173 (lv_at hl 0 rfl) ?_
              refine lv_if_ne (tgt := 195) hK.1.1 hK.1.2.1 dL_turns_175 (by decide) (fun c => absurd rfl c) (fun _ => ?_)
              refine lv_aload_n hK.1.1 hK.1.2.1 dL_turns_178 rfl (lv_at hl 9 rfl) ?_
              refine lv_iload hK.1.1 hK.1.2.1 dL_turns_179 (lv_at hl 1 rfl) ?_
              refine gk_callSW (n := 2) (As := [.ref (ly_a y 0), .int (nI n2)]) (rest := []) hK (c0_L_holds l hfl (lw_o hW) (h := n2) hn5 (iv_Ho hIT)) (gk_gS q_10_10 q_10_11 q_10_12 q_10_13) ⟨by decide +kernel, by decide +kernel, by decide +kernel⟩ ⟨(Nat.le_of_ble_eq_true rfl), (Nat.le_of_ble_eq_true rfl)⟩ hP hS rfl hl.1 rfl (Nat.le_of_ble_eq_true rfl) dL_turns_181 ⟨(Nat.le_of_ble_eq_true rfl), (Nat.le_of_ble_eq_true rfl)⟩ (fun v G1 H locs hw hP hS => ?_)
              obtain ⟨x9, hx9, rfl, hG9⟩ := hw
              rw [hG9] at hP
              obtain rfl := hz_eq hx9
              refine W.eq (g2 := F0 m 184 ls [.int (hz hf hp T.2.2.2.2.1 n2)]) rfl ?_
              refine W.eq (g2 := F0 m 184 ls [.int (nI (100 * g + r9))]) (by rw [show hz hf hp T.2.2.2.2.1 n2 = nI (100 * g + r9) from ((tz1 g hgf z1).trans z3)]) ?_
              refine lv_aload hK.1.1 hK.1.2.1 dL_turns_184 (lv_at hl 4 rfl) ?_
              refine lv_iload hK.1.1 hK.1.2.1 dL_turns_186 (lv_at hl 1 rfl) ?_
              refine gk_iald hK.1 hK.2.2.1.1 hP 0 (lw_get hW (k := 0) rfl) rfl (i := nI n2) (vp_in_nI (n := n2) (N := 4) (by omega) (by decide)) dL_turns_188 ?_
              refine W.eq (g2 := F0 m 189 ls [.int (nI (100 * g + r9)), .int (nI (100 * g + r9))]) (by rw [show gg (nI n2).toNatClampNeg = nI (100 * g + r9) from by rw [show (nI n2 : Int32).toNatClampNeg = n2 from nI_clamp (n := n2) (by omega)]; exact (hgn.trans z3)]) ?_
              refine lv_icmp_ne (tgt := 254) hK.1.1 hK.1.2.1 dL_turns_189 (by decide) (fun c => absurd rfl c) (fun _ => ?_)
              refine lv_goto (tgt := 250) hK.1.1 hK.1.2.1 dL_turns_192 (by decide) ?_
              refine lv_iconst (v := 1) hK.1.1 hK.1.2.1 dL_turns_250 (by decide) ?_
              refine lv_goto (tgt := 255) hK.1.1 hK.1.2.1 dL_turns_251 (by decide) ?_
              refine lv_istore (lv' := [(12, .int 1), (15, .int 0), (14, .int (nI n2)), (13, .int (rg_b KB)), (10, .ref q_4), (9, .int (S.2.2.2.1 f)), (8, .int (S.2.2.2.2.2.2 0 (S.1 f))), (7, .int (nI (S.2.2.2.2.1 f).length)), (6, .ref q_1), (0, .ref (ly_a y 0)), (1, .ref (ly_a (ly_sw y) 0)), (2, .ref ar), (3, .ref af), (4, .ref ac), (5, .int (nI f)), (11, .int (nI ln))]) hK.1.1 hK.1.2.1 dL_turns_255 hl (by decide) rfl (fun ls hl => ?_)
              refine lv_iload hK.1.1 hK.1.2.1 dL_turns_257 (lv_at hl 3 rfl) ?_
              refine lv_if_ne (tgt := 278) hK.1.1 hK.1.2.1 dL_turns_259 (by decide) (fun c259_28 => ?_) (fun c259_28 => ?_)
              · refine lv_iconst (v := 1) hK.1.1 hK.1.2.1 dL_turns_278 (by decide) ?_
                refine lv_goto (tgt := 283) hK.1.1 hK.1.2.1 dL_turns_279 (by decide) ?_
                refine lv_istore (lv' := [(13, .int 1), (12, .int 1), (15, .int 0), (14, .int (nI n2)), (10, .ref q_4), (9, .int (S.2.2.2.1 f)), (8, .int (S.2.2.2.2.2.2 0 (S.1 f))), (7, .int (nI (S.2.2.2.2.1 f).length)), (6, .ref q_1), (0, .ref (ly_a y 0)), (1, .ref (ly_a (ly_sw y) 0)), (2, .ref ar), (3, .ref af), (4, .ref ac), (5, .int (nI f)), (11, .int (nI ln))]) hK.1.1 hK.1.2.1 dL_turns_283 hl (by decide) rfl (fun ls hl => ?_)
                refine lv_iinc (v := nI (n2 + 1)) (lv' := [(14, .int (nI (n2 + 1))), (13, .int 1), (12, .int 1), (15, .int 0), (10, .ref q_4), (9, .int (S.2.2.2.1 f)), (8, .int (S.2.2.2.2.2.2 0 (S.1 f))), (7, .int (nI (S.2.2.2.2.1 f).length)), (6, .ref q_1), (0, .ref (ly_a y 0)), (1, .ref (ly_a (ly_sw y) 0)), (2, .ref ar), (3, .ref af), (4, .ref ac), (5, .int (nI f)), (11, .int (nI ln))]) hK.1.1 hK.1.2.1 dL_turns_285 hl (k := 3) rfl (nI_1 n2) (by decide) rfl (fun ls hl => ?_)
                refine lv_goto (tgt := 134) hK.1.1 hK.1.2.1 dL_turns_288 (by decide) ?_
                exact ih2 (4 - (n2 + 1)) (by omega) (n2 + 1) true ls _ _ rfl (by omega) (fun _ => hKB (by cases hz9 : KB with | true => rfl | false => exact absurd (rg_b0.mpr hz9) c259_28)) hP hS (lv_sub hl [0, 1, 2, 4, 5, 6, 7, 8, 9, 10, 11, 12, 13, 14, 15] rfl)
              · refine lv_iload hK.1.1 hK.1.2.1 dL_turns_262 (lv_at hl 1 rfl) ?_
                refine lv_if_eq (tgt := 282) hK.1.1 hK.1.2.1 dL_turns_264 (by decide) (fun _ => ?_) (fun c => absurd (by decide) c)
                refine lv_iconst (v := 0) hK.1.1 hK.1.2.1 dL_turns_282 (by decide) ?_
                refine lv_istore (lv' := [(13, .int 0), (12, .int 1), (15, .int 0), (14, .int (nI n2)), (10, .ref q_4), (9, .int (S.2.2.2.1 f)), (8, .int (S.2.2.2.2.2.2 0 (S.1 f))), (7, .int (nI (S.2.2.2.2.1 f).length)), (6, .ref q_1), (0, .ref (ly_a y 0)), (1, .ref (ly_a (ly_sw y) 0)), (2, .ref ar), (3, .ref af), (4, .ref ac), (5, .int (nI f)), (11, .int (nI ln))]) hK.1.1 hK.1.2.1 dL_turns_283 hl (by decide) rfl (fun ls hl => ?_)
                refine lv_iinc (v := nI (n2 + 1)) (lv' := [(14, .int (nI (n2 + 1))), (13, .int 0), (12, .int 1), (15, .int 0), (10, .ref q_4), (9, .int (S.2.2.2.1 f)), (8, .int (S.2.2.2.2.2.2 0 (S.1 f))), (7, .int (nI (S.2.2.2.2.1 f).length)), (6, .ref q_1), (0, .ref (ly_a y 0)), (1, .ref (ly_a (ly_sw y) 0)), (2, .ref ar), (3, .ref af), (4, .ref ac), (5, .int (nI f)), (11, .int (nI ln))]) hK.1.1 hK.1.2.1 dL_turns_285 hl (k := 3) rfl (nI_1 n2) (by decide) rfl (fun ls hl => ?_)
                refine lv_goto (tgt := 134) hK.1.1 hK.1.2.1 dL_turns_288 (by decide) ?_
                exact ih2 (4 - (n2 + 1)) (by omega) (n2 + 1) false ls _ _ rfl (by omega) (fun q => by cases q) hP hS (lv_sub hl [0, 1, 2, 4, 5, 6, 7, 8, 9, 10, 11, 12, 13, 14, 15] rfl)
            · have hgf : f = g := ((nI_eq (by omega) (by omega)).mp c158_27).symm
              subst hgf
              obtain ⟨w1, w2, w3⟩ := tz2 t z1 z2
              obtain ⟨pT, hpT⟩ : ∃ z, z = pl (T.2.2.2.2.1 f) t := ⟨_, rfl⟩
              rw [← hpT] at w1 w2 w3
              have hpT9 : pT ≤ (T.2.2.2.2.1 f).length := by rw [hpT]; exact pl_le _ _
              refine lv_iconst (v := 1) hK.1.1 hK.1.2.1 dL_turns_161 (by decide) ?_
              refine lv_goto (tgt := 166) hK.1.1 hK.1.2.1 dL_turns_162 (by decide) ?_
              refine lv_istore (lv' := [(15, .int 1), (14, .int (nI n2)), (13, .int (rg_b KB)), (12, .int 1), (10, .ref q_4), (9, .int (S.2.2.2.1 f)), (8, .int (S.2.2.2.2.2.2 0 (S.1 f))), (7, .int (nI (S.2.2.2.2.1 f).length)), (6, .ref q_1), (0, .ref (ly_a y 0)), (1, .ref (ly_a (ly_sw y) 0)), (2, .ref ar), (3, .ref af), (4, .ref ac), (5, .int (nI f)), (11, .int (nI ln))]) hK.1.1 hK.1.2.1 dL_turns_166 hl (by decide) rfl (fun ls hl => ?_)
              refine lv_iload hK.1.1 hK.1.2.1 dL_turns_168 (lv_at hl 3 rfl) ?_
              refine lv_if_eq (tgt := 254) hK.1.1 hK.1.2.1 dL_turns_170 (by decide) (fun c => absurd c (by decide)) (fun _ => ?_)
              refine lv_iload hK.1.1 hK.1.2.1 dL_turns_173 (lv_at hl 0 rfl) ?_
              refine lv_if_ne (tgt := 195) hK.1.1 hK.1.2.1 dL_turns_175 (by decide) (fun _ => ?_) (fun c => absurd c (by decide))
              refine lv_aload_n hK.1.1 hK.1.2.1 dL_turns_195 rfl (lv_at hl 9 rfl) ?_
              refine lv_iload hK.1.1 hK.1.2.1 dL_turns_196 (lv_at hl 1 rfl) ?_
              refine gk_callSW (n := 2) (As := [.ref (ly_a y 0), .int (nI n2)]) (rest := []) hK (c0_L_holds l hfl (lw_o hW) (h := n2) hn5 (iv_Ho hIT)) (gk_gS q_10_10 q_10_11 q_10_12 q_10_13) ⟨by decide +kernel, by decide +kernel, by decide +kernel⟩ ⟨(Nat.le_of_ble_eq_true rfl), (Nat.le_of_ble_eq_true rfl)⟩ hP hS rfl hl.1 rfl (Nat.le_of_ble_eq_true rfl) dL_turns_198 ⟨(Nat.le_of_ble_eq_true rfl), (Nat.le_of_ble_eq_true rfl)⟩ (fun v G1 H locs hw hP hS => ?_)
              obtain ⟨x9, hx9, rfl, hG9⟩ := hw
              rw [hG9] at hP
              obtain rfl := hz_eq hx9
              refine W.eq (g2 := F0 m 201 ls [.int (hz hf hp T.2.2.2.2.1 n2)]) rfl ?_
              refine W.eq (g2 := F0 m 201 ls [.int (nI (100 * f + pT))]) (by rw [show hz hf hp T.2.2.2.2.1 n2 = nI (100 * f + pT) from w1]) ?_
              refine lv_bipush (v := 100) hK.1.1 hK.1.2.1 dL_turns_201 (by decide) ?_
              refine lv_idiv hK.1.1 hK.1.2.1 dL_turns_203 (by decide) ?_
              refine W.eq (g2 := F0 m 204 ls [.int (nI ((100 * f + pT) / 100))]) (by rw [show (nI (100 * f + pT)) / 100 = nI ((100 * f + pT) / 100) from pk_div (by omega) (by decide) (by decide)]) ?_
              refine W.eq (g2 := F0 m 204 ls [.int (nI f)]) (by rw [show nI ((100 * f + pT) / 100) = nI f from (by congr 1; omega)]) ?_
              refine lv_iload hK.1.1 hK.1.2.1 dL_turns_204 (lv_at hl 14 rfl) ?_
              refine lv_icmp_ne (tgt := 254) hK.1.1 hK.1.2.1 dL_turns_206 (by decide) (fun c => absurd rfl c) (fun _ => ?_)
              refine lv_aload_n hK.1.1 hK.1.2.1 dL_turns_209 rfl (lv_at hl 9 rfl) ?_
              refine lv_iload hK.1.1 hK.1.2.1 dL_turns_210 (lv_at hl 1 rfl) ?_
              refine gk_callSW (n := 2) (As := [.ref (ly_a y 0), .int (nI n2)]) (rest := []) hK (c0_L_holds l hfl (lw_o hW) (h := n2) hn5 (iv_Ho hIT)) (gk_gS q_10_10 q_10_11 q_10_12 q_10_13) ⟨by decide +kernel, by decide +kernel, by decide +kernel⟩ ⟨(Nat.le_of_ble_eq_true rfl), (Nat.le_of_ble_eq_true rfl)⟩ hP hS rfl hl.1 rfl (Nat.le_of_ble_eq_true rfl) dL_turns_212 ⟨(Nat.le_of_ble_eq_true rfl), (Nat.le_of_ble_eq_true rfl)⟩ (fun v G1 H locs hw hP hS => ?_)
              obtain ⟨x9, hx9, rfl, hG9⟩ := hw
              rw [hG9] at hP
              obtain rfl := hz_eq hx9
              refine W.eq (g2 := F0 m 215 ls [.int (hz hf hp T.2.2.2.2.1 n2)]) rfl ?_
              refine W.eq (g2 := F0 m 215 ls [.int (nI (100 * f + pT))]) (by rw [show hz hf hp T.2.2.2.2.1 n2 = nI (100 * f + pT) from w1]) ?_
              refine lv_bipush (v := 100) hK.1.1 hK.1.2.1 dL_turns_215 (by decide) ?_
              refine lv_irem hK.1.1 hK.1.2.1 dL_turns_217 (by decide) ?_
              refine W.eq (g2 := F0 m 218 ls [.int (nI ((100 * f + pT) % 100))]) (by rw [show (nI (100 * f + pT)) - (nI (100 * f + pT)) / 100 * 100 = nI ((100 * f + pT) % 100) from pk_rem (by omega) (by decide) (by decide)]) ?_
              refine W.eq (g2 := F0 m 218 ls [.int (nI pT)]) (by rw [show nI ((100 * f + pT) % 100) = nI pT from (by congr 1; omega)]) ?_
              refine lv_if_le (tgt := 254) hK.1.1 hK.1.2.1 dL_turns_218 (by decide) (fun c => absurd c (nI_nle w2 (by omega))) (fun _ => ?_)
              refine lv_aload hK.1.1 hK.1.2.1 dL_turns_221 (lv_at hl 4 rfl) ?_
              refine lv_iload hK.1.1 hK.1.2.1 dL_turns_223 (lv_at hl 1 rfl) ?_
              refine gk_iald hK.1 hK.2.2.1.1 hP 0 (lw_get hW (k := 0) rfl) rfl (i := nI n2) (vp_in_nI (n := n2) (N := 4) (by omega) (by decide)) dL_turns_225 ?_
              refine W.eq (g2 := F0 m 226 ls [.int (nI (100 * f + r9))]) (by rw [show gg (nI n2).toNatClampNeg = nI (100 * f + r9) from by rw [show (nI n2 : Int32).toNatClampNeg = n2 from nI_clamp (n := n2) (by omega)]; exact (hgn.trans z3)]) ?_
              refine lv_bipush (v := 100) hK.1.1 hK.1.2.1 dL_turns_226 (by decide) ?_
              refine lv_irem hK.1.1 hK.1.2.1 dL_turns_228 (by decide) ?_
              refine W.eq (g2 := F0 m 229 ls [.int (nI ((100 * f + r9) % 100))]) (by rw [show (nI (100 * f + r9)) - (nI (100 * f + r9)) / 100 * 100 = nI ((100 * f + r9) % 100) from pk_rem (by omega) (by decide) (by decide)]) ?_
              refine W.eq (g2 := F0 m 229 ls [.int (nI r9)]) (by rw [show nI ((100 * f + r9) % 100) = nI r9 from (by congr 1; omega)]) ?_
              refine lv_if_gt (tgt := 250) hK.1.1 hK.1.2.1 dL_turns_229 (by decide) (fun c229_29 => ?_) (fun c229_29 => ?_)
              · refine lv_iconst (v := 1) hK.1.1 hK.1.2.1 dL_turns_250 (by decide) ?_
                refine lv_goto (tgt := 255) hK.1.1 hK.1.2.1 dL_turns_251 (by decide) ?_
                refine lv_istore (lv' := [(12, .int 1), (15, .int 1), (14, .int (nI n2)), (13, .int (rg_b KB)), (10, .ref q_4), (9, .int (S.2.2.2.1 f)), (8, .int (S.2.2.2.2.2.2 0 (S.1 f))), (7, .int (nI (S.2.2.2.2.1 f).length)), (6, .ref q_1), (0, .ref (ly_a y 0)), (1, .ref (ly_a (ly_sw y) 0)), (2, .ref ar), (3, .ref af), (4, .ref ac), (5, .int (nI f)), (11, .int (nI ln))]) hK.1.1 hK.1.2.1 dL_turns_255 hl (by decide) rfl (fun ls hl => ?_)
                refine lv_iload hK.1.1 hK.1.2.1 dL_turns_257 (lv_at hl 3 rfl) ?_
                refine lv_if_ne (tgt := 278) hK.1.1 hK.1.2.1 dL_turns_259 (by decide) (fun c259_30 => ?_) (fun c259_30 => ?_)
                · refine lv_iconst (v := 1) hK.1.1 hK.1.2.1 dL_turns_278 (by decide) ?_
                  refine lv_goto (tgt := 283) hK.1.1 hK.1.2.1 dL_turns_279 (by decide) ?_
                  refine lv_istore (lv' := [(13, .int 1), (12, .int 1), (15, .int 1), (14, .int (nI n2)), (10, .ref q_4), (9, .int (S.2.2.2.1 f)), (8, .int (S.2.2.2.2.2.2 0 (S.1 f))), (7, .int (nI (S.2.2.2.2.1 f).length)), (6, .ref q_1), (0, .ref (ly_a y 0)), (1, .ref (ly_a (ly_sw y) 0)), (2, .ref ar), (3, .ref af), (4, .ref ac), (5, .int (nI f)), (11, .int (nI ln))]) hK.1.1 hK.1.2.1 dL_turns_283 hl (by decide) rfl (fun ls hl => ?_)
                  refine lv_iinc (v := nI (n2 + 1)) (lv' := [(14, .int (nI (n2 + 1))), (13, .int 1), (12, .int 1), (15, .int 1), (10, .ref q_4), (9, .int (S.2.2.2.1 f)), (8, .int (S.2.2.2.2.2.2 0 (S.1 f))), (7, .int (nI (S.2.2.2.2.1 f).length)), (6, .ref q_1), (0, .ref (ly_a y 0)), (1, .ref (ly_a (ly_sw y) 0)), (2, .ref ar), (3, .ref af), (4, .ref ac), (5, .int (nI f)), (11, .int (nI ln))]) hK.1.1 hK.1.2.1 dL_turns_285 hl (k := 3) rfl (nI_1 n2) (by decide) rfl (fun ls hl => ?_)
                  refine lv_goto (tgt := 134) hK.1.1 hK.1.2.1 dL_turns_288 (by decide) ?_
                  exact ih2 (4 - (n2 + 1)) (by omega) (n2 + 1) true ls _ _ rfl (by omega) (fun _ => hKB (by cases hz9 : KB with | true => rfl | false => exact absurd (rg_b0.mpr hz9) c259_30)) hP hS (lv_sub hl [0, 1, 2, 4, 5, 6, 7, 8, 9, 10, 11, 12, 13, 14, 15] rfl)
                · refine lv_iload hK.1.1 hK.1.2.1 dL_turns_262 (lv_at hl 1 rfl) ?_
                  refine lv_if_eq (tgt := 282) hK.1.1 hK.1.2.1 dL_turns_264 (by decide) (fun c => absurd c (by decide)) (fun _ => ?_)
                  refine lv_aload hK.1.1 hK.1.2.1 dL_turns_267 (lv_at hl 4 rfl) ?_
                  refine lv_iload hK.1.1 hK.1.2.1 dL_turns_269 (lv_at hl 2 rfl) ?_
                  refine gk_iald hK.1 hK.2.2.1.1 hP 0 (lw_get hW (k := 0) rfl) rfl (i := nI n2) (vp_in_nI (n := n2) (N := 4) (by omega) (by decide)) dL_turns_271 ?_
                  refine W.eq (g2 := F0 m 272 ls [.int (nI (100 * f + r9))]) (by rw [show gg (nI n2).toNatClampNeg = nI (100 * f + r9) from by rw [show (nI n2 : Int32).toNatClampNeg = n2 from nI_clamp (n := n2) (by omega)]; exact (hgn.trans z3)]) ?_
                  refine lv_bipush (v := 100) hK.1.1 hK.1.2.1 dL_turns_272 (by decide) ?_
                  refine lv_irem hK.1.1 hK.1.2.1 dL_turns_274 (by decide) ?_
                  refine W.eq (g2 := F0 m 275 ls [.int (nI ((100 * f + r9) % 100))]) (by rw [show (nI (100 * f + r9)) - (nI (100 * f + r9)) / 100 * 100 = nI ((100 * f + r9) % 100) from pk_rem (by omega) (by decide) (by decide)]) ?_
                  refine W.eq (g2 := F0 m 275 ls [.int (nI r9)]) (by rw [show nI ((100 * f + r9) % 100) = nI r9 from (by congr 1; omega)]) ?_
                  refine lv_if_ne (tgt := 282) hK.1.1 hK.1.2.1 dL_turns_275 (by decide) (fun c275_31 => ?_) (fun c275_31 => ?_)
                  · refine lv_iconst (v := 0) hK.1.1 hK.1.2.1 dL_turns_282 (by decide) ?_
                    refine lv_istore (lv' := [(13, .int 0), (12, .int 1), (15, .int 1), (14, .int (nI n2)), (10, .ref q_4), (9, .int (S.2.2.2.1 f)), (8, .int (S.2.2.2.2.2.2 0 (S.1 f))), (7, .int (nI (S.2.2.2.2.1 f).length)), (6, .ref q_1), (0, .ref (ly_a y 0)), (1, .ref (ly_a (ly_sw y) 0)), (2, .ref ar), (3, .ref af), (4, .ref ac), (5, .int (nI f)), (11, .int (nI ln))]) hK.1.1 hK.1.2.1 dL_turns_283 hl (by decide) rfl (fun ls hl => ?_)
                    refine lv_iinc (v := nI (n2 + 1)) (lv' := [(14, .int (nI (n2 + 1))), (13, .int 0), (12, .int 1), (15, .int 1), (10, .ref q_4), (9, .int (S.2.2.2.1 f)), (8, .int (S.2.2.2.2.2.2 0 (S.1 f))), (7, .int (nI (S.2.2.2.2.1 f).length)), (6, .ref q_1), (0, .ref (ly_a y 0)), (1, .ref (ly_a (ly_sw y) 0)), (2, .ref ar), (3, .ref af), (4, .ref ac), (5, .int (nI f)), (11, .int (nI ln))]) hK.1.1 hK.1.2.1 dL_turns_285 hl (k := 3) rfl (nI_1 n2) (by decide) rfl (fun ls hl => ?_)
                    refine lv_goto (tgt := 134) hK.1.1 hK.1.2.1 dL_turns_288 (by decide) ?_
                    exact ih2 (4 - (n2 + 1)) (by omega) (n2 + 1) false ls _ _ rfl (by omega) (fun q => by cases q) hP hS (lv_sub hl [0, 1, 2, 4, 5, 6, 7, 8, 9, 10, 11, 12, 13, 14, 15] rfl)
                  · refine lv_iconst (v := 1) hK.1.1 hK.1.2.1 dL_turns_278 (by decide) ?_
                    refine lv_goto (tgt := 283) hK.1.1 hK.1.2.1 dL_turns_279 (by decide) ?_
                    refine lv_istore (lv' := [(13, .int 1), (12, .int 1), (15, .int 1), (14, .int (nI n2)), (10, .ref q_4), (9, .int (S.2.2.2.1 f)), (8, .int (S.2.2.2.2.2.2 0 (S.1 f))), (7, .int (nI (S.2.2.2.2.1 f).length)), (6, .ref q_1), (0, .ref (ly_a y 0)), (1, .ref (ly_a (ly_sw y) 0)), (2, .ref ar), (3, .ref af), (4, .ref ac), (5, .int (nI f)), (11, .int (nI ln))]) hK.1.1 hK.1.2.1 dL_turns_283 hl (by decide) rfl (fun ls hl => ?_)
                    refine lv_iinc (v := nI (n2 + 1)) (lv' := [(14, .int (nI (n2 + 1))), (13, .int 1), (12, .int 1), (15, .int 1), (10, .ref q_4), (9, .int (S.2.2.2.1 f)), (8, .int (S.2.2.2.2.2.2 0 (S.1 f))), (7, .int (nI (S.2.2.2.2.1 f).length)), (6, .ref q_1), (0, .ref (ly_a y 0)), (1, .ref (ly_a (ly_sw y) 0)), (2, .ref ar), (3, .ref af), (4, .ref ac), (5, .int (nI f)), (11, .int (nI ln))]) hK.1.1 hK.1.2.1 dL_turns_285 hl (k := 3) rfl (nI_1 n2) (by decide) rfl (fun ls hl => ?_)
                    refine lv_goto (tgt := 134) hK.1.1 hK.1.2.1 dL_turns_288 (by decide) ?_
                    exact ih2 (4 - (n2 + 1)) (by omega) (n2 + 1) true ls _ _ rfl (by omega) (fun _ => ⟨n2, hn5, z1, by rw [z2]; exact congrArg some (z4.elim (fun q => q.2) (fun q => absurd ((nI_eq (b := 0) (by omega) (by decide)).mp c275_31) (by omega)))⟩) hP hS (lv_sub hl [0, 1, 2, 4, 5, 6, 7, 8, 9, 10, 11, 12, 13, 14, 15] rfl)
              · refine lv_aload_n hK.1.1 hK.1.2.1 dL_turns_232 rfl (lv_at hl 9 rfl) ?_
                refine lv_iload hK.1.1 hK.1.2.1 dL_turns_233 (lv_at hl 1 rfl) ?_
                refine gk_callSW (n := 2) (As := [.ref (ly_a y 0), .int (nI n2)]) (rest := []) hK (c0_L_holds l hfl (lw_o hW) (h := n2) hn5 (iv_Ho hIT)) (gk_gS q_10_10 q_10_11 q_10_12 q_10_13) ⟨by decide +kernel, by decide +kernel, by decide +kernel⟩ ⟨(Nat.le_of_ble_eq_true rfl), (Nat.le_of_ble_eq_true rfl)⟩ hP hS rfl hl.1 rfl (Nat.le_of_ble_eq_true rfl) dL_turns_235 ⟨(Nat.le_of_ble_eq_true rfl), (Nat.le_of_ble_eq_true rfl)⟩ (fun v G1 H locs hw hP hS => ?_)
                obtain ⟨x9, hx9, rfl, hG9⟩ := hw
                rw [hG9] at hP
                obtain rfl := hz_eq hx9
                refine W.eq (g2 := F0 m 238 ls [.int (hz hf hp T.2.2.2.2.1 n2)]) rfl ?_
                refine W.eq (g2 := F0 m 238 ls [.int (nI (100 * f + pT))]) (by rw [show hz hf hp T.2.2.2.2.1 n2 = nI (100 * f + pT) from w1]) ?_
                refine lv_bipush (v := 100) hK.1.1 hK.1.2.1 dL_turns_238 (by decide) ?_
                refine lv_irem hK.1.1 hK.1.2.1 dL_turns_240 (by decide) ?_
                refine W.eq (g2 := F0 m 241 ls [.int (nI ((100 * f + pT) % 100))]) (by rw [show (nI (100 * f + pT)) - (nI (100 * f + pT)) / 100 * 100 = nI ((100 * f + pT) % 100) from pk_rem (by omega) (by decide) (by decide)]) ?_
                refine W.eq (g2 := F0 m 241 ls [.int (nI pT)]) (by rw [show nI ((100 * f + pT) % 100) = nI pT from (by congr 1; omega)]) ?_
                refine lv_aload_n hK.1.1 hK.1.2.1 dL_turns_241 rfl (lv_at hl 9 rfl) ?_
                refine lv_iload hK.1.1 hK.1.2.1 dL_turns_242 (lv_at hl 14 rfl) ?_
                refine gk_callSW (n := 2) (As := [.ref (ly_a y 0), .int (nI f)]) (rest := [.int (nI pT)]) hK (c0_L_olds l hfl (lw_o hW) (f := f) f5) (gk_gS q_16_10 q_16_11 q_10_12 q_16_12) ⟨by decide +kernel, by decide +kernel, by decide +kernel⟩ ⟨(Nat.le_of_ble_eq_true rfl), (Nat.le_of_ble_eq_true rfl)⟩ hP hS rfl hl.1 rfl (Nat.le_of_ble_eq_true rfl) dL_turns_244 ⟨(Nat.le_of_ble_eq_true rfl), (Nat.le_of_ble_eq_true rfl)⟩ (fun v G1 H locs hw hP hS => ?_)
                obtain ⟨rfl, hG9⟩ := hw
                rw [hG9] at hP
                refine W.eq (g2 := F0 m 247 ls [.int (nI (T.2.2.2.2.1 f).length), .int (nI pT)]) rfl ?_
                refine lv_icmp_ne (tgt := 254) hK.1.1 hK.1.2.1 dL_turns_247 (by decide) (fun c => absurd (by rw [w3 (z4.elim (fun q => q.2) (fun q => absurd (nI_lt (a := 0) q.1 (by omega)) c229_29))]) c) (fun _ => ?_)
                refine lv_iconst (v := 1) hK.1.1 hK.1.2.1 dL_turns_250 (by decide) ?_
                refine lv_goto (tgt := 255) hK.1.1 hK.1.2.1 dL_turns_251 (by decide) ?_
                refine lv_istore (lv' := [(12, .int 1), (15, .int 1), (14, .int (nI n2)), (13, .int (rg_b KB)), (10, .ref q_4), (9, .int (S.2.2.2.1 f)), (8, .int (S.2.2.2.2.2.2 0 (S.1 f))), (7, .int (nI (S.2.2.2.2.1 f).length)), (6, .ref q_1), (0, .ref (ly_a y 0)), (1, .ref (ly_a (ly_sw y) 0)), (2, .ref ar), (3, .ref af), (4, .ref ac), (5, .int (nI f)), (11, .int (nI ln))]) hK.1.1 hK.1.2.1 dL_turns_255 hl (by decide) rfl (fun ls hl => ?_)
                refine lv_iload hK.1.1 hK.1.2.1 dL_turns_257 (lv_at hl 3 rfl) ?_
                refine lv_if_ne (tgt := 278) hK.1.1 hK.1.2.1 dL_turns_259 (by decide) (fun c259_32 => ?_) (fun c259_32 => ?_)
                · refine lv_iconst (v := 1) hK.1.1 hK.1.2.1 dL_turns_278 (by decide) ?_
                  refine lv_goto (tgt := 283) hK.1.1 hK.1.2.1 dL_turns_279 (by decide) ?_
                  refine lv_istore (lv' := [(13, .int 1), (12, .int 1), (15, .int 1), (14, .int (nI n2)), (10, .ref q_4), (9, .int (S.2.2.2.1 f)), (8, .int (S.2.2.2.2.2.2 0 (S.1 f))), (7, .int (nI (S.2.2.2.2.1 f).length)), (6, .ref q_1), (0, .ref (ly_a y 0)), (1, .ref (ly_a (ly_sw y) 0)), (2, .ref ar), (3, .ref af), (4, .ref ac), (5, .int (nI f)), (11, .int (nI ln))]) hK.1.1 hK.1.2.1 dL_turns_283 hl (by decide) rfl (fun ls hl => ?_)
                  refine lv_iinc (v := nI (n2 + 1)) (lv' := [(14, .int (nI (n2 + 1))), (13, .int 1), (12, .int 1), (15, .int 1), (10, .ref q_4), (9, .int (S.2.2.2.1 f)), (8, .int (S.2.2.2.2.2.2 0 (S.1 f))), (7, .int (nI (S.2.2.2.2.1 f).length)), (6, .ref q_1), (0, .ref (ly_a y 0)), (1, .ref (ly_a (ly_sw y) 0)), (2, .ref ar), (3, .ref af), (4, .ref ac), (5, .int (nI f)), (11, .int (nI ln))]) hK.1.1 hK.1.2.1 dL_turns_285 hl (k := 3) rfl (nI_1 n2) (by decide) rfl (fun ls hl => ?_)
                  refine lv_goto (tgt := 134) hK.1.1 hK.1.2.1 dL_turns_288 (by decide) ?_
                  exact ih2 (4 - (n2 + 1)) (by omega) (n2 + 1) true ls _ _ rfl (by omega) (fun _ => hKB (by cases hz9 : KB with | true => rfl | false => exact absurd (rg_b0.mpr hz9) c259_32)) hP hS (lv_sub hl [0, 1, 2, 4, 5, 6, 7, 8, 9, 10, 11, 12, 13, 14, 15] rfl)
                · refine lv_iload hK.1.1 hK.1.2.1 dL_turns_262 (lv_at hl 1 rfl) ?_
                  refine lv_if_eq (tgt := 282) hK.1.1 hK.1.2.1 dL_turns_264 (by decide) (fun c => absurd c (by decide)) (fun _ => ?_)
                  refine lv_aload hK.1.1 hK.1.2.1 dL_turns_267 (lv_at hl 4 rfl) ?_
                  refine lv_iload hK.1.1 hK.1.2.1 dL_turns_269 (lv_at hl 2 rfl) ?_
                  refine gk_iald hK.1 hK.2.2.1.1 hP 0 (lw_get hW (k := 0) rfl) rfl (i := nI n2) (vp_in_nI (n := n2) (N := 4) (by omega) (by decide)) dL_turns_271 ?_
                  refine W.eq (g2 := F0 m 272 ls [.int (nI (100 * f + r9))]) (by rw [show gg (nI n2).toNatClampNeg = nI (100 * f + r9) from by rw [show (nI n2 : Int32).toNatClampNeg = n2 from nI_clamp (n := n2) (by omega)]; exact (hgn.trans z3)]) ?_
                  refine lv_bipush (v := 100) hK.1.1 hK.1.2.1 dL_turns_272 (by decide) ?_
                  refine lv_irem hK.1.1 hK.1.2.1 dL_turns_274 (by decide) ?_
                  refine W.eq (g2 := F0 m 275 ls [.int (nI ((100 * f + r9) % 100))]) (by rw [show (nI (100 * f + r9)) - (nI (100 * f + r9)) / 100 * 100 = nI ((100 * f + r9) % 100) from pk_rem (by omega) (by decide) (by decide)]) ?_
                  refine W.eq (g2 := F0 m 275 ls [.int (nI r9)]) (by rw [show nI ((100 * f + r9) % 100) = nI r9 from (by congr 1; omega)]) ?_
                  refine lv_if_ne (tgt := 282) hK.1.1 hK.1.2.1 dL_turns_275 (by decide) (fun c275_33 => ?_) (fun c275_33 => ?_)
                  · refine lv_iconst (v := 0) hK.1.1 hK.1.2.1 dL_turns_282 (by decide) ?_
                    refine lv_istore (lv' := [(13, .int 0), (12, .int 1), (15, .int 1), (14, .int (nI n2)), (10, .ref q_4), (9, .int (S.2.2.2.1 f)), (8, .int (S.2.2.2.2.2.2 0 (S.1 f))), (7, .int (nI (S.2.2.2.2.1 f).length)), (6, .ref q_1), (0, .ref (ly_a y 0)), (1, .ref (ly_a (ly_sw y) 0)), (2, .ref ar), (3, .ref af), (4, .ref ac), (5, .int (nI f)), (11, .int (nI ln))]) hK.1.1 hK.1.2.1 dL_turns_283 hl (by decide) rfl (fun ls hl => ?_)
                    refine lv_iinc (v := nI (n2 + 1)) (lv' := [(14, .int (nI (n2 + 1))), (13, .int 0), (12, .int 1), (15, .int 1), (10, .ref q_4), (9, .int (S.2.2.2.1 f)), (8, .int (S.2.2.2.2.2.2 0 (S.1 f))), (7, .int (nI (S.2.2.2.2.1 f).length)), (6, .ref q_1), (0, .ref (ly_a y 0)), (1, .ref (ly_a (ly_sw y) 0)), (2, .ref ar), (3, .ref af), (4, .ref ac), (5, .int (nI f)), (11, .int (nI ln))]) hK.1.1 hK.1.2.1 dL_turns_285 hl (k := 3) rfl (nI_1 n2) (by decide) rfl (fun ls hl => ?_)
                    refine lv_goto (tgt := 134) hK.1.1 hK.1.2.1 dL_turns_288 (by decide) ?_
                    exact ih2 (4 - (n2 + 1)) (by omega) (n2 + 1) false ls _ _ rfl (by omega) (fun q => by cases q) hP hS (lv_sub hl [0, 1, 2, 4, 5, 6, 7, 8, 9, 10, 11, 12, 13, 14, 15] rfl)
                  · refine lv_iconst (v := 1) hK.1.1 hK.1.2.1 dL_turns_278 (by decide) ?_
                    refine lv_goto (tgt := 283) hK.1.1 hK.1.2.1 dL_turns_279 (by decide) ?_
                    refine lv_istore (lv' := [(13, .int 1), (12, .int 1), (15, .int 1), (14, .int (nI n2)), (10, .ref q_4), (9, .int (S.2.2.2.1 f)), (8, .int (S.2.2.2.2.2.2 0 (S.1 f))), (7, .int (nI (S.2.2.2.2.1 f).length)), (6, .ref q_1), (0, .ref (ly_a y 0)), (1, .ref (ly_a (ly_sw y) 0)), (2, .ref ar), (3, .ref af), (4, .ref ac), (5, .int (nI f)), (11, .int (nI ln))]) hK.1.1 hK.1.2.1 dL_turns_283 hl (by decide) rfl (fun ls hl => ?_)
                    refine lv_iinc (v := nI (n2 + 1)) (lv' := [(14, .int (nI (n2 + 1))), (13, .int 1), (12, .int 1), (15, .int 1), (10, .ref q_4), (9, .int (S.2.2.2.1 f)), (8, .int (S.2.2.2.2.2.2 0 (S.1 f))), (7, .int (nI (S.2.2.2.2.1 f).length)), (6, .ref q_1), (0, .ref (ly_a y 0)), (1, .ref (ly_a (ly_sw y) 0)), (2, .ref ar), (3, .ref af), (4, .ref ac), (5, .int (nI f)), (11, .int (nI ln))]) hK.1.1 hK.1.2.1 dL_turns_285 hl (k := 3) rfl (nI_1 n2) (by decide) rfl (fun ls hl => ?_)
                    refine lv_goto (tgt := 134) hK.1.1 hK.1.2.1 dL_turns_288 (by decide) ?_
                    exact ih2 (4 - (n2 + 1)) (by omega) (n2 + 1) true ls _ _ rfl (by omega) (fun _ => ⟨n2, hn5, z1, by rw [z2]; exact congrArg some (z4.elim (fun q => q.2) (fun q => absurd ((nI_eq (b := 0) (by omega) (by decide)).mp c275_33) (by omega)))⟩) hP hS (lv_sub hl [0, 1, 2, 4, 5, 6, 7, 8, 9, 10, 11, 12, 13, 14, 15] rfl)
      exact loop2 _ 0 false ls _ _ rfl (by omega) (fun q => by cases q) hP hS (lv_sub hl [0, 1, 2, 4, 5, 6, 7, 8, 9, 10, 11, 12, 13, 14, 3] rfl)
    · have hn4 : n < 4 := Nat.lt_of_not_le (fun h => c40_7 (nI_le (a := 4) h (by omega)))
      refine lv_aload hK.1.1 hK.1.2.1 dL_turns_43 (lv_at hl 1 rfl) ?_
      refine lv_iload hK.1.1 hK.1.2.1 dL_turns_45 (lv_at hl 0 rfl) ?_
      refine lv_aload_n hK.1.1 hK.1.2.1 dL_turns_47 rfl (lv_at hl 6 rfl) ?_
      refine lv_iload hK.1.1 hK.1.2.1 dL_turns_48 (lv_at hl 0 rfl) ?_
      refine gk_callSW (n := 2) (As := [.ref (ly_a y 0), .int (nI n)]) (rest := [.int (nI n), .ref q_4]) hK (c0_L_holds l hfl (lw_o hW) (h := n) hn4 (iv_Ho hI)) (gk_gS q_10_10 q_10_11 q_10_12 q_10_13) ⟨by decide +kernel, by decide +kernel, by decide +kernel⟩ ⟨(Nat.le_of_ble_eq_true rfl), (Nat.le_of_ble_eq_true rfl)⟩ hP hS rfl hl.1 rfl (Nat.le_of_ble_eq_true rfl) dL_turns_50 ⟨(Nat.le_of_ble_eq_true rfl), (Nat.le_of_ble_eq_true rfl)⟩ (fun v G1 H locs hw hP hS => ?_)
      obtain ⟨x9, hx9, rfl, hG9⟩ := hw
      rw [hG9] at hP
      obtain rfl := hz_eq hx9
      refine W.eq (g2 := F0 m 53 ls [.int (hz hf hp S.2.2.2.2.1 n), .int (nI n), .ref q_4]) rfl ?_
      refine gk_iast hK.1 hK.2.2.1.1 hP hS 0 (lw_get hW (k := 0) rfl) rfl (i := nI n) (vp_in_nI (n := n) (N := 4) (by omega) (by decide)) dL_turns_53 (fun H locs hP hS => ?_)
      rw [show (nI n : Int32).toNatClampNeg = n from nI_clamp (n := n) (by omega)] at hP
      obtain ⟨g_34, hg_34⟩ : ∃ z, z = upd gg n (hz hf hp S.2.2.2.2.1 n) := ⟨_, rfl⟩
      have hW : lw y (gk_up G q_4 (rp_i (ly_k y 0) 4 g_34)) td ru fr hf S hp td ru fr hf S2 hp2 [(q_4, 4, g_34), (q_1, 1, (fun _ => 0)), (ar, 27, rr), (af, 20, ff), (ac, 1, cc)] := lw_set hW (k := 0) rfl g_34
      have hP : gk_P (ly_D y) A (gk_up G q_4 (rp_i (ly_k y 0) 4 g_34)) H := by rw [hg_34]; exact hP
      obtain ⟨G_35, hG_35⟩ : ∃ z, z = gk_up G q_4 (rp_i (ly_k y 0) 4 g_34) := ⟨_, rfl⟩
      have hP : gk_P (ly_D y) A G_35 H := by rw [hG_35]; exact hP
      have hW : lw y G_35 td ru fr hf S hp td ru fr hf S2 hp2 [(q_4, 4, g_34), (q_1, 1, (fun _ => 0)), (ar, 27, rr), (af, 20, ff), (ac, 1, cc)] := by rw [hG_35]; exact hW
      refine lv_iinc (v := nI (n + 1)) (lv' := [(11, .int (nI (n + 1))), (10, .ref q_4), (9, .int (S.2.2.2.1 f)), (8, .int (S.2.2.2.2.2.2 0 (S.1 f))), (7, .int (nI (S.2.2.2.2.1 f).length)), (6, .ref q_1), (0, .ref (ly_a y 0)), (1, .ref (ly_a (ly_sw y) 0)), (2, .ref ar), (3, .ref af), (4, .ref ac), (5, .int (nI f))]) hK.1.1 hK.1.2.1 dL_turns_54 hl (k := 0) rfl (nI_1 n) (by decide) rfl (fun ls hl => ?_)
      refine lv_goto (tgt := 37) hK.1.1 hK.1.2.1 dL_turns_57 (by decide) ?_
      exact ih (4 - (n + 1)) (by omega) (n + 1) g_34 ls _ _ G_35 rfl (by omega) (fun j hj => by rw [hg_34]; by_cases hjn : j = n; (rw [hjn, pk_us]); (rw [pk_un hjn]; exact hgg j (by omega))) hP hS hW (lv_sub hl [0, 1, 2, 3, 4, 5, 6, 7, 8, 9, 10, 11] rfl)
  exact loop _ 0 (fun _ => 0) ls _ _ G_6 rfl (by omega) (fun j hj => absurd hj (Nat.not_lt_zero j)) hP hS hW (lv_sub hl [0, 1, 2, 3, 4, 5, 6, 7, 8, 9, 10, 11] rfl)
