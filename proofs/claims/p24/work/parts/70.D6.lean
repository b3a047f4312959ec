/-! the law: one act, by its kind -/
section AW
variable {l : Launch} {y : ly_T} {A : Nat → Prop} {p : Program} {e : Env} {s : State} {m : MethodId} {below : List Frame} {meth : Method} {c : Code} {ls : Array Slot} {H : Heap} {locs : List Loc} {G : gk_G}
set_option maxHeartbeats 4000000 in
set_option maxRecDepth 100000 in
theorem aw_setDue {ed N : Nat} {td : Int32} {ru : Nat → Nat → Int32} {fr : Nat → Nat} {hf hp hp2 : Nat → Option Nat} {S S2 : ts_T} {tt rr ff cc : Nat → Int32} {fi fi2 φ : Nat → Nat} {ar af ac : Nat} (hfl : l.stackTraces = false) (hW : lw y G td ru fr hf S hp td ru fr hf S2 hp2 [(ar, 27, rr), (af, 20, ff), (ac, 1, cc)]) (hI : iv ed N td ru fr hf S hp tt fi) (hI2 : iv ed N td ru fr hf S2 hp2 tt fi2) (hrn : rn φ S hp S2 hp2) (hlr : lr rr ru) (hlf : lf ff fr S tt) (hcc : cc 0 = td) (hN : N ≤ 110) {xx yy : Int32} {kd f h r : Nat} (f5 : f < 5) (hh : h < 4) (hr : r < 3) (hK : gk_K p s m c [.ref (ly_a y 0), .ref (ly_a (ly_sw y) 0), .ref ar, .ref af, .ref ac, .int xx, .int yy].toArray cL_acts RL 14 y A) (hret : meth.sig.returnType = some .boolean) (hlk : meth.locks = false) (hP : gk_P (ly_D y) A G H) (hS : va_S A s.heap H locs) (hl : lv_has ls 14 [(0, .ref (ly_a y 0)), (1, .ref (ly_a (ly_sw y) 0)), (2, .ref ar), (3, .ref af), (4, .ref ac), (5, .int xx), (6, .int yy), (7, .int (nI kd)), (8, .int (nI f)), (9, .int (nI h)), (10, .int (nI r))]) : W p l e { frames := 11, cells := 112, slots := 30100, locals := 400 } s m [.ref (ly_a y 0), .ref (ly_a (ly_sw y) 0), .ref ar, .ref af, .ref ac, .int xx, .int yy].toArray below meth c H locs 0 0 (MQ below (gk_Q y A (fun v G1 => v = some (.int 1) ∧ lj y G1 ar af ac (N + 1))) [.ref (ly_a y 0), .ref (ly_a (ly_sw y) 0), .ref ar, .ref af, .ref ac, .int xx, .int yy].toArray s 112 30100 A) (F0 m 44 ls []) := by
  have hN1 : N ≤ 111 := by omega
  have he9 := hI.1.2
  refine lv_bipush (v := 9) hK.1.1 hK.1.2.1 dL_acts_44 (by decide) ?_
  refine lv_iload hK.1.1 hK.1.2.1 dL_acts_46 (lv_at hl 10 rfl) ?_
  refine lv_imul hK.1.1 hK.1.2.1 dL_acts_48 ?_
  refine W.eq (g2 := F0 m 49 ls [.int (nI (9 * r))]) (by rw [show 9 * (nI r) = nI (9 * r) from pk_mul _ _]) ?_
  refine lv_istore (lv' := [(11, .int (nI (9 * r))), (0, .ref (ly_a y 0)), (1, .ref (ly_a (ly_sw y) 0)), (2, .ref ar), (3, .ref af), (4, .ref ac), (5, .int xx), (6, .int yy), (7, .int (nI kd)), (8, .int (nI f)), (9, .int (nI h)), (10, .int (nI r))]) hK.1.1 hK.1.2.1 dL_acts_49 hl (by decide) rfl (fun ls hl => ?_)
  refine lv_aload_n hK.1.1 hK.1.2.1 dL_acts_51 rfl (lv_at hl 3 rfl) ?_
  refine lv_iload hK.1.1 hK.1.2.1 dL_acts_52 (lv_at hl 0 rfl) ?_
  refine lv_iload hK.1.1 hK.1.2.1 dL_acts_54 (lv_at hl 7 rfl) ?_
  refine lv_iconst (v := 3) hK.1.1 hK.1.2.1 dL_acts_56 (by decide) ?_
  refine gk_callS0 (n := 2) (As := [.int yy, .int 3]) (rest := [.int (nI (9 * r)), .ref ar]) hK (c_L_low l (x := yy) (n := 3) (by decide) (by decide)) (gk_gS q_12_9 q_12_10 q_10_12 q_12_11) ⟨by decide +kernel, by decide +kernel, by decide +kernel⟩ ⟨(Nat.le_of_ble_eq_true rfl), (Nat.le_of_ble_eq_true rfl)⟩ hP hS rfl hl.1 rfl (Nat.le_of_ble_eq_true rfl) dL_acts_57 ⟨(Nat.le_of_ble_eq_true rfl), (Nat.le_of_ble_eq_true rfl)⟩ (fun v G1 H locs hw hP hS => ?_)
  obtain ⟨⟨j_1, hj_1, rfl⟩, hG9⟩ := hw
  rw [hG9] at hP
  refine W.eq (g2 := F0 m 60 ls [.int (nI j_1), .int (nI (9 * r)), .ref ar]) rfl ?_
  have J76 : ∀ (v0 : Int32) (ls : Array Slot) (H : Heap) (locs : List Loc), rg_in v0 0 10000 → gk_P (ly_D y) A G H → va_S A s.heap H locs → lv_has ls 14 [(11, .int (nI (9 * r))), (0, .ref (ly_a y 0)), (1, .ref (ly_a (ly_sw y) 0)), (2, .ref ar), (3, .ref af), (4, .ref ac), (5, .int xx), (6, .int yy), (7, .int (nI kd)), (8, .int (nI f)), (9, .int (nI h)), (10, .int (nI r))] → W p l e { frames := 11, cells := 112, slots := 30100, locals := 400 } s m [.ref (ly_a y 0), .ref (ly_a (ly_sw y) 0), .ref ar, .ref af, .ref ac, .int xx, .int yy].toArray below meth c H locs (0 + 0) (0 + 0) (MQ below (gk_Q y A (fun v G1 => v = some (.int 1) ∧ lj y G1 ar af ac (N + 1))) [.ref (ly_a y 0), .ref (ly_a (ly_sw y) 0), .ref ar, .ref af, .ref ac, .int xx, .int yy].toArray s 112 30100 A) (F0 m 76 ls [.int v0, .int (nI (9 * r)), .ref ar]) := by
    intro v0 ls H locs hv0 hP hS hl
    refine gk_iast hK.1 hK.2.2.1.1 hP hS 0 (lw_get hW (k := 0) rfl) rfl (i := nI (9 * r)) (vp_in_nI (n := 9 * r) (N := 27) (by omega) (by decide)) dL_acts_76 (fun H locs hP hS => ?_)
    rw [show (nI (9 * r) : Int32).toNatClampNeg = 9 * r from nI_clamp (n := 9 * r) (by omega)] at hP
    obtain ⟨g_2, hg_2⟩ : ∃ z, z = upd rr (9 * r) v0 := ⟨_, rfl⟩
    have hW : lw y (gk_up G ar (rp_i (ly_k y 0) 27 g_2)) td ru fr hf S hp td ru fr hf S2 hp2 [(ar, 27, g_2), (af, 20, ff), (ac, 1, cc)] := lw_set hW (k := 0) rfl g_2
    have hP : gk_P (ly_D y) A (gk_up G ar (rp_i (ly_k y 0) 27 g_2)) H := by rw [hg_2]; exact hP
    obtain ⟨G_3, hG_3⟩ : ∃ z, z = gk_up G ar (rp_i (ly_k y 0) 27 g_2) := ⟨_, rfl⟩
    have hP : gk_P (ly_D y) A G_3 H := by rw [hG_3]; exact hP
    have hW : lw y G_3 td ru fr hf S hp td ru fr hf S2 hp2 [(ar, 27, g_2), (af, 20, ff), (ac, 1, cc)] := by rw [hG_3]; exact hW
    have hlr1 : lr g_2 (rp_u2 ru r 1 v0) := by rw [hg_2]; exact lr_set hlr hr (k := 0) (by decide) v0
    refine lv_aload_n hK.1.1 hK.1.2.1 dL_acts_77 rfl (lv_at hl 3 rfl) ?_
    refine lv_iload hK.1.1 hK.1.2.1 dL_acts_78 (lv_at hl 0 rfl) ?_
    refine lv_iconst (v := 1) hK.1.1 hK.1.2.1 dL_acts_80 (by decide) ?_
    refine lv_iadd hK.1.1 hK.1.2.1 dL_acts_81 ?_
    refine W.eq (g2 := F0 m 82 ls [.int (nI ((9 * r) + 1)), .ref ar]) (by rw [show (nI (9 * r)) + 1 = nI ((9 * r) + 1) from nI_add _ _]) ?_
    refine lv_iload hK.1.1 hK.1.2.1 dL_acts_82 (lv_at hl 7 rfl) ?_
    refine lv_iconst (v := 4) hK.1.1 hK.1.2.1 dL_acts_84 (by decide) ?_
    refine lv_ishr hK.1.1 hK.1.2.1 dL_acts_85 ?_
    refine lv_iconst (v := 3) hK.1.1 hK.1.2.1 dL_acts_86 (by decide) ?_
    refine gk_callS0 (n := 2) (As := [.int (yy >>> (4 &&& 31)), .int 3]) (rest := [.int (nI ((9 * r) + 1)), .ref ar]) hK (c_L_low l (x := (yy >>> (4 &&& 31))) (n := 3) (by decide) (by decide)) (gk_gS q_12_9 q_12_10 q_10_12 q_12_11) ⟨by decide +kernel, by decide +kernel, by decide +kernel⟩ ⟨(Nat.le_of_ble_eq_true rfl), (Nat.le_of_ble_eq_true rfl)⟩ hP hS rfl hl.1 rfl (Nat.le_of_ble_eq_true rfl) dL_acts_87 ⟨(Nat.le_of_ble_eq_true rfl), (Nat.le_of_ble_eq_true rfl)⟩ (fun v G1 H locs hw hP hS => ?_)
    obtain ⟨⟨j_4, hj_4, rfl⟩, hG9⟩ := hw
    rw [hG9] at hP
    refine W.eq (g2 := F0 m 90 ls [.int (nI j_4), .int (nI ((9 * r) + 1)), .ref ar]) rfl ?_
    have J107 : ∀ (v1 : Int32) (ls : Array Slot) (H : Heap) (locs : List Loc), rg_in v1 (-1) 6 → gk_P (ly_D y) A G_3 H → va_S A s.heap H locs → lv_has ls 14 [(11, .int (nI (9 * r))), (0, .ref (ly_a y 0)), (1, .ref (ly_a (ly_sw y) 0)), (2, .ref ar), (3, .ref af), (4, .ref ac), (5, .int xx), (6, .int yy), (7, .int (nI kd)), (8, .int (nI f)), (9, .int (nI h)), (10, .int (nI r))] → W p l e { frames := 11, cells := 112, slots := 30100, locals := 400 } s m [.ref (ly_a y 0), .ref (ly_a (ly_sw y) 0), .ref ar, .ref af, .ref ac, .int xx, .int yy].toArray below meth c H locs ((0 + 0) + 0) ((0 + 0) + 0) (MQ below (gk_Q y A (fun v G1 => v = some (.int 1) ∧ lj y G1 ar af ac (N + 1))) [.ref (ly_a y 0), .ref (ly_a (ly_sw y) 0), .ref ar, .ref af, .ref ac, .int xx, .int yy].toArray s 112 30100 A) (F0 m 107 ls [.int v1, .int (nI ((9 * r) + 1)), .ref ar]) := by
      intro v1 ls H locs hv1 hP hS hl
      refine gk_iast hK.1 hK.2.2.1.1 hP hS 0 (lw_get hW (k := 0) rfl) rfl (i := nI ((9 * r) + 1)) (vp_in_nI (n := (9 * r) + 1) (N := 27) (by omega) (by decide)) dL_acts_107 (fun H locs hP hS => ?_)
      rw [show (nI ((9 * r) + 1) : Int32).toNatClampNeg = (9 * r) + 1 from nI_clamp (n := (9 * r) + 1) (by omega)] at hP
      obtain ⟨g_5, hg_5⟩ : ∃ z, z = upd g_2 ((9 * r) + 1) v1 := ⟨_, rfl⟩
      have hW : lw y (gk_up G_3 ar (rp_i (ly_k y 0) 27 g_5)) td ru fr hf S hp td ru fr hf S2 hp2 [(ar, 27, g_5), (af, 20, ff), (ac, 1, cc)] := lw_set hW (k := 0) rfl g_5
      have hP : gk_P (ly_D y) A (gk_up G_3 ar (rp_i (ly_k y 0) 27 g_5)) H := by rw [hg_5]; exact hP
      obtain ⟨G_6, hG_6⟩ : ∃ z, z = gk_up G_3 ar (rp_i (ly_k y 0) 27 g_5) := ⟨_, rfl⟩
      have hP : gk_P (ly_D y) A G_6 H := by rw [hG_6]; exact hP
      have hW : lw y G_6 td ru fr hf S hp td ru fr hf S2 hp2 [(ar, 27, g_5), (af, 20, ff), (ac, 1, cc)] := by rw [hG_6]; exact hW
      have hlr2 : lr g_5 (rp_u2 (rp_u2 ru r 1 v0) r 2 v1) := by rw [hg_5]; exact lr_set hlr1 hr (k := 1) (by decide) v1
      refine lv_aload_n hK.1.1 hK.1.2.1 dL_acts_108 rfl (lv_at hl 3 rfl) ?_
      refine lv_iload hK.1.1 hK.1.2.1 dL_acts_109 (lv_at hl 0 rfl) ?_
      refine lv_iconst (v := 2) hK.1.1 hK.1.2.1 dL_acts_111 (by decide) ?_
      refine lv_iadd hK.1.1 hK.1.2.1 dL_acts_112 ?_
      refine W.eq (g2 := F0 m 113 ls [.int (nI ((9 * r) + 2)), .ref ar]) (by rw [show (nI (9 * r)) + 2 = nI ((9 * r) + 2) from nI_add _ _]) ?_
      refine lv_iload hK.1.1 hK.1.2.1 dL_acts_113 (lv_at hl 7 rfl) ?_
      refine lv_bipush (v := 9) hK.1.1 hK.1.2.1 dL_acts_115 (by decide) ?_
      refine lv_ishr hK.1.1 hK.1.2.1 dL_acts_117 ?_
      refine lv_iconst (v := 3) hK.1.1 hK.1.2.1 dL_acts_118 (by decide) ?_
      refine gk_callS0 (n := 2) (As := [.int (yy >>> (9 &&& 31)), .int 3]) (rest := [.int (nI ((9 * r) + 2)), .ref ar]) hK (c_L_low l (x := (yy >>> (9 &&& 31))) (n := 3) (by decide) (by decide)) (gk_gS q_12_9 q_12_10 q_10_12 q_12_11) ⟨by decide +kernel, by decide +kernel, by decide +kernel⟩ ⟨(Nat.le_of_ble_eq_true rfl), (Nat.le_of_ble_eq_true rfl)⟩ hP hS rfl hl.1 rfl (Nat.le_of_ble_eq_true rfl) dL_acts_119 ⟨(Nat.le_of_ble_eq_true rfl), (Nat.le_of_ble_eq_true rfl)⟩ (fun v G1 H locs hw hP hS => ?_)
      obtain ⟨⟨j_7, hj_7, rfl⟩, hG9⟩ := hw
      rw [hG9] at hP
      refine W.eq (g2 := F0 m 122 ls [.int (nI j_7), .int (nI ((9 * r) + 2)), .ref ar]) rfl ?_
      have J139 : ∀ (v2 : Int32) (ls : Array Slot) (H : Heap) (locs : List Loc), rg_in v2 (-1) 29 → gk_P (ly_D y) A G_6 H → va_S A s.heap H locs → lv_has ls 14 [(11, .int (nI (9 * r))), (0, .ref (ly_a y 0)), (1, .ref (ly_a (ly_sw y) 0)), (2, .ref ar), (3, .ref af), (4, .ref ac), (5, .int xx), (6, .int yy), (7, .int (nI kd)), (8, .int (nI f)), (9, .int (nI h)), (10, .int (nI r))] → W p l e { frames := 11, cells := 112, slots := 30100, locals := 400 } s m [.ref (ly_a y 0), .ref (ly_a (ly_sw y) 0), .ref ar, .ref af, .ref ac, .int xx, .int yy].toArray below meth c H locs (((0 + 0) + 0) + 0) (((0 + 0) + 0) + 0) (MQ below (gk_Q y A (fun v G1 => v = some (.int 1) ∧ lj y G1 ar af ac (N + 1))) [.ref (ly_a y 0), .ref (ly_a (ly_sw y) 0), .ref ar, .ref af, .ref ac, .int xx, .int yy].toArray s 112 30100 A) (F0 m 139 ls [.int v2, .int (nI ((9 * r) + 2)), .ref ar]) := by
        intro v2 ls H locs hv2 hP hS hl
        refine gk_iast hK.1 hK.2.2.1.1 hP hS 0 (lw_get hW (k := 0) rfl) rfl (i := nI ((9 * r) + 2)) (vp_in_nI (n := (9 * r) + 2) (N := 27) (by omega) (by decide)) dL_acts_139 (fun H locs hP hS => ?_)
        rw [show (nI ((9 * r) + 2) : Int32).toNatClampNeg = (9 * r) + 2 from nI_clamp (n := (9 * r) + 2) (by omega)] at hP
        obtain ⟨g_8, hg_8⟩ : ∃ z, z = upd g_5 ((9 * r) + 2) v2 := ⟨_, rfl⟩
        have hW : lw y (gk_up G_6 ar (rp_i (ly_k y 0) 27 g_8)) td ru fr hf S hp td ru fr hf S2 hp2 [(ar, 27, g_8), (af, 20, ff), (ac, 1, cc)] := lw_set hW (k := 0) rfl g_8
        have hP : gk_P (ly_D y) A (gk_up G_6 ar (rp_i (ly_k y 0) 27 g_8)) H := by rw [hg_8]; exact hP
        obtain ⟨G_9, hG_9⟩ : ∃ z, z = gk_up G_6 ar (rp_i (ly_k y 0) 27 g_8) := ⟨_, rfl⟩
        have hP : gk_P (ly_D y) A G_9 H := by rw [hG_9]; exact hP
        have hW : lw y G_9 td ru fr hf S hp td ru fr hf S2 hp2 [(ar, 27, g_8), (af, 20, ff), (ac, 1, cc)] := by rw [hG_9]; exact hW
        have hlr3 : lr g_8 (rp_u2 (rp_u2 (rp_u2 ru r 1 v0) r 2 v1) r 3 v2) := by rw [hg_8]; exact lr_set hlr2 hr (k := 2) (by decide) v2
        refine lv_aload_n hK.1.1 hK.1.2.1 dL_acts_140 rfl (lv_at hl 3 rfl) ?_
        refine lv_iload hK.1.1 hK.1.2.1 dL_acts_141 (lv_at hl 0 rfl) ?_
        refine lv_iconst (v := 3) hK.1.1 hK.1.2.1 dL_acts_143 (by decide) ?_
        refine lv_iadd hK.1.1 hK.1.2.1 dL_acts_144 ?_
        refine W.eq (g2 := F0 m 145 ls [.int (nI ((9 * r) + 3)), .ref ar]) (by rw [show (nI (9 * r)) + 3 = nI ((9 * r) + 3) from nI_add _ _]) ?_
        refine lv_iload hK.1.1 hK.1.2.1 dL_acts_145 (lv_at hl 7 rfl) ?_
        refine lv_bipush (v := 16) hK.1.1 hK.1.2.1 dL_acts_147 (by decide) ?_
        refine lv_ishr hK.1.1 hK.1.2.1 dL_acts_149 ?_
        refine lv_iconst (v := 3) hK.1.1 hK.1.2.1 dL_acts_150 (by decide) ?_
        refine gk_callS0 (n := 2) (As := [.int (yy >>> (16 &&& 31)), .int 3]) (rest := [.int (nI ((9 * r) + 3)), .ref ar]) hK (c_L_low l (x := (yy >>> (16 &&& 31))) (n := 3) (by decide) (by decide)) (gk_gS q_12_9 q_12_10 q_10_12 q_12_11) ⟨by decide +kernel, by decide +kernel, by decide +kernel⟩ ⟨(Nat.le_of_ble_eq_true rfl), (Nat.le_of_ble_eq_true rfl)⟩ hP hS rfl hl.1 rfl (Nat.le_of_ble_eq_true rfl) dL_acts_151 ⟨(Nat.le_of_ble_eq_true rfl), (Nat.le_of_ble_eq_true rfl)⟩ (fun v G1 H locs hw hP hS => ?_)
        obtain ⟨⟨j_10, hj_10, rfl⟩, hG9⟩ := hw
        rw [hG9] at hP
        refine W.eq (g2 := F0 m 154 ls [.int (nI j_10), .int (nI ((9 * r) + 3)), .ref ar]) rfl ?_
        have J171 : ∀ (v3 : Int32) (ls : Array Slot) (H : Heap) (locs : List Loc), rg_in v3 0 100 → gk_P (ly_D y) A G_9 H → va_S A s.heap H locs → lv_has ls 14 [(11, .int (nI (9 * r))), (0, .ref (ly_a y 0)), (1, .ref (ly_a (ly_sw y) 0)), (2, .ref ar), (3, .ref af), (4, .ref ac), (5, .int xx), (6, .int yy), (7, .int (nI kd)), (8, .int (nI f)), (9, .int (nI h)), (10, .int (nI r))] → W p l e { frames := 11, cells := 112, slots := 30100, locals := 400 } s m [.ref (ly_a y 0), .ref (ly_a (ly_sw y) 0), .ref ar, .ref af, .ref ac, .int xx, .int yy].toArray below meth c H locs ((((0 + 0) + 0) + 0) + 0) ((((0 + 0) + 0) + 0) + 0) (MQ below (gk_Q y A (fun v G1 => v = some (.int 1) ∧ lj y G1 ar af ac (N + 1))) [.ref (ly_a y 0), .ref (ly_a (ly_sw y) 0), .ref ar, .ref af, .ref ac, .int xx, .int yy].toArray s 112 30100 A) (F0 m 171 ls [.int v3, .int (nI ((9 * r) + 3)), .ref ar]) := by
          intro v3 ls H locs hv3 hP hS hl
          refine gk_iast hK.1 hK.2.2.1.1 hP hS 0 (lw_get hW (k := 0) rfl) rfl (i := nI ((9 * r) + 3)) (vp_in_nI (n := (9 * r) + 3) (N := 27) (by omega) (by decide)) dL_acts_171 (fun H locs hP hS => ?_)
          rw [show (nI ((9 * r) + 3) : Int32).toNatClampNeg = (9 * r) + 3 from nI_clamp (n := (9 * r) + 3) (by omega)] at hP
          obtain ⟨g_11, hg_11⟩ : ∃ z, z = upd g_8 ((9 * r) + 3) v3 := ⟨_, rfl⟩
          have hW : lw y (gk_up G_9 ar (rp_i (ly_k y 0) 27 g_11)) td ru fr hf S hp td ru fr hf S2 hp2 [(ar, 27, g_11), (af, 20, ff), (ac, 1, cc)] := lw_set hW (k := 0) rfl g_11
          have hP : gk_P (ly_D y) A (gk_up G_9 ar (rp_i (ly_k y 0) 27 g_11)) H := by rw [hg_11]; exact hP
          obtain ⟨G_12, hG_12⟩ : ∃ z, z = gk_up G_9 ar (rp_i (ly_k y 0) 27 g_11) := ⟨_, rfl⟩
          have hP : gk_P (ly_D y) A G_12 H := by rw [hG_12]; exact hP
          have hW : lw y G_12 td ru fr hf S hp td ru fr hf S2 hp2 [(ar, 27, g_11), (af, 20, ff), (ac, 1, cc)] := by rw [hG_12]; exact hW
          have hlr4 : lr g_11 (rp_u2 (rp_u2 (rp_u2 (rp_u2 ru r 1 v0) r 2 v1) r 3 v2) r 4 v3) := by rw [hg_11]; exact lr_set hlr3 hr (k := 3) (by decide) v3
          refine lv_aload_n hK.1.1 hK.1.2.1 dL_acts_172 rfl (lv_at hl 1 rfl) ?_
          refine lv_iload hK.1.1 hK.1.2.1 dL_acts_173 (lv_at hl 11 rfl) ?_
          refine lv_aload_n hK.1.1 hK.1.2.1 dL_acts_175 rfl (lv_at hl 3 rfl) ?_
          refine lv_iload hK.1.1 hK.1.2.1 dL_acts_176 (lv_at hl 0 rfl) ?_
          refine gk_iald hK.1 hK.2.2.1.1 hP 0 (lw_get hW (k := 0) rfl) rfl (i := nI (9 * r)) (vp_in_nI (n := 9 * r) (N := 27) (by omega) (by decide)) dL_acts_178 ?_
          refine W.eq (g2 := F0 m 179 ls [.int v0, .int (nI r), .ref (ly_a y 0)]) (by rw [show g_11 (nI (9 * r)).toNatClampNeg = v0 from by rw [show (nI (9 * r) : Int32).toNatClampNeg = 9 * r from nI_clamp (n := 9 * r) (by omega)]; exact ((show g_11 (9 * r) = (rp_u2 (rp_u2 (rp_u2 (rp_u2 ru r 1 v0) r 2 v1) r 3 v2) r 4 v3) r 1 from hlr4 r hr 0 (by decide)).trans (by simp [rp_u2]))]) ?_
          refine lv_aload_n hK.1.1 hK.1.2.1 dL_acts_179 rfl (lv_at hl 3 rfl) ?_
          refine lv_iload hK.1.1 hK.1.2.1 dL_acts_180 (lv_at hl 0 rfl) ?_
          refine lv_iconst (v := 1) hK.1.1 hK.1.2.1 dL_acts_182 (by decide) ?_
          refine lv_iadd hK.1.1 hK.1.2.1 dL_acts_183 ?_
          refine W.eq (g2 := F0 m 184 ls [.int (nI ((9 * r) + 1)), .ref ar, .int v0, .int (nI r), .ref (ly_a y 0)]) (by rw [show (nI (9 * r)) + 1 = nI ((9 * r) + 1) from nI_add _ _]) ?_
          refine gk_iald hK.1 hK.2.2.1.1 hP 0 (lw_get hW (k := 0) rfl) rfl (i := nI ((9 * r) + 1)) (vp_in_nI (n := (9 * r) + 1) (N := 27) (by omega) (by decide)) dL_acts_184 ?_
          refine W.eq (g2 := F0 m 185 ls [.int v1, .int v0, .int (nI r), .ref (ly_a y 0)]) (by rw [show g_11 (nI ((9 * r) + 1)).toNatClampNeg = v1 from by rw [show (nI ((9 * r) + 1) : Int32).toNatClampNeg = (9 * r) + 1 from nI_clamp (n := (9 * r) + 1) (by omega)]; exact ((show g_11 ((9 * r) + 1) = (rp_u2 (rp_u2 (rp_u2 (rp_u2 ru r 1 v0) r 2 v1) r 3 v2) r 4 v3) r 2 from hlr4 r hr 1 (by decide)).trans (by simp [rp_u2]))]) ?_
          refine lv_aload_n hK.1.1 hK.1.2.1 dL_acts_185 rfl (lv_at hl 3 rfl) ?_
          refine lv_iload hK.1.1 hK.1.2.1 dL_acts_186 (lv_at hl 0 rfl) ?_
          refine lv_iconst (v := 2) hK.1.1 hK.1.2.1 dL_acts_188 (by decide) ?_
          refine lv_iadd hK.1.1 hK.1.2.1 dL_acts_189 ?_
          refine W.eq (g2 := F0 m 190 ls [.int (nI ((9 * r) + 2)), .ref ar, .int v1, .int v0, .int (nI r), .ref (ly_a y 0)]) (by rw [show (nI (9 * r)) + 2 = nI ((9 * r) + 2) from nI_add _ _]) ?_
          refine gk_iald hK.1 hK.2.2.1.1 hP 0 (lw_get hW (k := 0) rfl) rfl (i := nI ((9 * r) + 2)) (vp_in_nI (n := (9 * r) + 2) (N := 27) (by omega) (by decide)) dL_acts_190 ?_
          refine W.eq (g2 := F0 m 191 ls [.int v2, .int v1, .int v0, .int (nI r), .ref (ly_a y 0)]) (by rw [show g_11 (nI ((9 * r) + 2)).toNatClampNeg = v2 from by rw [show (nI ((9 * r) + 2) : Int32).toNatClampNeg = (9 * r) + 2 from nI_clamp (n := (9 * r) + 2) (by omega)]; exact ((show g_11 ((9 * r) + 2) = (rp_u2 (rp_u2 (rp_u2 (rp_u2 ru r 1 v0) r 2 v1) r 3 v2) r 4 v3) r 3 from hlr4 r hr 2 (by decide)).trans (by simp [rp_u2]))]) ?_
          refine lv_aload_n hK.1.1 hK.1.2.1 dL_acts_191 rfl (lv_at hl 3 rfl) ?_
          refine lv_iload hK.1.1 hK.1.2.1 dL_acts_192 (lv_at hl 0 rfl) ?_
          refine lv_iconst (v := 3) hK.1.1 hK.1.2.1 dL_acts_194 (by decide) ?_
          refine lv_iadd hK.1.1 hK.1.2.1 dL_acts_195 ?_
          refine W.eq (g2 := F0 m 196 ls [.int (nI ((9 * r) + 3)), .ref ar, .int v2, .int v1, .int v0, .int (nI r), .ref (ly_a y 0)]) (by rw [show (nI (9 * r)) + 3 = nI ((9 * r) + 3) from nI_add _ _]) ?_
          refine gk_iald hK.1 hK.2.2.1.1 hP 0 (lw_get hW (k := 0) rfl) rfl (i := nI ((9 * r) + 3)) (vp_in_nI (n := (9 * r) + 3) (N := 27) (by omega) (by decide)) dL_acts_196 ?_
          refine W.eq (g2 := F0 m 197 ls [.int v3, .int v2, .int v1, .int v0, .int (nI r), .ref (ly_a y 0)]) (by rw [show g_11 (nI ((9 * r) + 3)).toNatClampNeg = v3 from by rw [show (nI ((9 * r) + 3) : Int32).toNatClampNeg = (9 * r) + 3 from nI_clamp (n := (9 * r) + 3) (by omega)]; exact ((show g_11 ((9 * r) + 3) = (rp_u2 (rp_u2 (rp_u2 (rp_u2 ru r 1 v0) r 2 v1) r 3 v2) r 4 v3) r 4 from hlr4 r hr 3 (by decide)).trans (by simp [rp_u2]))]) ?_
          refine gk_callSW (n := 6) (As := [.ref (ly_a y 0), .int (nI r), .int v0, .int v1, .int v2, .int v3]) (rest := []) hK (co_setDue hfl hW hr ⟨hv0, hv1, hv2, hv3⟩) (gk_gS q_12_13 q_12_14 q_10_12 q_12_15) ⟨by decide +kernel, by decide +kernel, by decide +kernel⟩ ⟨(Nat.le_of_ble_eq_true rfl), (Nat.le_of_ble_eq_true rfl)⟩ hP hS rfl hl.1 rfl (Nat.le_of_ble_eq_true rfl) dL_acts_197 ⟨(Nat.le_of_ble_eq_true rfl), (Nat.le_of_ble_eq_true rfl)⟩ (fun v G_13 H locs hw hP hS => ?_)
          obtain ⟨rfl, hW⟩ := hw
          refine W.eq (g2 := F0 m 200 ls [.int 0]) rfl ?_
          have hW : lw y G_13 td (rp_u2 (rp_u2 (rp_u2 (rp_u2 ru r 1 v0) r 2 v1) r 3 v2) r 4 v3) fr hf S hp td ru fr hf S2 hp2 [(ar, 27, g_11), (af, 20, ff), (ac, 1, cc)] := hW
          refine lv_if_ne (tgt := 317) hK.1.1 hK.1.2.1 dL_acts_200 (by decide) (fun c => absurd rfl c) (fun _ => ?_)
          refine lv_aload_n hK.1.1 hK.1.2.1 dL_acts_203 rfl (lv_at hl 2 rfl) ?_
          refine lv_iload hK.1.1 hK.1.2.1 dL_acts_204 (lv_at hl 11 rfl) ?_
          refine lv_aload_n hK.1.1 hK.1.2.1 dL_acts_206 rfl (lv_at hl 3 rfl) ?_
          refine lv_iload hK.1.1 hK.1.2.1 dL_acts_207 (lv_at hl 0 rfl) ?_
          refine gk_iald hK.1 hK.2.2.1.1 hP 0 (lw_get hW (k := 0) rfl) rfl (i := nI (9 * r)) (vp_in_nI (n := 9 * r) (N := 27) (by omega) (by decide)) dL_acts_209 ?_
          refine W.eq (g2 := F0 m 210 ls [.int v0, .int (nI r), .ref (ly_a (ly_sw y) 0)]) (by rw [show g_11 (nI (9 * r)).toNatClampNeg = v0 from by rw [show (nI (9 * r) : Int32).toNatClampNeg = 9 * r from nI_clamp (n := 9 * r) (by omega)]; exact ((show g_11 (9 * r) = (rp_u2 (rp_u2 (rp_u2 (rp_u2 ru r 1 v0) r 2 v1) r 3 v2) r 4 v3) r 1 from hlr4 r hr 0 (by decide)).trans (by simp [rp_u2]))]) ?_
          refine lv_aload_n hK.1.1 hK.1.2.1 dL_acts_210 rfl (lv_at hl 3 rfl) ?_
          refine lv_iload hK.1.1 hK.1.2.1 dL_acts_211 (lv_at hl 0 rfl) ?_
          refine lv_iconst (v := 1) hK.1.1 hK.1.2.1 dL_acts_213 (by decide) ?_
          refine lv_iadd hK.1.1 hK.1.2.1 dL_acts_214 ?_
          refine W.eq (g2 := F0 m 215 ls [.int (nI ((9 * r) + 1)), .ref ar, .int v0, .int (nI r), .ref (ly_a (ly_sw y) 0)]) (by rw [show (nI (9 * r)) + 1 = nI ((9 * r) + 1) from nI_add _ _]) ?_
          refine gk_iald hK.1 hK.2.2.1.1 hP 0 (lw_get hW (k := 0) rfl) rfl (i := nI ((9 * r) + 1)) (vp_in_nI (n := (9 * r) + 1) (N := 27) (by omega) (by decide)) dL_acts_215 ?_
          refine W.eq (g2 := F0 m 216 ls [.int v1, .int v0, .int (nI r), .ref (ly_a (ly_sw y) 0)]) (by rw [show g_11 (nI ((9 * r) + 1)).toNatClampNeg = v1 from by rw [show (nI ((9 * r) + 1) : Int32).toNatClampNeg = (9 * r) + 1 from nI_clamp (n := (9 * r) + 1) (by omega)]; exact ((show g_11 ((9 * r) + 1) = (rp_u2 (rp_u2 (rp_u2 (rp_u2 ru r 1 v0) r 2 v1) r 3 v2) r 4 v3) r 2 from hlr4 r hr 1 (by decide)).trans (by simp [rp_u2]))]) ?_
          refine lv_aload_n hK.1.1 hK.1.2.1 dL_acts_216 rfl (lv_at hl 3 rfl) ?_
          refine lv_iload hK.1.1 hK.1.2.1 dL_acts_217 (lv_at hl 0 rfl) ?_
          refine lv_iconst (v := 2) hK.1.1 hK.1.2.1 dL_acts_219 (by decide) ?_
          refine lv_iadd hK.1.1 hK.1.2.1 dL_acts_220 ?_
          refine W.eq (g2 := F0 m 221 ls [.int (nI ((9 * r) + 2)), .ref ar, .int v1, .int v0, .int (nI r), .ref (ly_a (ly_sw y) 0)]) (by rw [show (nI (9 * r)) + 2 = nI ((9 * r) + 2) from nI_add _ _]) ?_
          refine gk_iald hK.1 hK.2.2.1.1 hP 0 (lw_get hW (k := 0) rfl) rfl (i := nI ((9 * r) + 2)) (vp_in_nI (n := (9 * r) + 2) (N := 27) (by omega) (by decide)) dL_acts_221 ?_
          refine W.eq (g2 := F0 m 222 ls [.int v2, .int v1, .int v0, .int (nI r), .ref (ly_a (ly_sw y) 0)]) (by rw [show g_11 (nI ((9 * r) + 2)).toNatClampNeg = v2 from by rw [show (nI ((9 * r) + 2) : Int32).toNatClampNeg = (9 * r) + 2 from nI_clamp (n := (9 * r) + 2) (by omega)]; exact ((show g_11 ((9 * r) + 2) = (rp_u2 (rp_u2 (rp_u2 (rp_u2 ru r 1 v0) r 2 v1) r 3 v2) r 4 v3) r 3 from hlr4 r hr 2 (by decide)).trans (by simp [rp_u2]))]) ?_
          refine lv_aload_n hK.1.1 hK.1.2.1 dL_acts_222 rfl (lv_at hl 3 rfl) ?_
          refine lv_iload hK.1.1 hK.1.2.1 dL_acts_223 (lv_at hl 0 rfl) ?_
          refine lv_iconst (v := 3) hK.1.1 hK.1.2.1 dL_acts_225 (by decide) ?_
          refine lv_iadd hK.1.1 hK.1.2.1 dL_acts_226 ?_
          refine W.eq (g2 := F0 m 227 ls [.int (nI ((9 * r) + 3)), .ref ar, .int v2, .int v1, .int v0, .int (nI r), .ref (ly_a (ly_sw y) 0)]) (by rw [show (nI (9 * r)) + 3 = nI ((9 * r) + 3) from nI_add _ _]) ?_
          refine gk_iald hK.1 hK.2.2.1.1 hP 0 (lw_get hW (k := 0) rfl) rfl (i := nI ((9 * r) + 3)) (vp_in_nI (n := (9 * r) + 3) (N := 27) (by omega) (by decide)) dL_acts_227 ?_
          refine W.eq (g2 := F0 m 228 ls [.int v3, .int v2, .int v1, .int v0, .int (nI r), .ref (ly_a (ly_sw y) 0)]) (by rw [show g_11 (nI ((9 * r) + 3)).toNatClampNeg = v3 from by rw [show (nI ((9 * r) + 3) : Int32).toNatClampNeg = (9 * r) + 3 from nI_clamp (n := (9 * r) + 3) (by omega)]; exact ((show g_11 ((9 * r) + 3) = (rp_u2 (rp_u2 (rp_u2 (rp_u2 ru r 1 v0) r 2 v1) r 3 v2) r 4 v3) r 4 from hlr4 r hr 3 (by decide)).trans (by simp [rp_u2]))]) ?_
          refine gk_callSW (n := 6) (As := [.ref (ly_a (ly_sw y) 0), .int (nI r), .int v0, .int v1, .int v2, .int v3]) (rest := []) hK (ct_setDue hfl hW hr ⟨hv0, hv1, hv2, hv3⟩) (gk_gS q_12_13 q_12_14 q_10_12 q_12_15) ⟨by decide +kernel, by decide +kernel, by decide +kernel⟩ ⟨(Nat.le_of_ble_eq_true rfl), (Nat.le_of_ble_eq_true rfl)⟩ hP hS rfl hl.1 rfl (Nat.le_of_ble_eq_true rfl) dL_acts_228 ⟨(Nat.le_of_ble_eq_true rfl), (Nat.le_of_ble_eq_true rfl)⟩ (fun v G_14 H locs hw hP hS => ?_)
          obtain ⟨rfl, hW⟩ := hw
          refine W.eq (g2 := F0 m 231 ls [.int 0]) rfl ?_
          have hW : lw y G_14 td (rp_u2 (rp_u2 (rp_u2 (rp_u2 ru r 1 v0) r 2 v1) r 3 v2) r 4 v3) fr hf S hp td (rp_u2 (rp_u2 (rp_u2 (rp_u2 ru r 1 v0) r 2 v1) r 3 v2) r 4 v3) fr hf S2 hp2 [(ar, 27, g_11), (af, 20, ff), (ac, 1, cc)] := hW
          refine lv_if_ne (tgt := 317) hK.1.1 hK.1.2.1 dL_acts_231 (by decide) (fun c => absurd rfl c) (fun _ => ?_)
          refine lv_aload_n hK.1.1 hK.1.2.1 dL_acts_234 rfl (lv_at hl 1 rfl) ?_
          refine lv_iconst (v := 3) hK.1.1 hK.1.2.1 dL_acts_235 (by decide) ?_
          refine lv_iconst (v := (-1)) hK.1.1 hK.1.2.1 dL_acts_236 (by decide) ?_
          refine lv_iconst (v := 0) hK.1.1 hK.1.2.1 dL_acts_237 (by decide) ?_
          refine lv_iconst (v := 0) hK.1.1 hK.1.2.1 dL_acts_238 (by decide) ?_
          refine lv_iconst (v := 0) hK.1.1 hK.1.2.1 dL_acts_239 (by decide) ?_
          refine gk_callSW (n := 6) (As := [.ref (ly_a y 0), .int 3, .int (-1), .int 0, .int 0, .int 0]) (rest := []) hK (cb0_setDue hfl (lw_o hW) (i := 3) (size := -1) (wd := 0) (mo := 0) (le := 0) (Or.inr (by decide))) (gk_gS q_12_13 q_12_14 q_10_12 q_12_15) ⟨by decide +kernel, by decide +kernel, by decide +kernel⟩ ⟨(Nat.le_of_ble_eq_true rfl), (Nat.le_of_ble_eq_true rfl)⟩ hP hS rfl hl.1 rfl (Nat.le_of_ble_eq_true rfl) dL_acts_240 ⟨(Nat.le_of_ble_eq_true rfl), (Nat.le_of_ble_eq_true rfl)⟩ (fun v G1 H locs hw hP hS => ?_)
          obtain ⟨rfl, hG9⟩ := hw
          rw [hG9] at hP
          refine W.eq (g2 := F0 m 243 ls [.int (-1000001)]) rfl ?_
          refine lv_ldc (v := (-1000001)) hK.1.1 hK.1.2.1 hK.1.2.2.1 (hK.1.2.2.2 _ q_1_4) dL_acts_243 ?_
          refine lv_icmp_ne (tgt := 317) hK.1.1 hK.1.2.1 dL_acts_245 (by decide) (fun c => absurd rfl c) (fun _ => ?_)
          refine lv_aload_n hK.1.1 hK.1.2.1 dL_acts_248 rfl (lv_at hl 1 rfl) ?_
          refine lv_iload hK.1.1 hK.1.2.1 dL_acts_249 (lv_at hl 11 rfl) ?_
          refine lv_sipush (v := 10001) hK.1.1 hK.1.2.1 dL_acts_251 (by decide) ?_
          refine lv_iconst (v := 0) hK.1.1 hK.1.2.1 dL_acts_254 (by decide) ?_
          refine lv_iconst (v := 0) hK.1.1 hK.1.2.1 dL_acts_255 (by decide) ?_
          refine lv_iconst (v := 0) hK.1.1 hK.1.2.1 dL_acts_256 (by decide) ?_
          refine gk_callSW (n := 6) (As := [.ref (ly_a y 0), .int (nI r), .int 10001, .int 0, .int 0, .int 0]) (rest := []) hK (cb1_setDue hfl (lw_o hW) (i := nI r) (size := 10001) (wd := 0) (mo := 0) (le := 0) (rg_out_no hr (by decide)) (fun q => absurd q.1.2 (by decide))) (gk_gS q_12_13 q_12_14 q_10_12 q_12_15) ⟨by decide +kernel, by decide +kernel, by decide +kernel⟩ ⟨(Nat.le_of_ble_eq_true rfl), (Nat.le_of_ble_eq_true rfl)⟩ hP hS rfl hl.1 rfl (Nat.le_of_ble_eq_true rfl) dL_acts_257 ⟨(Nat.le_of_ble_eq_true rfl), (Nat.le_of_ble_eq_true rfl)⟩ (fun v G1 H locs hw hP hS => ?_)
          obtain ⟨rfl, hG9⟩ := hw
          rw [hG9] at hP
          refine W.eq (g2 := F0 m 260 ls [.int (-1000002)]) rfl ?_
          refine lv_ldc (v := (-1000002)) hK.1.1 hK.1.2.1 hK.1.2.2.1 (hK.1.2.2.2 _ q_12_7) dL_acts_260 ?_
          refine lv_icmp_ne (tgt := 317) hK.1.1 hK.1.2.1 dL_acts_262 (by decide) (fun c => absurd rfl c) (fun _ => ?_)
          refine lv_aload_n hK.1.1 hK.1.2.1 dL_acts_265 rfl (lv_at hl 1 rfl) ?_
          refine lv_iload hK.1.1 hK.1.2.1 dL_acts_266 (lv_at hl 11 rfl) ?_
          refine lv_iconst (v := 0) hK.1.1 hK.1.2.1 dL_acts_268 (by decide) ?_
          refine lv_bipush (v := 7) hK.1.1 hK.1.2.1 dL_acts_269 (by decide) ?_
          refine lv_iconst (v := 0) hK.1.1 hK.1.2.1 dL_acts_271 (by decide) ?_
          refine lv_iconst (v := 0) hK.1.1 hK.1.2.1 dL_acts_272 (by decide) ?_
          refine gk_callSW (n := 6) (As := [.ref (ly_a y 0), .int (nI r), .int 0, .int 7, .int 0, .int 0]) (rest := []) hK (cb1_setDue hfl (lw_o hW) (i := nI r) (size := 0) (wd := 7) (mo := 0) (le := 0) (rg_out_no hr (by decide)) (fun q => absurd q.2.1.2 (by decide))) (gk_gS q_12_13 q_12_14 q_10_12 q_12_15) ⟨by decide +kernel, by decide +kernel, by decide +kernel⟩ ⟨(Nat.le_of_ble_eq_true rfl), (Nat.le_of_ble_eq_true rfl)⟩ hP hS rfl hl.1 rfl (Nat.le_of_ble_eq_true rfl) dL_acts_273 ⟨(Nat.le_of_ble_eq_true rfl), (Nat.le_of_ble_eq_true rfl)⟩ (fun v G1 H locs hw hP hS => ?_)
          obtain ⟨rfl, hG9⟩ := hw
          rw [hG9] at hP
          refine W.eq (g2 := F0 m 276 ls [.int (-1000002)]) rfl ?_
          refine lv_ldc (v := (-1000002)) hK.1.1 hK.1.2.1 hK.1.2.2.1 (hK.1.2.2.2 _ q_12_7) dL_acts_276 ?_
          refine lv_icmp_ne (tgt := 317) hK.1.1 hK.1.2.1 dL_acts_278 (by decide) (fun c => absurd rfl c) (fun _ => ?_)
          refine lv_aload_n hK.1.1 hK.1.2.1 dL_acts_281 rfl (lv_at hl 1 rfl) ?_
          refine lv_iload hK.1.1 hK.1.2.1 dL_acts_282 (lv_at hl 11 rfl) ?_
          refine lv_iconst (v := 0) hK.1.1 hK.1.2.1 dL_acts_284 (by decide) ?_
          refine lv_iconst (v := 0) hK.1.1 hK.1.2.1 dL_acts_285 (by decide) ?_
          refine lv_bipush (v := 30) hK.1.1 hK.1.2.1 dL_acts_286 (by decide) ?_
          refine lv_iconst (v := 0) hK.1.1 hK.1.2.1 dL_acts_288 (by decide) ?_
          refine gk_callSW (n := 6) (As := [.ref (ly_a y 0), .int (nI r), .int 0, .int 0, .int 30, .int 0]) (rest := []) hK (cb1_setDue hfl (lw_o hW) (i := nI r) (size := 0) (wd := 0) (mo := 30) (le := 0) (rg_out_no hr (by decide)) (fun q => absurd q.2.2.1.2 (by decide))) (gk_gS q_12_13 q_12_14 q_10_12 q_12_15) ⟨by decide +kernel, by decide +kernel, by decide +kernel⟩ ⟨(Nat.le_of_ble_eq_true rfl), (Nat.le_of_ble_eq_true rfl)⟩ hP hS rfl hl.1 rfl (Nat.le_of_ble_eq_true rfl) dL_acts_289 ⟨(Nat.le_of_ble_eq_true rfl), (Nat.le_of_ble_eq_true rfl)⟩ (fun v G1 H locs hw hP hS => ?_)
          obtain ⟨rfl, hG9⟩ := hw
          rw [hG9] at hP
          refine W.eq (g2 := F0 m 292 ls [.int (-1000002)]) rfl ?_
          refine lv_ldc (v := (-1000002)) hK.1.1 hK.1.2.1 hK.1.2.2.1 (hK.1.2.2.2 _ q_12_7) dL_acts_292 ?_
          refine lv_icmp_ne (tgt := 317) hK.1.1 hK.1.2.1 dL_acts_294 (by decide) (fun c => absurd rfl c) (fun _ => ?_)
          refine lv_aload_n hK.1.1 hK.1.2.1 dL_acts_297 rfl (lv_at hl 1 rfl) ?_
          refine lv_iload hK.1.1 hK.1.2.1 dL_acts_298 (lv_at hl 11 rfl) ?_
          refine lv_iconst (v := 0) hK.1.1 hK.1.2.1 dL_acts_300 (by decide) ?_
          refine lv_iconst (v := 0) hK.1.1 hK.1.2.1 dL_acts_301 (by decide) ?_
          refine lv_iconst (v := 0) hK.1.1 hK.1.2.1 dL_acts_302 (by decide) ?_
          refine lv_bipush (v := 101) hK.1.1 hK.1.2.1 dL_acts_303 (by decide) ?_
          refine gk_callSW (n := 6) (As := [.ref (ly_a y 0), .int (nI r), .int 0, .int 0, .int 0, .int 101]) (rest := []) hK (cb1_setDue hfl (lw_o hW) (i := nI r) (size := 0) (wd := 0) (mo := 0) (le := 101) (rg_out_no hr (by decide)) (fun q => absurd q.2.2.2.2 (by decide))) (gk_gS q_12_13 q_12_14 q_10_12 q_12_15) ⟨by decide +kernel, by decide +kernel, by decide +kernel⟩ ⟨(Nat.le_of_ble_eq_true rfl), (Nat.le_of_ble_eq_true rfl)⟩ hP hS rfl hl.1 rfl (Nat.le_of_ble_eq_true rfl) dL_acts_305 ⟨(Nat.le_of_ble_eq_true rfl), (Nat.le_of_ble_eq_true rfl)⟩ (fun v G1 H locs hw hP hS => ?_)
          obtain ⟨rfl, hG9⟩ := hw
          rw [hG9] at hP
          refine W.eq (g2 := F0 m 308 ls [.int (-1000002)]) rfl ?_
          refine lv_ldc (v := (-1000002)) hK.1.1 hK.1.2.1 hK.1.2.2.1 (hK.1.2.2.2 _ q_12_7) dL_acts_308 ?_
          refine lv_icmp_ne (tgt := 317) hK.1.1 hK.1.2.1 dL_acts_310 (by decide) (fun c => absurd rfl c) (fun _ => ?_)
          refine lv_iconst (v := 1) hK.1.1 hK.1.2.1 dL_acts_313 (by decide) ?_
          refine lv_goto (tgt := 318) hK.1.1 hK.1.2.1 dL_acts_314 (by decide) ?_
          exact gk_zret0 hK.1 hret (by first | decide | exact (rp_nz (by first | assumption | (simp; done))).1) hlk hP hS (Nat.le_of_ble_eq_true rfl) (Nat.le_of_ble_eq_true rfl) dL_acts_318 ⟨rfl, ed, td, (rp_u2 (rp_u2 (rp_u2 (rp_u2 ru r 1 v0) r 2 v1) r 3 v2) r 4 v3), fr, hf, S, hp, S2, hp2, tt, _, _, _, hW, ⟨_, iv_setDue hI ⟨hv0, hv1, hv2, hv3⟩⟩, ⟨_, iv_setDue hI2 ⟨hv0, hv1, hv2, hv3⟩⟩, ⟨_, hrn⟩, hlr4, hlf, hcc⟩
        refine lv_if_ne (tgt := 170) hK.1.1 hK.1.2.1 dL_acts_154 (by decide) (fun c154_15 => ?_) (fun c154_15 => ?_)
        · refine lv_iconst (v := 0) hK.1.1 hK.1.2.1 dL_acts_170 (by decide) ?_
          exact J171 0 ls _ _ ⟨by decide, by decide⟩ hP hS (lv_sub hl [0, 1, 2, 3, 4, 5, 6, 7, 8, 9, 10, 11] rfl)
        · refine lv_iload hK.1.1 hK.1.2.1 dL_acts_157 (lv_at hl 7 rfl) ?_
          refine lv_bipush (v := 18) hK.1.1 hK.1.2.1 dL_acts_159 (by decide) ?_
          refine lv_ishr hK.1.1 hK.1.2.1 dL_acts_161 ?_
          refine lv_bipush (v := 12) hK.1.1 hK.1.2.1 dL_acts_162 (by decide) ?_
          refine gk_callS0 (n := 2) (As := [.int (yy >>> (18 &&& 31)), .int 12]) (rest := [.int (nI ((9 * r) + 3)), .ref ar]) hK (c_L_low l (x := (yy >>> (18 &&& 31))) (n := 12) (by decide) (by decide)) (gk_gS q_12_9 q_12_10 q_10_12 q_12_11) ⟨by decide +kernel, by decide +kernel, by decide +kernel⟩ ⟨(Nat.le_of_ble_eq_true rfl), (Nat.le_of_ble_eq_true rfl)⟩ hP hS rfl hl.1 rfl (Nat.le_of_ble_eq_true rfl) dL_acts_164 ⟨(Nat.le_of_ble_eq_true rfl), (Nat.le_of_ble_eq_true rfl)⟩ (fun v G1 H locs hw hP hS => ?_)
          obtain ⟨⟨j_16, hj_16, rfl⟩, hG9⟩ := hw
          rw [hG9] at hP
          refine W.eq (g2 := F0 m 167 ls [.int (nI j_16), .int (nI ((9 * r) + 3)), .ref ar]) rfl ?_
          refine lv_goto (tgt := 171) hK.1.1 hK.1.2.1 dL_acts_167 (by decide) ?_
          exact J171 (nI j_16) ls _ _ (rg_n (c := 0) (b := 100) (by have := hj_16; omega) (by decide) (Nat.zero_le _)) hP hS (lv_sub hl [0, 1, 2, 3, 4, 5, 6, 7, 8, 9, 10, 11] rfl)
      refine lv_if_ne (tgt := 138) hK.1.1 hK.1.2.1 dL_acts_122 (by decide) (fun c122_17 => ?_) (fun c122_17 => ?_)
      · refine lv_iconst (v := (-1)) hK.1.1 hK.1.2.1 dL_acts_138 (by decide) ?_
        exact J139 (-1) ls _ _ ⟨by decide, by decide⟩ hP hS (lv_sub hl [0, 1, 2, 3, 4, 5, 6, 7, 8, 9, 10, 11] rfl)
      · refine lv_iload hK.1.1 hK.1.2.1 dL_acts_125 (lv_at hl 7 rfl) ?_
        refine lv_bipush (v := 11) hK.1.1 hK.1.2.1 dL_acts_127 (by decide) ?_
        refine lv_ishr hK.1.1 hK.1.2.1 dL_acts_129 ?_
        refine lv_bipush (v := 30) hK.1.1 hK.1.2.1 dL_acts_130 (by decide) ?_
        refine gk_callS0 (n := 2) (As := [.int (yy >>> (11 &&& 31)), .int 30]) (rest := [.int (nI ((9 * r) + 2)), .ref ar]) hK (c_L_low l (x := (yy >>> (11 &&& 31))) (n := 30) (by decide) (by decide)) (gk_gS q_12_9 q_12_10 q_10_12 q_12_11) ⟨by decide +kernel, by decide +kernel, by decide +kernel⟩ ⟨(Nat.le_of_ble_eq_true rfl), (Nat.le_of_ble_eq_true rfl)⟩ hP hS rfl hl.1 rfl (Nat.le_of_ble_eq_true rfl) dL_acts_132 ⟨(Nat.le_of_ble_eq_true rfl), (Nat.le_of_ble_eq_true rfl)⟩ (fun v G1 H locs hw hP hS => ?_)
        obtain ⟨⟨j_18, hj_18, rfl⟩, hG9⟩ := hw
        rw [hG9] at hP
        refine W.eq (g2 := F0 m 135 ls [.int (nI j_18), .int (nI ((9 * r) + 2)), .ref ar]) rfl ?_
        refine lv_goto (tgt := 139) hK.1.1 hK.1.2.1 dL_acts_135 (by decide) ?_
        exact J139 (nI j_18) ls _ _ (rg_m (b := 29) (by have := hj_18; omega) (by decide)) hP hS (lv_sub hl [0, 1, 2, 3, 4, 5, 6, 7, 8, 9, 10, 11] rfl)
    refine lv_if_ne (tgt := 106) hK.1.1 hK.1.2.1 dL_acts_90 (by decide) (fun c90_19 => ?_) (fun c90_19 => ?_)
    · refine lv_iconst (v := (-1)) hK.1.1 hK.1.2.1 dL_acts_106 (by decide) ?_
      exact J107 (-1) ls _ _ ⟨by decide, by decide⟩ hP hS (lv_sub hl [0, 1, 2, 3, 4, 5, 6, 7, 8, 9, 10, 11] rfl)
    · refine lv_iload hK.1.1 hK.1.2.1 dL_acts_93 (lv_at hl 7 rfl) ?_
      refine lv_bipush (v := 6) hK.1.1 hK.1.2.1 dL_acts_95 (by decide) ?_
      refine lv_ishr hK.1.1 hK.1.2.1 dL_acts_97 ?_
      refine lv_bipush (v := 7) hK.1.1 hK.1.2.1 dL_acts_98 (by decide) ?_
      refine gk_callS0 (n := 2) (As := [.int (yy >>> (6 &&& 31)), .int 7]) (rest := [.int (nI ((9 * r) + 1)), .ref ar]) hK (c_L_low l (x := (yy >>> (6 &&& 31))) (n := 7) (by decide) (by decide)) (gk_gS q_12_9 q_12_10 q_10_12 q_12_11) ⟨by decide +kernel, by decide +kernel, by decide +kernel⟩ ⟨(Nat.le_of_ble_eq_true rfl), (Nat.le_of_ble_eq_true rfl)⟩ hP hS rfl hl.1 rfl (Nat.le_of_ble_eq_true rfl) dL_acts_100 ⟨(Nat.le_of_ble_eq_true rfl), (Nat.le_of_ble_eq_true rfl)⟩ (fun v G1 H locs hw hP hS => ?_)
      obtain ⟨⟨j_20, hj_20, rfl⟩, hG9⟩ := hw
      rw [hG9] at hP
      refine W.eq (g2 := F0 m 103 ls [.int (nI j_20), .int (nI ((9 * r) + 1)), .ref ar]) rfl ?_
      refine lv_goto (tgt := 107) hK.1.1 hK.1.2.1 dL_acts_103 (by decide) ?_
      exact J107 (nI j_20) ls _ _ (rg_m (b := 6) (by have := hj_20; omega) (by decide)) hP hS (lv_sub hl [0, 1, 2, 3, 4, 5, 6, 7, 8, 9, 10, 11] rfl)
  refine lv_if_ne (tgt := 67) hK.1.1 hK.1.2.1 dL_acts_60 (by decide) (fun c60_21 => ?_) (fun c60_21 => ?_)
  · refine lv_iload hK.1.1 hK.1.2.1 dL_acts_67 (lv_at hl 7 rfl) ?_
    refine lv_iconst (v := 2) hK.1.1 hK.1.2.1 dL_acts_69 (by decide) ?_
    refine lv_ishr hK.1.1 hK.1.2.1 dL_acts_70 ?_
    refine lv_bipush (v := 60) hK.1.1 hK.1.2.1 dL_acts_71 (by decide) ?_
    refine gk_callS0 (n := 2) (As := [.int (yy >>> (2 &&& 31)), .int 60]) (rest := [.int (nI (9 * r)), .ref ar]) hK (c_L_low l (x := (yy >>> (2 &&& 31))) (n := 60) (by decide) (by decide)) (gk_gS q_12_9 q_12_10 q_10_12 q_12_11) ⟨by decide +kernel, by decide +kernel, by decide +kernel⟩ ⟨(Nat.le_of_ble_eq_true rfl), (Nat.le_of_ble_eq_true rfl)⟩ hP hS rfl hl.1 rfl (Nat.le_of_ble_eq_true rfl) dL_acts_73 ⟨(Nat.le_of_ble_eq_true rfl), (Nat.le_of_ble_eq_true rfl)⟩ (fun v G1 H locs hw hP hS => ?_)
    obtain ⟨⟨j_22, hj_22, rfl⟩, hG9⟩ := hw
    rw [hG9] at hP
    refine W.eq (g2 := F0 m 76 ls [.int (nI j_22), .int (nI (9 * r)), .ref ar]) rfl ?_
    exact J76 (nI j_22) ls _ _ (rg_n (c := 0) (b := 10000) (by have := hj_22; omega) (by decide) (Nat.zero_le _)) hP hS (lv_sub hl [0, 1, 2, 3, 4, 5, 6, 7, 8, 9, 10, 11] rfl)
  · refine lv_iconst (v := 0) hK.1.1 hK.1.2.1 dL_acts_63 (by decide) ?_
    refine lv_goto (tgt := 76) hK.1.1 hK.1.2.1 dL_acts_64 (by decide) ?_
    exact J76 0 ls _ _ ⟨by decide, by decide⟩ hP hS (lv_sub hl [0, 1, 2, 3, 4, 5, 6, 7, 8, 9, 10, 11] rfl)
set_option maxHeartbeats 4000000 in
set_option maxRecDepth 100000 in
theorem aw_setOld {ed N : Nat} {td : Int32} {ru : Nat → Nat → Int32} {fr : Nat → Nat} {hf hp hp2 : Nat → Option Nat} {S S2 : ts_T} {tt rr ff cc : Nat → Int32} {fi fi2 φ : Nat → Nat} {ar af ac : Nat} (hfl : l.stackTraces = false) (hW : lw y G td ru fr hf S hp td ru fr hf S2 hp2 [(ar, 27, rr), (af, 20, ff), (ac, 1, cc)]) (hI : iv ed N td ru fr hf S hp tt fi) (hI2 : iv ed N td ru fr hf S2 hp2 tt fi2) (hrn : rn φ S hp S2 hp2) (hlr : lr rr ru) (hlf : lf ff fr S tt) (hcc : cc 0 = td) (hN : N ≤ 110) {xx yy : Int32} {kd f h r : Nat} (f5 : f < 5) (hh : h < 4) (hr : r < 3) (hK : gk_K p s m c [.ref (ly_a y 0), .ref (ly_a (ly_sw y) 0), .ref ar, .ref af, .ref ac, .int xx, .int yy].toArray cL_acts RL 14 y A) (hret : meth.sig.returnType = some .boolean) (hlk : meth.locks = false) (hP : gk_P (ly_D y) A G H) (hS : va_S A s.heap H locs) (hl : lv_has ls 14 [(0, .ref (ly_a y 0)), (1, .ref (ly_a (ly_sw y) 0)), (2, .ref ar), (3, .ref af), (4, .ref ac), (5, .int xx), (6, .int yy), (7, .int (nI kd)), (8, .int (nI f)), (9, .int (nI h)), (10, .int (nI r))]) : W p l e { frames := 11, cells := 112, slots := 30100, locals := 400 } s m [.ref (ly_a y 0), .ref (ly_a (ly_sw y) 0), .ref ar, .ref af, .ref ac, .int xx, .int yy].toArray below meth c H locs 0 0 (MQ below (gk_Q y A (fun v G1 => v = some (.int 1) ∧ lj y G1 ar af ac (N + 1))) [.ref (ly_a y 0), .ref (ly_a (ly_sw y) 0), .ref ar, .ref af, .ref ac, .int xx, .int yy].toArray s 112 30100 A) (F0 m 325 ls []) := by
  have hN1 : N ≤ 111 := by omega
  have he9 := hI.1.2
  refine lv_bipush (v := 9) hK.1.1 hK.1.2.1 dL_acts_325 (by decide) ?_
  refine lv_iload hK.1.1 hK.1.2.1 dL_acts_327 (lv_at hl 10 rfl) ?_
  refine lv_imul hK.1.1 hK.1.2.1 dL_acts_329 ?_
  refine W.eq (g2 := F0 m 330 ls [.int (nI (9 * r))]) (by rw [show 9 * (nI r) = nI (9 * r) from pk_mul _ _]) ?_
  refine lv_istore (lv' := [(11, .int (nI (9 * r))), (0, .ref (ly_a y 0)), (1, .ref (ly_a (ly_sw y) 0)), (2, .ref ar), (3, .ref af), (4, .ref ac), (5, .int xx), (6, .int yy), (7, .int (nI kd)), (8, .int (nI f)), (9, .int (nI h)), (10, .int (nI r))]) hK.1.1 hK.1.2.1 dL_acts_330 hl (by decide) rfl (fun ls hl => ?_)
  refine lv_aload_n hK.1.1 hK.1.2.1 dL_acts_332 rfl (lv_at hl 3 rfl) ?_
  refine lv_iload hK.1.1 hK.1.2.1 dL_acts_333 (lv_at hl 0 rfl) ?_
  refine lv_iconst (v := 4) hK.1.1 hK.1.2.1 dL_acts_335 (by decide) ?_
  refine lv_iadd hK.1.1 hK.1.2.1 dL_acts_336 ?_
  refine W.eq (g2 := F0 m 337 ls [.int (nI ((9 * r) + 4)), .ref ar]) (by rw [show (nI (9 * r)) + 4 = nI ((9 * r) + 4) from nI_add _ _]) ?_
  refine lv_iload hK.1.1 hK.1.2.1 dL_acts_337 (lv_at hl 7 rfl) ?_
  refine lv_iconst (v := 5) hK.1.1 hK.1.2.1 dL_acts_339 (by decide) ?_
  refine gk_callS0 (n := 2) (As := [.int yy, .int 5]) (rest := [.int (nI ((9 * r) + 4)), .ref ar]) hK (c_L_low l (x := yy) (n := 5) (by decide) (by decide)) (gk_gS q_12_9 q_12_10 q_10_12 q_12_11) ⟨by decide +kernel, by decide +kernel, by decide +kernel⟩ ⟨(Nat.le_of_ble_eq_true rfl), (Nat.le_of_ble_eq_true rfl)⟩ hP hS rfl hl.1 rfl (Nat.le_of_ble_eq_true rfl) dL_acts_340 ⟨(Nat.le_of_ble_eq_true rfl), (Nat.le_of_ble_eq_true rfl)⟩ (fun v G1 H locs hw hP hS => ?_)
  obtain ⟨⟨j_1, hj_1, rfl⟩, hG9⟩ := hw
  rw [hG9] at hP
  refine W.eq (g2 := F0 m 343 ls [.int (nI j_1), .int (nI ((9 * r) + 4)), .ref ar]) rfl ?_
  refine gk_iast hK.1 hK.2.2.1.1 hP hS 0 (lw_get hW (k := 0) rfl) rfl (i := nI ((9 * r) + 4)) (vp_in_nI (n := (9 * r) + 4) (N := 27) (by omega) (by decide)) dL_acts_343 (fun H locs hP hS => ?_)
  rw [show (nI ((9 * r) + 4) : Int32).toNatClampNeg = (9 * r) + 4 from nI_clamp (n := (9 * r) + 4) (by omega)] at hP
  obtain ⟨g_2, hg_2⟩ : ∃ z, z = upd rr ((9 * r) + 4) (nI j_1) := ⟨_, rfl⟩
  have hW : lw y (gk_up G ar (rp_i (ly_k y 0) 27 g_2)) td ru fr hf S hp td ru fr hf S2 hp2 [(ar, 27, g_2), (af, 20, ff), (ac, 1, cc)] := lw_set hW (k := 0) rfl g_2
  have hP : gk_P (ly_D y) A (gk_up G ar (rp_i (ly_k y 0) 27 g_2)) H := by rw [hg_2]; exact hP
  obtain ⟨G_3, hG_3⟩ : ∃ z, z = gk_up G ar (rp_i (ly_k y 0) 27 g_2) := ⟨_, rfl⟩
  have hP : gk_P (ly_D y) A G_3 H := by rw [hG_3]; exact hP
  have hW : lw y G_3 td ru fr hf S hp td ru fr hf S2 hp2 [(ar, 27, g_2), (af, 20, ff), (ac, 1, cc)] := by rw [hG_3]; exact hW
  have hlr5 : lr g_2 (rp_u2 ru r 5 (nI j_1)) := by rw [hg_2]; exact lr_set hlr hr (k := 4) (by decide) (nI j_1)
  refine lv_aload_n hK.1.1 hK.1.2.1 dL_acts_344 rfl (lv_at hl 3 rfl) ?_
  refine lv_iload hK.1.1 hK.1.2.1 dL_acts_345 (lv_at hl 0 rfl) ?_
  refine lv_iconst (v := 5) hK.1.1 hK.1.2.1 dL_acts_347 (by decide) ?_
  refine lv_iadd hK.1.1 hK.1.2.1 dL_acts_348 ?_
  refine W.eq (g2 := F0 m 349 ls [.int (nI ((9 * r) + 5)), .ref ar]) (by rw [show (nI (9 * r)) + 5 = nI ((9 * r) + 5) from nI_add _ _]) ?_
  refine lv_iload hK.1.1 hK.1.2.1 dL_acts_349 (lv_at hl 7 rfl) ?_
  refine lv_iconst (v := 3) hK.1.1 hK.1.2.1 dL_acts_351 (by decide) ?_
  refine lv_ishr hK.1.1 hK.1.2.1 dL_acts_352 ?_
  refine lv_iconst (v := 2) hK.1.1 hK.1.2.1 dL_acts_353 (by decide) ?_
  refine gk_callS0 (n := 2) (As := [.int (yy >>> (3 &&& 31)), .int 2]) (rest := [.int (nI ((9 * r) + 5)), .ref ar]) hK (c_L_low l (x := (yy >>> (3 &&& 31))) (n := 2) (by decide) (by decide)) (gk_gS q_12_9 q_12_10 q_10_12 q_12_11) ⟨by decide +kernel, by decide +kernel, by decide +kernel⟩ ⟨(Nat.le_of_ble_eq_true rfl), (Nat.le_of_ble_eq_true rfl)⟩ hP hS rfl hl.1 rfl (Nat.le_of_ble_eq_true rfl) dL_acts_354 ⟨(Nat.le_of_ble_eq_true rfl), (Nat.le_of_ble_eq_true rfl)⟩ (fun v G1 H locs hw hP hS => ?_)
  obtain ⟨⟨j_4, hj_4, rfl⟩, hG9⟩ := hw
  rw [hG9] at hP
  refine W.eq (g2 := F0 m 357 ls [.int (nI j_4), .int (nI ((9 * r) + 5)), .ref ar]) rfl ?_
  have J375 : ∀ (gr : Int32) (ls : Array Slot) (H : Heap) (locs : List Loc), rg_in gr 0 1000 → gk_P (ly_D y) A G_3 H → va_S A s.heap H locs → lv_has ls 14 [(11, .int (nI (9 * r))), (0, .ref (ly_a y 0)), (1, .ref (ly_a (ly_sw y) 0)), (2, .ref ar), (3, .ref af), (4, .ref ac), (5, .int xx), (6, .int yy), (7, .int (nI kd)), (8, .int (nI f)), (9, .int (nI h)), (10, .int (nI r))] → W p l e { frames := 11, cells := 112, slots := 30100, locals := 400 } s m [.ref (ly_a y 0), .ref (ly_a (ly_sw y) 0), .ref ar, .ref af, .ref ac, .int xx, .int yy].toArray below meth c H locs ((0 + 0) + 0) ((0 + 0) + 0) (MQ below (gk_Q y A (fun v G1 => v = some (.int 1) ∧ lj y G1 ar af ac (N + 1))) [.ref (ly_a y 0), .ref (ly_a (ly_sw y) 0), .ref ar, .ref af, .ref ac, .int xx, .int yy].toArray s 112 30100 A) (F0 m 375 ls [.int gr, .int (nI ((9 * r) + 5)), .ref ar]) := by
    intro gr ls H locs hgr hP hS hl
    refine gk_iast hK.1 hK.2.2.1.1 hP hS 0 (lw_get hW (k := 0) rfl) rfl (i := nI ((9 * r) + 5)) (vp_in_nI (n := (9 * r) + 5) (N := 27) (by omega) (by decide)) dL_acts_375 (fun H locs hP hS => ?_)
    rw [show (nI ((9 * r) + 5) : Int32).toNatClampNeg = (9 * r) + 5 from nI_clamp (n := (9 * r) + 5) (by omega)] at hP
    obtain ⟨g_5, hg_5⟩ : ∃ z, z = upd g_2 ((9 * r) + 5) gr := ⟨_, rfl⟩
    have hW : lw y (gk_up G_3 ar (rp_i (ly_k y 0) 27 g_5)) td ru fr hf S hp td ru fr hf S2 hp2 [(ar, 27, g_5), (af, 20, ff), (ac, 1, cc)] := lw_set hW (k := 0) rfl g_5
    have hP : gk_P (ly_D y) A (gk_up G_3 ar (rp_i (ly_k y 0) 27 g_5)) H := by rw [hg_5]; exact hP
    obtain ⟨G_6, hG_6⟩ : ∃ z, z = gk_up G_3 ar (rp_i (ly_k y 0) 27 g_5) := ⟨_, rfl⟩
    have hP : gk_P (ly_D y) A G_6 H := by rw [hG_6]; exact hP
    have hW : lw y G_6 td ru fr hf S hp td ru fr hf S2 hp2 [(ar, 27, g_5), (af, 20, ff), (ac, 1, cc)] := by rw [hG_6]; exact hW
    have hlr6 : lr g_5 (rp_u2 (rp_u2 ru r 5 (nI j_1)) r 6 gr) := by rw [hg_5]; exact lr_set hlr5 hr (k := 5) (by decide) gr
    refine lv_aload_n hK.1.1 hK.1.2.1 dL_acts_376 rfl (lv_at hl 3 rfl) ?_
    refine lv_iload hK.1.1 hK.1.2.1 dL_acts_377 (lv_at hl 0 rfl) ?_
    refine lv_bipush (v := 6) hK.1.1 hK.1.2.1 dL_acts_379 (by decide) ?_
    refine lv_iadd hK.1.1 hK.1.2.1 dL_acts_381 ?_
    refine W.eq (g2 := F0 m 382 ls [.int (nI ((9 * r) + 6)), .ref ar]) (by rw [show (nI (9 * r)) + 6 = nI ((9 * r) + 6) from nI_add _ _]) ?_
    refine lv_iload hK.1.1 hK.1.2.1 dL_acts_382 (lv_at hl 7 rfl) ?_
    refine lv_bipush (v := 9) hK.1.1 hK.1.2.1 dL_acts_384 (by decide) ?_
    refine lv_ishr hK.1.1 hK.1.2.1 dL_acts_386 ?_
    refine lv_iconst (v := 2) hK.1.1 hK.1.2.1 dL_acts_387 (by decide) ?_
    refine gk_callS0 (n := 2) (As := [.int (yy >>> (9 &&& 31)), .int 2]) (rest := [.int (nI ((9 * r) + 6)), .ref ar]) hK (c_L_low l (x := (yy >>> (9 &&& 31))) (n := 2) (by decide) (by decide)) (gk_gS q_12_9 q_12_10 q_10_12 q_12_11) ⟨by decide +kernel, by decide +kernel, by decide +kernel⟩ ⟨(Nat.le_of_ble_eq_true rfl), (Nat.le_of_ble_eq_true rfl)⟩ hP hS rfl hl.1 rfl (Nat.le_of_ble_eq_true rfl) dL_acts_388 ⟨(Nat.le_of_ble_eq_true rfl), (Nat.le_of_ble_eq_true rfl)⟩ (fun v G1 H locs hw hP hS => ?_)
    obtain ⟨⟨j_7, hj_7, rfl⟩, hG9⟩ := hw
    rw [hG9] at hP
    refine W.eq (g2 := F0 m 391 ls [.int (nI j_7), .int (nI ((9 * r) + 6)), .ref ar]) rfl ?_
    refine gk_iast hK.1 hK.2.2.1.1 hP hS 0 (lw_get hW (k := 0) rfl) rfl (i := nI ((9 * r) + 6)) (vp_in_nI (n := (9 * r) + 6) (N := 27) (by omega) (by decide)) dL_acts_391 (fun H locs hP hS => ?_)
    rw [show (nI ((9 * r) + 6) : Int32).toNatClampNeg = (9 * r) + 6 from nI_clamp (n := (9 * r) + 6) (by omega)] at hP
    obtain ⟨g_8, hg_8⟩ : ∃ z, z = upd g_5 ((9 * r) + 6) (nI j_7) := ⟨_, rfl⟩
    have hW : lw y (gk_up G_6 ar (rp_i (ly_k y 0) 27 g_8)) td ru fr hf S hp td ru fr hf S2 hp2 [(ar, 27, g_8), (af, 20, ff), (ac, 1, cc)] := lw_set hW (k := 0) rfl g_8
    have hP : gk_P (ly_D y) A (gk_up G_6 ar (rp_i (ly_k y 0) 27 g_8)) H := by rw [hg_8]; exact hP
    obtain ⟨G_9, hG_9⟩ : ∃ z, z = gk_up G_6 ar (rp_i (ly_k y 0) 27 g_8) := ⟨_, rfl⟩
    have hP : gk_P (ly_D y) A G_9 H := by rw [hG_9]; exact hP
    have hW : lw y G_9 td ru fr hf S hp td ru fr hf S2 hp2 [(ar, 27, g_8), (af, 20, ff), (ac, 1, cc)] := by rw [hG_9]; exact hW
    have hlr7 : lr g_8 (rp_u2 (rp_u2 (rp_u2 ru r 5 (nI j_1)) r 6 gr) r 7 (nI j_7)) := by rw [hg_8]; exact lr_set hlr6 hr (k := 6) (by decide) (nI j_7)
    refine lv_aload_n hK.1.1 hK.1.2.1 dL_acts_392 rfl (lv_at hl 3 rfl) ?_
    refine lv_iload hK.1.1 hK.1.2.1 dL_acts_393 (lv_at hl 0 rfl) ?_
    refine lv_bipush (v := 7) hK.1.1 hK.1.2.1 dL_acts_395 (by decide) ?_
    refine lv_iadd hK.1.1 hK.1.2.1 dL_acts_397 ?_
    refine W.eq (g2 := F0 m 398 ls [.int (nI ((9 * r) + 7)), .ref ar]) (by rw [show (nI (9 * r)) + 7 = nI ((9 * r) + 7) from nI_add _ _]) ?_
    refine lv_iload hK.1.1 hK.1.2.1 dL_acts_398 (lv_at hl 7 rfl) ?_
    refine lv_bipush (v := 10) hK.1.1 hK.1.2.1 dL_acts_400 (by decide) ?_
    refine lv_ishr hK.1.1 hK.1.2.1 dL_acts_402 ?_
    refine lv_iconst (v := 2) hK.1.1 hK.1.2.1 dL_acts_403 (by decide) ?_
    refine gk_callS0 (n := 2) (As := [.int (yy >>> (10 &&& 31)), .int 2]) (rest := [.int (nI ((9 * r) + 7)), .ref ar]) hK (c_L_low l (x := (yy >>> (10 &&& 31))) (n := 2) (by decide) (by decide)) (gk_gS q_12_9 q_12_10 q_10_12 q_12_11) ⟨by decide +kernel, by decide +kernel, by decide +kernel⟩ ⟨(Nat.le_of_ble_eq_true rfl), (Nat.le_of_ble_eq_true rfl)⟩ hP hS rfl hl.1 rfl (Nat.le_of_ble_eq_true rfl) dL_acts_404 ⟨(Nat.le_of_ble_eq_true rfl), (Nat.le_of_ble_eq_true rfl)⟩ (fun v G1 H locs hw hP hS => ?_)
    obtain ⟨⟨j_10, hj_10, rfl⟩, hG9⟩ := hw
    rw [hG9] at hP
    refine W.eq (g2 := F0 m 407 ls [.int (nI j_10), .int (nI ((9 * r) + 7)), .ref ar]) rfl ?_
    refine gk_iast hK.1 hK.2.2.1.1 hP hS 0 (lw_get hW (k := 0) rfl) rfl (i := nI ((9 * r) + 7)) (vp_in_nI (n := (9 * r) + 7) (N := 27) (by omega) (by decide)) dL_acts_407 (fun H locs hP hS => ?_)
    rw [show (nI ((9 * r) + 7) : Int32).toNatClampNeg = (9 * r) + 7 from nI_clamp (n := (9 * r) + 7) (by omega)] at hP
    obtain ⟨g_11, hg_11⟩ : ∃ z, z = upd g_8 ((9 * r) + 7) (nI j_10) := ⟨_, rfl⟩
    have hW : lw y (gk_up G_9 ar (rp_i (ly_k y 0) 27 g_11)) td ru fr hf S hp td ru fr hf S2 hp2 [(ar, 27, g_11), (af, 20, ff), (ac, 1, cc)] := lw_set hW (k := 0) rfl g_11
    have hP : gk_P (ly_D y) A (gk_up G_9 ar (rp_i (ly_k y 0) 27 g_11)) H := by rw [hg_11]; exact hP
    obtain ⟨G_12, hG_12⟩ : ∃ z, z = gk_up G_9 ar (rp_i (ly_k y 0) 27 g_11) := ⟨_, rfl⟩
    have hP : gk_P (ly_D y) A G_12 H := by rw [hG_12]; exact hP
    have hW : lw y G_12 td ru fr hf S hp td ru fr hf S2 hp2 [(ar, 27, g_11), (af, 20, ff), (ac, 1, cc)] := by rw [hG_12]; exact hW
    have hlr8 : lr g_11 (rp_u2 (rp_u2 (rp_u2 (rp_u2 ru r 5 (nI j_1)) r 6 gr) r 7 (nI j_7)) r 8 (nI j_10)) := by rw [hg_11]; exact lr_set hlr7 hr (k := 7) (by decide) (nI j_10)
    refine lv_aload_n hK.1.1 hK.1.2.1 dL_acts_408 rfl (lv_at hl 3 rfl) ?_
    refine lv_iload hK.1.1 hK.1.2.1 dL_acts_409 (lv_at hl 0 rfl) ?_
    refine lv_bipush (v := 8) hK.1.1 hK.1.2.1 dL_acts_411 (by decide) ?_
    refine lv_iadd hK.1.1 hK.1.2.1 dL_acts_413 ?_
    refine W.eq (g2 := F0 m 414 ls [.int (nI ((9 * r) + 8)), .ref ar]) (by rw [show (nI (9 * r)) + 8 = nI ((9 * r) + 8) from nI_add _ _]) ?_
    refine lv_iload hK.1.1 hK.1.2.1 dL_acts_414 (lv_at hl 7 rfl) ?_
    refine lv_bipush (v := 11) hK.1.1 hK.1.2.1 dL_acts_416 (by decide) ?_
    refine lv_ishr hK.1.1 hK.1.2.1 dL_acts_418 ?_
    refine lv_iconst (v := 2) hK.1.1 hK.1.2.1 dL_acts_419 (by decide) ?_
    refine gk_callS0 (n := 2) (As := [.int (yy >>> (11 &&& 31)), .int 2]) (rest := [.int (nI ((9 * r) + 8)), .ref ar]) hK (c_L_low l (x := (yy >>> (11 &&& 31))) (n := 2) (by decide) (by decide)) (gk_gS q_12_9 q_12_10 q_10_12 q_12_11) ⟨by decide +kernel, by decide +kernel, by decide +kernel⟩ ⟨(Nat.le_of_ble_eq_true rfl), (Nat.le_of_ble_eq_true rfl)⟩ hP hS rfl hl.1 rfl (Nat.le_of_ble_eq_true rfl) dL_acts_420 ⟨(Nat.le_of_ble_eq_true rfl), (Nat.le_of_ble_eq_true rfl)⟩ (fun v G1 H locs hw hP hS => ?_)
    obtain ⟨⟨j_13, hj_13, rfl⟩, hG9⟩ := hw
    rw [hG9] at hP
    refine W.eq (g2 := F0 m 423 ls [.int (nI j_13), .int (nI ((9 * r) + 8)), .ref ar]) rfl ?_
    refine gk_iast hK.1 hK.2.2.1.1 hP hS 0 (lw_get hW (k := 0) rfl) rfl (i := nI ((9 * r) + 8)) (vp_in_nI (n := (9 * r) + 8) (N := 27) (by omega) (by decide)) dL_acts_423 (fun H locs hP hS => ?_)
    rw [show (nI ((9 * r) + 8) : Int32).toNatClampNeg = (9 * r) + 8 from nI_clamp (n := (9 * r) + 8) (by omega)] at hP
    obtain ⟨g_14, hg_14⟩ : ∃ z, z = upd g_11 ((9 * r) + 8) (nI j_13) := ⟨_, rfl⟩
    have hW : lw y (gk_up G_12 ar (rp_i (ly_k y 0) 27 g_14)) td ru fr hf S hp td ru fr hf S2 hp2 [(ar, 27, g_14), (af, 20, ff), (ac, 1, cc)] := lw_set hW (k := 0) rfl g_14
    have hP : gk_P (ly_D y) A (gk_up G_12 ar (rp_i (ly_k y 0) 27 g_14)) H := by rw [hg_14]; exact hP
    obtain ⟨G_15, hG_15⟩ : ∃ z, z = gk_up G_12 ar (rp_i (ly_k y 0) 27 g_14) := ⟨_, rfl⟩
    have hP : gk_P (ly_D y) A G_15 H := by rw [hG_15]; exact hP
    have hW : lw y G_15 td ru fr hf S hp td ru fr hf S2 hp2 [(ar, 27, g_14), (af, 20, ff), (ac, 1, cc)] := by rw [hG_15]; exact hW
    have hlr9 : lr g_14 (rp_u2 (rp_u2 (rp_u2 (rp_u2 (rp_u2 ru r 5 (nI j_1)) r 6 gr) r 7 (nI j_7)) r 8 (nI j_10)) r 9 (nI j_13)) := by rw [hg_14]; exact lr_set hlr8 hr (k := 8) (by decide) (nI j_13)
    refine lv_aload_n hK.1.1 hK.1.2.1 dL_acts_424 rfl (lv_at hl 1 rfl) ?_
    refine lv_iload hK.1.1 hK.1.2.1 dL_acts_425 (lv_at hl 11 rfl) ?_
    refine lv_aload_n hK.1.1 hK.1.2.1 dL_acts_427 rfl (lv_at hl 3 rfl) ?_
    refine lv_iload hK.1.1 hK.1.2.1 dL_acts_428 (lv_at hl 0 rfl) ?_
    refine lv_iconst (v := 4) hK.1.1 hK.1.2.1 dL_acts_430 (by decide) ?_
    refine lv_iadd hK.1.1 hK.1.2.1 dL_acts_431 ?_
    refine W.eq (g2 := F0 m 432 ls [.int (nI ((9 * r) + 4)), .ref ar, .int (nI r), .ref (ly_a y 0)]) (by rw [show (nI (9 * r)) + 4 = nI ((9 * r) + 4) from nI_add _ _]) ?_
    refine gk_iald hK.1 hK.2.2.1.1 hP 0 (lw_get hW (k := 0) rfl) rfl (i := nI ((9 * r) + 4)) (vp_in_nI (n := (9 * r) + 4) (N := 27) (by omega) (by decide)) dL_acts_432 ?_
    refine W.eq (g2 := F0 m 433 ls [.int (nI j_1), .int (nI r), .ref (ly_a y 0)]) (by rw [show g_14 (nI ((9 * r) + 4)).toNatClampNeg = nI j_1 from by rw [show (nI ((9 * r) + 4) : Int32).toNatClampNeg = (9 * r) + 4 from nI_clamp (n := (9 * r) + 4) (by omega)]; exact ((show g_14 ((9 * r) + 4) = (rp_u2 (rp_u2 (rp_u2 (rp_u2 (rp_u2 ru r 5 (nI j_1)) r 6 gr) r 7 (nI j_7)) r 8 (nI j_10)) r 9 (nI j_13)) r 5 from hlr9 r hr 4 (by decide)).trans (by simp [rp_u2]))]) ?_
    refine lv_aload_n hK.1.1 hK.1.2.1 dL_acts_433 rfl (lv_at hl 3 rfl) ?_
    refine lv_iload hK.1.1 hK.1.2.1 dL_acts_434 (lv_at hl 0 rfl) ?_
    refine lv_iconst (v := 5) hK.1.1 hK.1.2.1 dL_acts_436 (by decide) ?_
    refine lv_iadd hK.1.1 hK.1.2.1 dL_acts_437 ?_
    refine W.eq (g2 := F0 m 438 ls [.int (nI ((9 * r) + 5)), .ref ar, .int (nI j_1), .int (nI r), .ref (ly_a y 0)]) (by rw [show (nI (9 * r)) + 5 = nI ((9 * r) + 5) from nI_add _ _]) ?_
    refine gk_iald hK.1 hK.2.2.1.1 hP 0 (lw_get hW (k := 0) rfl) rfl (i := nI ((9 * r) + 5)) (vp_in_nI (n := (9 * r) + 5) (N := 27) (by omega) (by decide)) dL_acts_438 ?_
    refine W.eq (g2 := F0 m 439 ls [.int gr, .int (nI j_1), .int (nI r), .ref (ly_a y 0)]) (by rw [show g_14 (nI ((9 * r) + 5)).toNatClampNeg = gr from by rw [show (nI ((9 * r) + 5) : Int32).toNatClampNeg = (9 * r) + 5 from nI_clamp (n := (9 * r) + 5) (by omega)]; exact ((show g_14 ((9 * r) + 5) = (rp_u2 (rp_u2 (rp_u2 (rp_u2 (rp_u2 ru r 5 (nI j_1)) r 6 gr) r 7 (nI j_7)) r 8 (nI j_10)) r 9 (nI j_13)) r 6 from hlr9 r hr 5 (by decide)).trans (by simp [rp_u2]))]) ?_
    refine lv_aload_n hK.1.1 hK.1.2.1 dL_acts_439 rfl (lv_at hl 3 rfl) ?_
    refine lv_iload hK.1.1 hK.1.2.1 dL_acts_440 (lv_at hl 0 rfl) ?_
    refine lv_bipush (v := 6) hK.1.1 hK.1.2.1 dL_acts_442 (by decide) ?_
    refine lv_iadd hK.1.1 hK.1.2.1 dL_acts_444 ?_
    refine W.eq (g2 := F0 m 445 ls [.int (nI ((9 * r) + 6)), .ref ar, .int gr, .int (nI j_1), .int (nI r), .ref (ly_a y 0)]) (by rw [show (nI (9 * r)) + 6 = nI ((9 * r) + 6) from nI_add _ _]) ?_
    refine gk_iald hK.1 hK.2.2.1.1 hP 0 (lw_get hW (k := 0) rfl) rfl (i := nI ((9 * r) + 6)) (vp_in_nI (n := (9 * r) + 6) (N := 27) (by omega) (by decide)) dL_acts_445 ?_
    refine W.eq (g2 := F0 m 446 ls [.int (nI j_7), .int gr, .int (nI j_1), .int (nI r), .ref (ly_a y 0)]) (by rw [show g_14 (nI ((9 * r) + 6)).toNatClampNeg = nI j_7 from by rw [show (nI ((9 * r) + 6) : Int32).toNatClampNeg = (9 * r) + 6 from nI_clamp (n := (9 * r) + 6) (by omega)]; exact ((show g_14 ((9 * r) + 6) = (rp_u2 (rp_u2 (rp_u2 (rp_u2 (rp_u2 ru r 5 (nI j_1)) r 6 gr) r 7 (nI j_7)) r 8 (nI j_10)) r 9 (nI j_13)) r 7 from hlr9 r hr 6 (by decide)).trans (by simp [rp_u2]))]) ?_
    refine lv_iconst (v := 1) hK.1.1 hK.1.2.1 dL_acts_446 (by decide) ?_
    have J455 : ∀ (ls : Array Slot) (H : Heap) (locs : List Loc), gk_P (ly_D y) A G_15 H → va_S A s.heap H locs → lv_has ls 14 [(11, .int (nI (9 * r))), (0, .ref (ly_a y 0)), (1, .ref (ly_a (ly_sw y) 0)), (2, .ref ar), (3, .ref af), (4, .ref ac), (5, .int xx), (6, .int yy), (7, .int (nI kd)), (8, .int (nI f)), (9, .int (nI h)), (10, .int (nI r))] → W p l e { frames := 11, cells := 112, slots := 30100, locals := 400 } s m [.ref (ly_a y 0), .ref (ly_a (ly_sw y) 0), .ref ar, .ref af, .ref ac, .int xx, .int yy].toArray below meth c H locs (((((0 + 0) + 0) + 0) + 0) + 0) (((((0 + 0) + 0) + 0) + 0) + 0) (MQ below (gk_Q y A (fun v G1 => v = some (.int 1) ∧ lj y G1 ar af ac (N + 1))) [.ref (ly_a y 0), .ref (ly_a (ly_sw y) 0), .ref ar, .ref af, .ref ac, .int xx, .int yy].toArray s 112 30100 A) (F0 m 455 ls [.int (nI j_7), .int gr, .int (nI j_1), .int (nI r), .ref (ly_a y 0)]) := by
      intro ls H locs hP hS hl
      refine lv_aload_n hK.1.1 hK.1.2.1 dL_acts_455 rfl (lv_at hl 3 rfl) ?_
      refine lv_iload hK.1.1 hK.1.2.1 dL_acts_456 (lv_at hl 0 rfl) ?_
      refine lv_bipush (v := 7) hK.1.1 hK.1.2.1 dL_acts_458 (by decide) ?_
      refine lv_iadd hK.1.1 hK.1.2.1 dL_acts_460 ?_
      refine W.eq (g2 := F0 m 461 ls [.int (nI ((9 * r) + 7)), .ref ar, .int (nI j_7), .int gr, .int (nI j_1), .int (nI r), .ref (ly_a y 0)]) (by rw [show (nI (9 * r)) + 7 = nI ((9 * r) + 7) from nI_add _ _]) ?_
      refine gk_iald hK.1 hK.2.2.1.1 hP 0 (lw_get hW (k := 0) rfl) rfl (i := nI ((9 * r) + 7)) (vp_in_nI (n := (9 * r) + 7) (N := 27) (by omega) (by decide)) dL_acts_461 ?_
      refine W.eq (g2 := F0 m 462 ls [.int (nI j_10), .int (nI j_7), .int gr, .int (nI j_1), .int (nI r), .ref (ly_a y 0)]) (by rw [show g_14 (nI ((9 * r) + 7)).toNatClampNeg = nI j_10 from by rw [show (nI ((9 * r) + 7) : Int32).toNatClampNeg = (9 * r) + 7 from nI_clamp (n := (9 * r) + 7) (by omega)]; exact ((show g_14 ((9 * r) + 7) = (rp_u2 (rp_u2 (rp_u2 (rp_u2 (rp_u2 ru r 5 (nI j_1)) r 6 gr) r 7 (nI j_7)) r 8 (nI j_10)) r 9 (nI j_13)) r 8 from hlr9 r hr 7 (by decide)).trans (by simp [rp_u2]))]) ?_
      refine lv_iconst (v := 1) hK.1.1 hK.1.2.1 dL_acts_462 (by decide) ?_
      have J471 : ∀ (ls : Array Slot) (H : Heap) (locs : List Loc), gk_P (ly_D y) A G_15 H → va_S A s.heap H locs → lv_has ls 14 [(11, .int (nI (9 * r))), (0, .ref (ly_a y 0)), (1, .ref (ly_a (ly_sw y) 0)), (2, .ref ar), (3, .ref af), (4, .ref ac), (5, .int xx), (6, .int yy), (7, .int (nI kd)), (8, .int (nI f)), (9, .int (nI h)), (10, .int (nI r))] → W p l e { frames := 11, cells := 112, slots := 30100, locals := 400 } s m [.ref (ly_a y 0), .ref (ly_a (ly_sw y) 0), .ref ar, .ref af, .ref ac, .int xx, .int yy].toArray below meth c H locs (((((0 + 0) + 0) + 0) + 0) + 0) (((((0 + 0) + 0) + 0) + 0) + 0) (MQ below (gk_Q y A (fun v G1 => v = some (.int 1) ∧ lj y G1 ar af ac (N + 1))) [.ref (ly_a y 0), .ref (ly_a (ly_sw y) 0), .ref ar, .ref af, .ref ac, .int xx, .int yy].toArray s 112 30100 A) (F0 m 471 ls [.int (nI j_10), .int (nI j_7), .int gr, .int (nI j_1), .int (nI r), .ref (ly_a y 0)]) := by
        intro ls H locs hP hS hl
        refine lv_aload_n hK.1.1 hK.1.2.1 dL_acts_471 rfl (lv_at hl 3 rfl) ?_
        refine lv_iload hK.1.1 hK.1.2.1 dL_acts_472 (lv_at hl 0 rfl) ?_
        refine lv_bipush (v := 8) hK.1.1 hK.1.2.1 dL_acts_474 (by decide) ?_
        refine lv_iadd hK.1.1 hK.1.2.1 dL_acts_476 ?_
        refine W.eq (g2 := F0 m 477 ls [.int (nI ((9 * r) + 8)), .ref ar, .int (nI j_10), .int (nI j_7), .int gr, .int (nI j_1), .int (nI r), .ref (ly_a y 0)]) (by rw [show (nI (9 * r)) + 8 = nI ((9 * r) + 8) from nI_add _ _]) ?_
        refine gk_iald hK.1 hK.2.2.1.1 hP 0 (lw_get hW (k := 0) rfl) rfl (i := nI ((9 * r) + 8)) (vp_in_nI (n := (9 * r) + 8) (N := 27) (by omega) (by decide)) dL_acts_477 ?_
        refine W.eq (g2 := F0 m 478 ls [.int (nI j_13), .int (nI j_10), .int (nI j_7), .int gr, .int (nI j_1), .int (nI r), .ref (ly_a y 0)]) (by rw [show g_14 (nI ((9 * r) + 8)).toNatClampNeg = nI j_13 from by rw [show (nI ((9 * r) + 8) : Int32).toNatClampNeg = (9 * r) + 8 from nI_clamp (n := (9 * r) + 8) (by omega)]; exact ((show g_14 ((9 * r) + 8) = (rp_u2 (rp_u2 (rp_u2 (rp_u2 (rp_u2 ru r 5 (nI j_1)) r 6 gr) r 7 (nI j_7)) r 8 (nI j_10)) r 9 (nI j_13)) r 9 from hlr9 r hr 8 (by decide)).trans (by simp [rp_u2]))]) ?_
        refine lv_iconst (v := 1) hK.1.1 hK.1.2.1 dL_acts_478 (by decide) ?_
        have J487 : ∀ (ls : Array Slot) (H : Heap) (locs : List Loc), gk_P (ly_D y) A G_15 H → va_S A s.heap H locs → lv_has ls 14 [(11, .int (nI (9 * r))), (0, .ref (ly_a y 0)), (1, .ref (ly_a (ly_sw y) 0)), (2, .ref ar), (3, .ref af), (4, .ref ac), (5, .int xx), (6, .int yy), (7, .int (nI kd)), (8, .int (nI f)), (9, .int (nI h)), (10, .int (nI r))] → W p l e { frames := 11, cells := 112, slots := 30100, locals := 400 } s m [.ref (ly_a y 0), .ref (ly_a (ly_sw y) 0), .ref ar, .ref af, .ref ac, .int xx, .int yy].toArray below meth c H locs (((((0 + 0) + 0) + 0) + 0) + 0) (((((0 + 0) + 0) + 0) + 0) + 0) (MQ below (gk_Q y A (fun v G1 => v = some (.int 1) ∧ lj y G1 ar af ac (N + 1))) [.ref (ly_a y 0), .ref (ly_a (ly_sw y) 0), .ref ar, .ref af, .ref ac, .int xx, .int yy].toArray s 112 30100 A) (F0 m 487 ls [.int (nI j_13), .int (nI j_10), .int (nI j_7), .int gr, .int (nI j_1), .int (nI r), .ref (ly_a y 0)]) := by
          intro ls H locs hP hS hl
          refine gk_callSW (n := 7) (As := [.ref (ly_a y 0), .int (nI r), .int (nI j_1), .int gr, .int (nI j_7), .int (nI j_10), .int (nI j_13)]) (rest := []) hK (co_setOld hfl hW hr ⟨rg_n (c := 0) (b := 10) (by have := hj_1; omega) (by decide) (Nat.zero_le _), hgr⟩ (bit01 hj_7) (bit01 hj_10) (bit01 hj_13)) (gk_gS q_13_6 q_13_7 q_10_12 q_13_8) ⟨by decide +kernel, by decide +kernel, by decide +kernel⟩ ⟨(Nat.le_of_ble_eq_true rfl), (Nat.le_of_ble_eq_true rfl)⟩ hP hS rfl hl.1 rfl (Nat.le_of_ble_eq_true rfl) dL_acts_487 ⟨(Nat.le_of_ble_eq_true rfl), (Nat.le_of_ble_eq_true rfl)⟩ (fun v G_16 H locs hw hP hS => ?_)
          obtain ⟨rfl, hW⟩ := hw
          refine W.eq (g2 := F0 m 490 ls [.int 0]) rfl ?_
          have hW : lw y G_16 td (rp_u2 (rp_u2 (rp_u2 (rp_u2 (rp_u2 ru r 5 (nI j_1)) r 6 gr) r 7 (nI j_7)) r 8 (nI j_10)) r 9 (nI j_13)) fr hf S hp td ru fr hf S2 hp2 [(ar, 27, g_14), (af, 20, ff), (ac, 1, cc)] := hW
          refine lv_if_ne (tgt := 497) hK.1.1 hK.1.2.1 dL_acts_490 (by decide) (fun c => absurd rfl c) (fun _ => ?_)
          refine lv_iconst (v := 1) hK.1.1 hK.1.2.1 dL_acts_493 (by decide) ?_
          refine lv_goto (tgt := 498) hK.1.1 hK.1.2.1 dL_acts_494 (by decide) ?_
          refine lv_istore (lv' := [(12, .int 1), (11, .int (nI (9 * r))), (0, .ref (ly_a y 0)), (1, .ref (ly_a (ly_sw y) 0)), (2, .ref ar), (3, .ref af), (4, .ref ac), (5, .int xx), (6, .int yy), (7, .int (nI kd)), (8, .int (nI f)), (9, .int (nI h)), (10, .int (nI r))]) hK.1.1 hK.1.2.1 dL_acts_498 hl (by decide) rfl (fun ls hl => ?_)
          refine lv_iload hK.1.1 hK.1.2.1 dL_acts_500 (lv_at hl 0 rfl) ?_
          refine lv_if_eq (tgt := 629) hK.1.1 hK.1.2.1 dL_acts_502 (by decide) (fun c => absurd c (by decide)) (fun _ => ?_)
          refine lv_aload_n hK.1.1 hK.1.2.1 dL_acts_505 rfl (lv_at hl 3 rfl) ?_
          refine lv_iload hK.1.1 hK.1.2.1 dL_acts_506 (lv_at hl 12 rfl) ?_
          refine lv_aload_n hK.1.1 hK.1.2.1 dL_acts_508 rfl (lv_at hl 4 rfl) ?_
          refine lv_iload hK.1.1 hK.1.2.1 dL_acts_509 (lv_at hl 1 rfl) ?_
          refine lv_iconst (v := 4) hK.1.1 hK.1.2.1 dL_acts_511 (by decide) ?_
          refine lv_iadd hK.1.1 hK.1.2.1 dL_acts_512 ?_
          refine W.eq (g2 := F0 m 513 ls [.int (nI ((9 * r) + 4)), .ref ar, .int (nI r), .ref (ly_a (ly_sw y) 0)]) (by rw [show (nI (9 * r)) + 4 = nI ((9 * r) + 4) from nI_add _ _]) ?_
          refine gk_iald hK.1 hK.2.2.1.1 hP 0 (lw_get hW (k := 0) rfl) rfl (i := nI ((9 * r) + 4)) (vp_in_nI (n := (9 * r) + 4) (N := 27) (by omega) (by decide)) dL_acts_513 ?_
          refine W.eq (g2 := F0 m 514 ls [.int (nI j_1), .int (nI r), .ref (ly_a (ly_sw y) 0)]) (by rw [show g_14 (nI ((9 * r) + 4)).toNatClampNeg = nI j_1 from by rw [show (nI ((9 * r) + 4) : Int32).toNatClampNeg = (9 * r) + 4 from nI_clamp (n := (9 * r) + 4) (by omega)]; exact ((show g_14 ((9 * r) + 4) = (rp_u2 (rp_u2 (rp_u2 (rp_u2 (rp_u2 ru r 5 (nI j_1)) r 6 gr) r 7 (nI j_7)) r 8 (nI j_10)) r 9 (nI j_13)) r 5 from hlr9 r hr 4 (by decide)).trans (by simp [rp_u2]))]) ?_
          refine lv_aload_n hK.1.1 hK.1.2.1 dL_acts_514 rfl (lv_at hl 4 rfl) ?_
          refine lv_iload hK.1.1 hK.1.2.1 dL_acts_515 (lv_at hl 1 rfl) ?_
          refine lv_iconst (v := 5) hK.1.1 hK.1.2.1 dL_acts_517 (by decide) ?_
          refine lv_iadd hK.1.1 hK.1.2.1 dL_acts_518 ?_
          refine W.eq (g2 := F0 m 519 ls [.int (nI ((9 * r) + 5)), .ref ar, .int (nI j_1), .int (nI r), .ref (ly_a (ly_sw y) 0)]) (by rw [show (nI (9 * r)) + 5 = nI ((9 * r) + 5) from nI_add _ _]) ?_
          refine gk_iald hK.1 hK.2.2.1.1 hP 0 (lw_get hW (k := 0) rfl) rfl (i := nI ((9 * r) + 5)) (vp_in_nI (n := (9 * r) + 5) (N := 27) (by omega) (by decide)) dL_acts_519 ?_
          refine W.eq (g2 := F0 m 520 ls [.int gr, .int (nI j_1), .int (nI r), .ref (ly_a (ly_sw y) 0)]) (by rw [show g_14 (nI ((9 * r) + 5)).toNatClampNeg = gr from by rw [show (nI ((9 * r) + 5) : Int32).toNatClampNeg = (9 * r) + 5 from nI_clamp (n := (9 * r) + 5) (by omega)]; exact ((show g_14 ((9 * r) + 5) = (rp_u2 (rp_u2 (rp_u2 (rp_u2 (rp_u2 ru r 5 (nI j_1)) r 6 gr) r 7 (nI j_7)) r 8 (nI j_10)) r 9 (nI j_13)) r 6 from hlr9 r hr 5 (by decide)).trans (by simp [rp_u2]))]) ?_
          refine lv_aload_n hK.1.1 hK.1.2.1 dL_acts_520 rfl (lv_at hl 4 rfl) ?_
          refine lv_iload hK.1.1 hK.1.2.1 dL_acts_521 (lv_at hl 1 rfl) ?_
          refine lv_bipush (v := 6) hK.1.1 hK.1.2.1 dL_acts_523 (by decide) ?_
          refine lv_iadd hK.1.1 hK.1.2.1 dL_acts_525 ?_
          refine W.eq (g2 := F0 m 526 ls [.int (nI ((9 * r) + 6)), .ref ar, .int gr, .int (nI j_1), .int (nI r), .ref (ly_a (ly_sw y) 0)]) (by rw [show (nI (9 * r)) + 6 = nI ((9 * r) + 6) from nI_add _ _]) ?_
          refine gk_iald hK.1 hK.2.2.1.1 hP 0 (lw_get hW (k := 0) rfl) rfl (i := nI ((9 * r) + 6)) (vp_in_nI (n := (9 * r) + 6) (N := 27) (by omega) (by decide)) dL_acts_526 ?_
          refine W.eq (g2 := F0 m 527 ls [.int (nI j_7), .int gr, .int (nI j_1), .int (nI r), .ref (ly_a (ly_sw y) 0)]) (by rw [show g_14 (nI ((9 * r) + 6)).toNatClampNeg = nI j_7 from by rw [show (nI ((9 * r) + 6) : Int32).toNatClampNeg = (9 * r) + 6 from nI_clamp (n := (9 * r) + 6) (by omega)]; exact ((show g_14 ((9 * r) + 6) = (rp_u2 (rp_u2 (rp_u2 (rp_u2 (rp_u2 ru r 5 (nI j_1)) r 6 gr) r 7 (nI j_7)) r 8 (nI j_10)) r 9 (nI j_13)) r 7 from hlr9 r hr 6 (by decide)).trans (by simp [rp_u2]))]) ?_
          refine lv_iconst (v := 1) hK.1.1 hK.1.2.1 dL_acts_527 (by decide) ?_
          have J536 : ∀ (ls : Array Slot) (H : Heap) (locs : List Loc), gk_P (ly_D y) A G_16 H → va_S A s.heap H locs → lv_has ls 14 [(12, .int 1), (11, .int (nI (9 * r))), (0, .ref (ly_a y 0)), (1, .ref (ly_a (ly_sw y) 0)), (2, .ref ar), (3, .ref af), (4, .ref ac), (5, .int xx), (6, .int yy), (7, .int (nI kd)), (8, .int (nI f)), (9, .int (nI h)), (10, .int (nI r))] → W p l e { frames := 11, cells := 112, slots := 30100, locals := 400 } s m [.ref (ly_a y 0), .ref (ly_a (ly_sw y) 0), .ref ar, .ref af, .ref ac, .int xx, .int yy].toArray below meth c H locs ((((((0 + 0) + 0) + 0) + 0) + 0) + 16) ((((((0 + 0) + 0) + 0) + 0) + 0) + 128) (MQ below (gk_Q y A (fun v G1 => v = some (.int 1) ∧ lj y G1 ar af ac (N + 1))) [.ref (ly_a y 0), .ref (ly_a (ly_sw y) 0), .ref ar, .ref af, .ref ac, .int xx, .int yy].toArray s 112 30100 A) (F0 m 536 ls [.int (nI j_7), .int gr, .int (nI j_1), .int (nI r), .ref (ly_a (ly_sw y) 0)]) := by
            intro ls H locs hP hS hl
            refine lv_aload_n hK.1.1 hK.1.2.1 dL_acts_536 rfl (lv_at hl 4 rfl) ?_
            refine lv_iload hK.1.1 hK.1.2.1 dL_acts_537 (lv_at hl 1 rfl) ?_
            refine lv_bipush (v := 7) hK.1.1 hK.1.2.1 dL_acts_539 (by decide) ?_
            refine lv_iadd hK.1.1 hK.1.2.1 dL_acts_541 ?_
            refine W.eq (g2 := F0 m 542 ls [.int (nI ((9 * r) + 7)), .ref ar, .int (nI j_7), .int gr, .int (nI j_1), .int (nI r), .ref (ly_a (ly_sw y) 0)]) (by rw [show (nI (9 * r)) + 7 = nI ((9 * r) + 7) from nI_add _ _]) ?_
            refine gk_iald hK.1 hK.2.2.1.1 hP 0 (lw_get hW (k := 0) rfl) rfl (i := nI ((9 * r) + 7)) (vp_in_nI (n := (9 * r) + 7) (N := 27) (by omega) (by decide)) dL_acts_542 ?_
            refine W.eq (g2 := F0 m 543 ls [.int (nI j_10), .int (nI j_7), .int gr, .int (nI j_1), .int (nI r), .ref (ly_a (ly_sw y) 0)]) (by rw [show g_14 (nI ((9 * r) + 7)).toNatClampNeg = nI j_10 from by rw [show (nI ((9 * r) + 7) : Int32).toNatClampNeg = (9 * r) + 7 from nI_clamp (n := (9 * r) + 7) (by omega)]; exact ((show g_14 ((9 * r) + 7) = (rp_u2 (rp_u2 (rp_u2 (rp_u2 (rp_u2 ru r 5 (nI j_1)) r 6 gr) r 7 (nI j_7)) r 8 (nI j_10)) r 9 (nI j_13)) r 8 from hlr9 r hr 7 (by decide)).trans (by simp [rp_u2]))]) ?_
            refine lv_iconst (v := 1) hK.1.1 hK.1.2.1 dL_acts_543 (by decide) ?_
            have J552 : ∀ (ls : Array Slot) (H : Heap) (locs : List Loc), gk_P (ly_D y) A G_16 H → va_S A s.heap H locs → lv_has ls 14 [(12, .int 1), (11, .int (nI (9 * r))), (0, .ref (ly_a y 0)), (1, .ref (ly_a (ly_sw y) 0)), (2, .ref ar), (3, .ref af), (4, .ref ac), (5, .int xx), (6, .int yy), (7, .int (nI kd)), (8, .int (nI f)), (9, .int (nI h)), (10, .int (nI r))] → W p l e { frames := 11, cells := 112, slots := 30100, locals := 400 } s m [.ref (ly_a y 0), .ref (ly_a (ly_sw y) 0), .ref ar, .ref af, .ref ac, .int xx, .int yy].toArray below meth c H locs ((((((0 + 0) + 0) + 0) + 0) + 0) + 16) ((((((0 + 0) + 0) + 0) + 0) + 0) + 128) (MQ below (gk_Q y A (fun v G1 => v = some (.int 1) ∧ lj y G1 ar af ac (N + 1))) [.ref (ly_a y 0), .ref (ly_a (ly_sw y) 0), .ref ar, .ref af, .ref ac, .int xx, .int yy].toArray s 112 30100 A) (F0 m 552 ls [.int (nI j_10), .int (nI j_7), .int gr, .int (nI j_1), .int (nI r), .ref (ly_a (ly_sw y) 0)]) := by
              intro ls H locs hP hS hl
              refine lv_aload_n hK.1.1 hK.1.2.1 dL_acts_552 rfl (lv_at hl 4 rfl) ?_
              refine lv_iload hK.1.1 hK.1.2.1 dL_acts_553 (lv_at hl 1 rfl) ?_
              refine lv_bipush (v := 8) hK.1.1 hK.1.2.1 dL_acts_555 (by decide) ?_
              refine lv_iadd hK.1.1 hK.1.2.1 dL_acts_557 ?_
              refine W.eq (g2 := F0 m 558 ls [.int (nI ((9 * r) + 8)), .ref ar, .int (nI j_10), .int (nI j_7), .int gr, .int (nI j_1), .int (nI r), .ref (ly_a (ly_sw y) 0)]) (by rw [show (nI (9 * r)) + 8 = nI ((9 * r) + 8) from nI_add _ _]) ?_
              refine gk_iald hK.1 hK.2.2.1.1 hP 0 (lw_get hW (k := 0) rfl) rfl (i := nI ((9 * r) + 8)) (vp_in_nI (n := (9 * r) + 8) (N := 27) (by omega) (by decide)) dL_acts_558 ?_
              refine W.eq (g2 := F0 m 559 ls [.int (nI j_13), .int (nI j_10), .int (nI j_7), .int gr, .int (nI j_1), .int (nI r), .ref (ly_a (ly_sw y) 0)]) (by rw [show g_14 (nI ((9 * r) + 8)).toNatClampNeg = nI j_13 from by rw [show (nI ((9 * r) + 8) : Int32).toNatClampNeg = (9 * r) + 8 from nI_clamp (n := (9 * r) + 8) (by omega)]; exact ((show g_14 ((9 * r) + 8) = (rp_u2 (rp_u2 (rp_u2 (rp_u2 (rp_u2 ru r 5 (nI j_1)) r 6 gr) r 7 (nI j_7)) r 8 (nI j_10)) r 9 (nI j_13)) r 9 from hlr9 r hr 8 (by decide)).trans (by simp [rp_u2]))]) ?_
              refine lv_iconst (v := 1) hK.1.1 hK.1.2.1 dL_acts_559 (by decide) ?_
              have J568 : ∀ (ls : Array Slot) (H : Heap) (locs : List Loc), gk_P (ly_D y) A G_16 H → va_S A s.heap H locs → lv_has ls 14 [(12, .int 1), (11, .int (nI (9 * r))), (0, .ref (ly_a y 0)), (1, .ref (ly_a (ly_sw y) 0)), (2, .ref ar), (3, .ref af), (4, .ref ac), (5, .int xx), (6, .int yy), (7, .int (nI kd)), (8, .int (nI f)), (9, .int (nI h)), (10, .int (nI r))] → W p l e { frames := 11, cells := 112, slots := 30100, locals := 400 } s m [.ref (ly_a y 0), .ref (ly_a (ly_sw y) 0), .ref ar, .ref af, .ref ac, .int xx, .int yy].toArray below meth c H locs ((((((0 + 0) + 0) + 0) + 0) + 0) + 16) ((((((0 + 0) + 0) + 0) + 0) + 0) + 128) (MQ below (gk_Q y A (fun v G1 => v = some (.int 1) ∧ lj y G1 ar af ac (N + 1))) [.ref (ly_a y 0), .ref (ly_a (ly_sw y) 0), .ref ar, .ref af, .ref ac, .int xx, .int yy].toArray s 112 30100 A) (F0 m 568 ls [.int (nI j_13), .int (nI j_10), .int (nI j_7), .int gr, .int (nI j_1), .int (nI r), .ref (ly_a (ly_sw y) 0)]) := by
                intro ls H locs hP hS hl
                refine gk_callSW (n := 7) (As := [.ref (ly_a (ly_sw y) 0), .int (nI r), .int (nI j_1), .int gr, .int (nI j_7), .int (nI j_10), .int (nI j_13)]) (rest := []) hK (ct_setOld hfl hW hr ⟨rg_n (c := 0) (b := 10) (by have := hj_1; omega) (by decide) (Nat.zero_le _), hgr⟩ (bit01 hj_7) (bit01 hj_10) (bit01 hj_13)) (gk_gS q_13_6 q_13_7 q_10_12 q_13_8) ⟨by decide +kernel, by decide +kernel, by decide +kernel⟩ ⟨(Nat.le_of_ble_eq_true rfl), (Nat.le_of_ble_eq_true rfl)⟩ hP hS rfl hl.1 rfl (Nat.le_of_ble_eq_true rfl) dL_acts_568 ⟨(Nat.le_of_ble_eq_true rfl), (Nat.le_of_ble_eq_true rfl)⟩ (fun v G_17 H locs hw hP hS => ?_)
                obtain ⟨rfl, hW⟩ := hw
                refine W.eq (g2 := F0 m 571 ls [.int 0]) rfl ?_
                have hW : lw y G_17 td (rp_u2 (rp_u2 (rp_u2 (rp_u2 (rp_u2 ru r 5 (nI j_1)) r 6 gr) r 7 (nI j_7)) r 8 (nI j_10)) r 9 (nI j_13)) fr hf S hp td (rp_u2 (rp_u2 (rp_u2 (rp_u2 (rp_u2 ru r 5 (nI j_1)) r 6 gr) r 7 (nI j_7)) r 8 (nI j_10)) r 9 (nI j_13)) fr hf S2 hp2 [(ar, 27, g_14), (af, 20, ff), (ac, 1, cc)] := hW
                refine lv_if_ne (tgt := 629) hK.1.1 hK.1.2.1 dL_acts_571 (by decide) (fun c => absurd rfl c) (fun _ => ?_)
                refine lv_aload_n hK.1.1 hK.1.2.1 dL_acts_574 rfl (lv_at hl 2 rfl) ?_
                refine lv_iconst (v := (-1)) hK.1.1 hK.1.2.1 dL_acts_575 (by decide) ?_
                refine lv_bipush (v := 11) hK.1.1 hK.1.2.1 dL_acts_576 (by decide) ?_
                refine lv_iconst (v := 0) hK.1.1 hK.1.2.1 dL_acts_578 (by decide) ?_
                refine lv_iconst (v := 1) hK.1.1 hK.1.2.1 dL_acts_579 (by decide) ?_
                refine lv_iconst (v := 1) hK.1.1 hK.1.2.1 dL_acts_580 (by decide) ?_
                refine lv_iconst (v := 1) hK.1.1 hK.1.2.1 dL_acts_581 (by decide) ?_
                refine gk_callSW (n := 7) (As := [.ref (ly_a y 0), .int (-1), .int 11, .int 0, .int 1, .int 1, .int 1]) (rest := []) hK (cb0_setOld hfl (lw_o hW) (i := -1) (kp := 11) (gr := 0) (b1 := 1) (b2 := 1) (b3 := 1) (Or.inl (by decide)) (Or.inr rfl) (Or.inr rfl) (Or.inr rfl)) (gk_gS q_13_6 q_13_7 q_10_12 q_13_8) ⟨by decide +kernel, by decide +kernel, by decide +kernel⟩ ⟨(Nat.le_of_ble_eq_true rfl), (Nat.le_of_ble_eq_true rfl)⟩ hP hS rfl hl.1 rfl (Nat.le_of_ble_eq_true rfl) dL_acts_582 ⟨(Nat.le_of_ble_eq_true rfl), (Nat.le_of_ble_eq_true rfl)⟩ (fun v G1 H locs hw hP hS => ?_)
                obtain ⟨rfl, hG9⟩ := hw
                rw [hG9] at hP
                refine W.eq (g2 := F0 m 585 ls [.int (-1000001)]) rfl ?_
                refine lv_ldc (v := (-1000001)) hK.1.1 hK.1.2.1 hK.1.2.2.1 (hK.1.2.2.2 _ q_1_4) dL_acts_585 ?_
                refine lv_icmp_ne (tgt := 629) hK.1.1 hK.1.2.1 dL_acts_587 (by decide) (fun c => absurd rfl c) (fun _ => ?_)
                refine lv_aload_n hK.1.1 hK.1.2.1 dL_acts_590 rfl (lv_at hl 2 rfl) ?_
                refine lv_iload hK.1.1 hK.1.2.1 dL_acts_591 (lv_at hl 12 rfl) ?_
                refine lv_bipush (v := 11) hK.1.1 hK.1.2.1 dL_acts_593 (by decide) ?_
                refine lv_iconst (v := 0) hK.1.1 hK.1.2.1 dL_acts_595 (by decide) ?_
                refine lv_iconst (v := 1) hK.1.1 hK.1.2.1 dL_acts_596 (by decide) ?_
                refine lv_iconst (v := 1) hK.1.1 hK.1.2.1 dL_acts_597 (by decide) ?_
                refine lv_iconst (v := 1) hK.1.1 hK.1.2.1 dL_acts_598 (by decide) ?_
                refine gk_callSW (n := 7) (As := [.ref (ly_a y 0), .int (nI r), .int 11, .int 0, .int 1, .int 1, .int 1]) (rest := []) hK (cb1_setOld hfl (lw_o hW) (i := nI r) (kp := 11) (gr := 0) (b1 := 1) (b2 := 1) (b3 := 1) (rg_out_no hr (by decide)) (fun q => absurd q.1.2 (by decide)) (Or.inr rfl) (Or.inr rfl) (Or.inr rfl)) (gk_gS q_13_6 q_13_7 q_10_12 q_13_8) ⟨by decide +kernel, by decide +kernel, by decide +kernel⟩ ⟨(Nat.le_of_ble_eq_true rfl), (Nat.le_of_ble_eq_true rfl)⟩ hP hS rfl hl.1 rfl (Nat.le_of_ble_eq_true rfl) dL_acts_599 ⟨(Nat.le_of_ble_eq_true rfl), (Nat.le_of_ble_eq_true rfl)⟩ (fun v G1 H locs hw hP hS => ?_)
                obtain ⟨rfl, hG9⟩ := hw
                rw [hG9] at hP
                refine W.eq (g2 := F0 m 602 ls [.int (-1000002)]) rfl ?_
                refine lv_ldc (v := (-1000002)) hK.1.1 hK.1.2.1 hK.1.2.2.1 (hK.1.2.2.2 _ q_12_7) dL_acts_602 ?_
                refine lv_icmp_ne (tgt := 629) hK.1.1 hK.1.2.1 dL_acts_604 (by decide) (fun c => absurd rfl c) (fun _ => ?_)
                refine lv_aload_n hK.1.1 hK.1.2.1 dL_acts_607 rfl (lv_at hl 2 rfl) ?_
                refine lv_iload hK.1.1 hK.1.2.1 dL_acts_608 (lv_at hl 12 rfl) ?_
                refine lv_iconst (v := 0) hK.1.1 hK.1.2.1 dL_acts_610 (by decide) ?_
                refine lv_sipush (v := 1001) hK.1.1 hK.1.2.1 dL_acts_611 (by decide) ?_
                refine lv_iconst (v := 1) hK.1.1 hK.1.2.1 dL_acts_614 (by decide) ?_
                refine lv_iconst (v := 1) hK.1.1 hK.1.2.1 dL_acts_615 (by decide) ?_
                refine lv_iconst (v := 1) hK.1.1 hK.1.2.1 dL_acts_616 (by decide) ?_
                refine gk_callSW (n := 7) (As := [.ref (ly_a y 0), .int (nI r), .int 0, .int 1001, .int 1, .int 1, .int 1]) (rest := []) hK (cb1_setOld hfl (lw_o hW) (i := nI r) (kp := 0) (gr := 1001) (b1 := 1) (b2 := 1) (b3 := 1) (rg_out_no hr (by decide)) (fun q => absurd q.2.2 (by decide)) (Or.inr rfl) (Or.inr rfl) (Or.inr rfl)) (gk_gS q_13_6 q_13_7 q_10_12 q_13_8) ⟨by decide +kernel, by decide +kernel, by decide +kernel⟩ ⟨(Nat.le_of_ble_eq_true rfl), (Nat.le_of_ble_eq_true rfl)⟩ hP hS rfl hl.1 rfl (Nat.le_of_ble_eq_true rfl) dL_acts_617 ⟨(Nat.le_of_ble_eq_true rfl), (Nat.le_of_ble_eq_true rfl)⟩ (fun v G1 H locs hw hP hS => ?_)
                obtain ⟨rfl, hG9⟩ := hw
                rw [hG9] at hP
                refine W.eq (g2 := F0 m 620 ls [.int (-1000002)]) rfl ?_
                refine lv_ldc (v := (-1000002)) hK.1.1 hK.1.2.1 hK.1.2.2.1 (hK.1.2.2.2 _ q_12_7) dL_acts_620 ?_
                refine lv_icmp_ne (tgt := 629) hK.1.1 hK.1.2.1 dL_acts_622 (by decide) (fun c => absurd rfl c) (fun _ => ?_)
                refine lv_iconst (v := 1) hK.1.1 hK.1.2.1 dL_acts_625 (by decide) ?_
                refine lv_goto (tgt := 630) hK.1.1 hK.1.2.1 dL_acts_626 (by decide) ?_
                exact gk_zret0 hK.1 hret (by first | decide | exact (rp_nz (by first | assumption | (simp; done))).1) hlk hP hS (Nat.le_of_ble_eq_true rfl) (Nat.le_of_ble_eq_true rfl) dL_acts_630 ⟨rfl, ed, td, (rp_u2 (rp_u2 (rp_u2 (rp_u2 (rp_u2 ru r 5 (nI j_1)) r 6 gr) r 7 (nI j_7)) r 8 (nI j_10)) r 9 (nI j_13)), fr, hf, S, hp, S2, hp2, tt, _, _, _, hW, ⟨_, iv_setOld hI ⟨rg_n (c := 0) (b := 10) (by have := hj_1; omega) (by decide) (Nat.zero_le _), hgr⟩ (bit01 hj_7) (bit01 hj_10) (bit01 hj_13)⟩, ⟨_, iv_setOld hI2 ⟨rg_n (c := 0) (b := 10) (by have := hj_1; omega) (by decide) (Nat.zero_le _), hgr⟩ (bit01 hj_7) (bit01 hj_10) (bit01 hj_13)⟩, ⟨_, hrn⟩, hlr9, hlf, hcc⟩
              refine lv_icmp_ne (tgt := 567) hK.1.1 hK.1.2.1 dL_acts_560 (by decide) (fun c560_18 => ?_) (fun c560_18 => ?_)
              · have h9 : j_13 = 0 := by have h8 : j_13 ≠ 1 := fun q => c560_18 (by rw [q]; rfl); have := hj_13; omega
                refine lv_iconst (v := 0) hK.1.1 hK.1.2.1 dL_acts_567 (by decide) ?_
                refine W.eq (g2 := F0 m 568 ls [.int (nI j_13), .int (nI j_10), .int (nI j_7), .int gr, .int (nI j_1), .int (nI r), .ref (ly_a (ly_sw y) 0)]) (by rw [show 0 = nI j_13 from (by rw [h9]; rfl)]) ?_
                exact J568 ls _ _ hP hS (lv_sub hl [0, 1, 2, 3, 4, 5, 6, 7, 8, 9, 10, 11, 12] rfl)
              · have h9 : j_13 = 1 := (nI_eq (b := 1) (by have := hj_13; omega) (by decide)).mp c560_18
                refine lv_iconst (v := 1) hK.1.1 hK.1.2.1 dL_acts_563 (by decide) ?_
                refine lv_goto (tgt := 568) hK.1.1 hK.1.2.1 dL_acts_564 (by decide) ?_
                refine W.eq (g2 := F0 m 568 ls [.int (nI j_13), .int (nI j_10), .int (nI j_7), .int gr, .int (nI j_1), .int (nI r), .ref (ly_a (ly_sw y) 0)]) (by rw [show 1 = nI j_13 from (by rw [h9]; rfl)]) ?_
                exact J568 ls _ _ hP hS (lv_sub hl [0, 1, 2, 3, 4, 5, 6, 7, 8, 9, 10, 11, 12] rfl)
            refine lv_icmp_ne (tgt := 551) hK.1.1 hK.1.2.1 dL_acts_544 (by decide) (fun c544_19 => ?_) (fun c544_19 => ?_)
            · have h9 : j_10 = 0 := by have h8 : j_10 ≠ 1 := fun q => c544_19 (by rw [q]; rfl); have := hj_10; omega
              refine lv_iconst (v := 0) hK.1.1 hK.1.2.1 dL_acts_551 (by decide) ?_
              refine W.eq (g2 := F0 m 552 ls [.int (nI j_10), .int (nI j_7), .int gr, .int (nI j_1), .int (nI r), .ref (ly_a (ly_sw y) 0)]) (by rw [show 0 = nI j_10 from (by rw [h9]; rfl)]) ?_
              exact J552 ls _ _ hP hS (lv_sub hl [0, 1, 2, 3, 4, 5, 6, 7, 8, 9, 10, 11, 12] rfl)
            · have h9 : j_10 = 1 := (nI_eq (b := 1) (by have := hj_10; omega) (by decide)).mp c544_19
              refine lv_iconst (v := 1) hK.1.1 hK.1.2.1 dL_acts_547 (by decide) ?_
              refine lv_goto (tgt := 552) hK.1.1 hK.1.2.1 dL_acts_548 (by decide) ?_
              refine W.eq (g2 := F0 m 552 ls [.int (nI j_10), .int (nI j_7), .int gr, .int (nI j_1), .int (nI r), .ref (ly_a (ly_sw y) 0)]) (by rw [show 1 = nI j_10 from (by rw [h9]; rfl)]) ?_
              exact J552 ls _ _ hP hS (lv_sub hl [0, 1, 2, 3, 4, 5, 6, 7, 8, 9, 10, 11, 12] rfl)
          refine lv_icmp_ne (tgt := 535) hK.1.1 hK.1.2.1 dL_acts_528 (by decide) (fun c528_20 => ?_) (fun c528_20 => ?_)
          · have h9 : j_7 = 0 := by have h8 : j_7 ≠ 1 := fun q => c528_20 (by rw [q]; rfl); have := hj_7; omega
            refine lv_iconst (v := 0) hK.1.1 hK.1.2.1 dL_acts_535 (by decide) ?_
            refine W.eq (g2 := F0 m 536 ls [.int (nI j_7), .int gr, .int (nI j_1), .int (nI r), .ref (ly_a (ly_sw y) 0)]) (by rw [show 0 = nI j_7 from (by rw [h9]; rfl)]) ?_
            exact J536 ls _ _ hP hS (lv_sub hl [0, 1, 2, 3, 4, 5, 6, 7, 8, 9, 10, 11, 12] rfl)
          · have h9 : j_7 = 1 := (nI_eq (b := 1) (by have := hj_7; omega) (by decide)).mp c528_20
            refine lv_iconst (v := 1) hK.1.1 hK.1.2.1 dL_acts_531 (by decide) ?_
            refine lv_goto (tgt := 536) hK.1.1 hK.1.2.1 dL_acts_532 (by decide) ?_
            refine W.eq (g2 := F0 m 536 ls [.int (nI j_7), .int gr, .int (nI j_1), .int (nI r), .ref (ly_a (ly_sw y) 0)]) (by rw [show 1 = nI j_7 from (by rw [h9]; rfl)]) ?_
            exact J536 ls _ _ hP hS (lv_sub hl [0, 1, 2, 3, 4, 5, 6, 7, 8, 9, 10, 11, 12] rfl)
        refine lv_icmp_ne (tgt := 486) hK.1.1 hK.1.2.1 dL_acts_479 (by decide) (fun c479_21 => ?_) (fun c479_21 => ?_)
        · have h9 : j_13 = 0 := by have h8 : j_13 ≠ 1 := fun q => c479_21 (by rw [q]; rfl); have := hj_13; omega
          refine lv_iconst (v := 0) hK.1.1 hK.1.2.1 dL_acts_486 (by decide) ?_
          refine W.eq (g2 := F0 m 487 ls [.int (nI j_13), .int (nI j_10), .int (nI j_7), .int gr, .int (nI j_1), .int (nI r), .ref (ly_a y 0)]) (by rw [show 0 = nI j_13 from (by rw [h9]; rfl)]) ?_
          exact J487 ls _ _ hP hS (lv_sub hl [0, 1, 2, 3, 4, 5, 6, 7, 8, 9, 10, 11] rfl)
        · have h9 : j_13 = 1 := (nI_eq (b := 1) (by have := hj_13; omega) (by decide)).mp c479_21
          refine lv_iconst (v := 1) hK.1.1 hK.1.2.1 dL_acts_482 (by decide) ?_
          refine lv_goto (tgt := 487) hK.1.1 hK.1.2.1 dL_acts_483 (by decide) ?_
          refine W.eq (g2 := F0 m 487 ls [.int (nI j_13), .int (nI j_10), .int (nI j_7), .int gr, .int (nI j_1), .int (nI r), .ref (ly_a y 0)]) (by rw [show 1 = nI j_13 from (by rw [h9]; rfl)]) ?_
          exact J487 ls _ _ hP hS (lv_sub hl [0, 1, 2, 3, 4, 5, 6, 7, 8, 9, 10, 11] rfl)
      refine lv_icmp_ne (tgt := 470) hK.1.1 hK.1.2.1 dL_acts_463 (by decide) (fun c463_22 => ?_) (fun c463_22 => ?_)
      · have h9 : j_10 = 0 := by have h8 : j_10 ≠ 1 := fun q => c463_22 (by rw [q]; rfl); have := hj_10; omega
        refine lv_iconst (v := 0) hK.1.1 hK.1.2.1 dL_acts_470 (by decide) ?_
        refine W.eq (g2 := F0 m 471 ls [.int (nI j_10), .int (nI j_7), .int gr, .int (nI j_1), .int (nI r), .ref (ly_a y 0)]) (by rw [show 0 = nI j_10 from (by rw [h9]; rfl)]) ?_
        exact J471 ls _ _ hP hS (lv_sub hl [0, 1, 2, 3, 4, 5, 6, 7, 8, 9, 10, 11] rfl)
      · have h9 : j_10 = 1 := (nI_eq (b := 1) (by have := hj_10; omega) (by decide)).mp c463_22
        refine lv_iconst (v := 1) hK.1.1 hK.1.2.1 dL_acts_466 (by decide) ?_
        refine lv_goto (tgt := 471) hK.1.1 hK.1.2.1 dL_acts_467 (by decide) ?_
        refine W.eq (g2 := F0 m 471 ls [.int (nI j_10), .int (nI j_7), .int gr, .int (nI j_1), .int (nI r), .ref (ly_a y 0)]) (by rw [show 1 = nI j_10 from (by rw [h9]; rfl)]) ?_
        exact J471 ls _ _ hP hS (lv_sub hl [0, 1, 2, 3, 4, 5, 6, 7, 8, 9, 10, 11] rfl)
    refine lv_icmp_ne (tgt := 454) hK.1.1 hK.1.2.1 dL_acts_447 (by decide) (fun c447_23 => ?_) (fun c447_23 => ?_)
    · have h9 : j_7 = 0 := by have h8 : j_7 ≠ 1 := fun q => c447_23 (by rw [q]; rfl); have := hj_7; omega
      refine lv_iconst (v := 0) hK.1.1 hK.1.2.1 dL_acts_454 (by decide) ?_
      refine W.eq (g2 := F0 m 455 ls [.int (nI j_7), .int gr, .int (nI j_1), .int (nI r), .ref (ly_a y 0)]) (by rw [show 0 = nI j_7 from (by rw [h9]; rfl)]) ?_
      exact J455 ls _ _ hP hS (lv_sub hl [0, 1, 2, 3, 4, 5, 6, 7, 8, 9, 10, 11] rfl)
    · have h9 : j_7 = 1 := (nI_eq (b := 1) (by have := hj_7; omega) (by decide)).mp c447_23
      refine lv_iconst (v := 1) hK.1.1 hK.1.2.1 dL_acts_450 (by decide) ?_
      refine lv_goto (tgt := 455) hK.1.1 hK.1.2.1 dL_acts_451 (by decide) ?_
      refine W.eq (g2 := F0 m 455 ls [.int (nI j_7), .int gr, .int (nI j_1), .int (nI r), .ref (ly_a y 0)]) (by rw [show 1 = nI j_7 from (by rw [h9]; rfl)]) ?_
      exact J455 ls _ _ hP hS (lv_sub hl [0, 1, 2, 3, 4, 5, 6, 7, 8, 9, 10, 11] rfl)
  refine lv_if_ne (tgt := 364) hK.1.1 hK.1.2.1 dL_acts_357 (by decide) (fun c357_24 => ?_) (fun c357_24 => ?_)
  · refine lv_iconst (v := 1) hK.1.1 hK.1.2.1 dL_acts_364 (by decide) ?_
    refine lv_iload hK.1.1 hK.1.2.1 dL_acts_365 (lv_at hl 7 rfl) ?_
    refine lv_iconst (v := 4) hK.1.1 hK.1.2.1 dL_acts_367 (by decide) ?_
    refine lv_ishr hK.1.1 hK.1.2.1 dL_acts_368 ?_
    refine lv_bipush (v := 30) hK.1.1 hK.1.2.1 dL_acts_369 (by decide) ?_
    refine gk_callS0 (n := 2) (As := [.int (yy >>> (4 &&& 31)), .int 30]) (rest := [.int 1, .int (nI ((9 * r) + 5)), .ref ar]) hK (c_L_low l (x := (yy >>> (4 &&& 31))) (n := 30) (by decide) (by decide)) (gk_gS q_12_9 q_12_10 q_10_12 q_12_11) ⟨by decide +kernel, by decide +kernel, by decide +kernel⟩ ⟨(Nat.le_of_ble_eq_true rfl), (Nat.le_of_ble_eq_true rfl)⟩ hP hS rfl hl.1 rfl (Nat.le_of_ble_eq_true rfl) dL_acts_371 ⟨(Nat.le_of_ble_eq_true rfl), (Nat.le_of_ble_eq_true rfl)⟩ (fun v G1 H locs hw hP hS => ?_)
    obtain ⟨⟨j_25, hj_25, rfl⟩, hG9⟩ := hw
    rw [hG9] at hP
    refine W.eq (g2 := F0 m 374 ls [.int (nI j_25), .int 1, .int (nI ((9 * r) + 5)), .ref ar]) rfl ?_
    refine lv_iadd hK.1.1 hK.1.2.1 dL_acts_374 ?_
    refine W.eq (g2 := F0 m 375 ls [.int (nI (1 + j_25)), .int (nI ((9 * r) + 5)), .ref ar]) (by rw [show 1 + (nI j_25) = nI (1 + j_25) from nI_add _ _]) ?_
    exact J375 (nI (1 + j_25)) ls _ _ (rg_n (c := 0) (b := 1000) (by have := hj_25; omega) (by decide) (Nat.zero_le _)) hP hS (lv_sub hl [0, 1, 2, 3, 4, 5, 6, 7, 8, 9, 10, 11] rfl)
  · refine lv_iconst (v := 0) hK.1.1 hK.1.2.1 dL_acts_360 (by decide) ?_
    refine lv_goto (tgt := 375) hK.1.1 hK.1.2.1 dL_acts_361 (by decide) ?_
    exact J375 0 ls _ _ ⟨by decide, by decide⟩ hP hS (lv_sub hl [0, 1, 2, 3, 4, 5, 6, 7, 8, 9, 10, 11] rfl)
set_option maxHeartbeats 4000000 in
set_option maxRecDepth 100000 in
theorem aw_give {ed N : Nat} {td : Int32} {ru : Nat → Nat → Int32} {fr : Nat → Nat} {hf hp hp2 : Nat → Option Nat} {S S2 : ts_T} {tt rr ff cc : Nat → Int32} {fi fi2 φ : Nat → Nat} {ar af ac : Nat} (hfl : l.stackTraces = false) (hW : lw y G td ru fr hf S hp td ru fr hf S2 hp2 [(ar, 27, rr), (af, 20, ff), (ac, 1, cc)]) (hI : iv ed N td ru fr hf S hp tt fi) (hI2 : iv ed N td ru fr hf S2 hp2 tt fi2) (hrn : rn φ S hp S2 hp2) (hlr : lr rr ru) (hlf : lf ff fr S tt) (hcc : cc 0 = td) (hN : N ≤ 110) {xx yy : Int32} {kd f h r : Nat} (f5 : f < 5) (hh : h < 4) (hr : r < 3) (hK : gk_K p s m c [.ref (ly_a y 0), .ref (ly_a (ly_sw y) 0), .ref ar, .ref af, .ref ac, .int xx, .int yy].toArray cL_acts RL 14 y A) (hret : meth.sig.returnType = some .boolean) (hlk : meth.locks = false) (hP : gk_P (ly_D y) A G H) (hS : va_S A s.heap H locs) (hl : lv_has ls 14 [(0, .ref (ly_a y 0)), (1, .ref (ly_a (ly_sw y) 0)), (2, .ref ar), (3, .ref af), (4, .ref ac), (5, .int xx), (6, .int yy), (7, .int (nI kd)), (8, .int (nI f)), (9, .int (nI h)), (10, .int (nI r))]) : W p l e { frames := 11, cells := 112, slots := 30100, locals := 400 } s m [.ref (ly_a y 0), .ref (ly_a (ly_sw y) 0), .ref ar, .ref af, .ref ac, .int xx, .int yy].toArray below meth c H locs 0 0 (MQ below (gk_Q y A (fun v G1 => v = some (.int 1) ∧ lj y G1 ar af ac (N + 1))) [.ref (ly_a y 0), .ref (ly_a (ly_sw y) 0), .ref ar, .ref af, .ref ac, .int xx, .int yy].toArray s 112 30100 A) (F0 m 637 ls []) := by
  have hN1 : N ≤ 111 := by omega
  have he9 := hI.1.2
  refine lv_aload_n hK.1.1 hK.1.2.1 dL_acts_637 rfl (lv_at hl 3 rfl) ?_
  refine lv_iconst (v := 4) hK.1.1 hK.1.2.1 dL_acts_638 (by decide) ?_
  refine lv_iload hK.1.1 hK.1.2.1 dL_acts_639 (lv_at hl 8 rfl) ?_
  refine lv_imul hK.1.1 hK.1.2.1 dL_acts_641 ?_
  refine W.eq (g2 := F0 m 642 ls [.int (nI (4 * f)), .ref af]) (by rw [show 4 * (nI f) = nI (4 * f) from pk_mul _ _]) ?_
  refine gk_iald hK.1 hK.2.2.1.1 hP 0 (lw_get hW (k := 1) rfl) rfl (i := nI (4 * f)) (vp_in_nI (n := 4 * f) (N := 20) (by omega) (by decide)) dL_acts_642 ?_
  refine W.eq (g2 := F0 m 643 ls [.int (nI (fr f))]) (by rw [show ff (nI (4 * f)).toNatClampNeg = nI (fr f) from by rw [show (nI (4 * f) : Int32).toNatClampNeg = 4 * f from nI_clamp (n := 4 * f) (by omega)]; exact (hlf f f5).1]) ?_
  refine lv_istore (lv' := [(11, .int (nI (fr f))), (0, .ref (ly_a y 0)), (1, .ref (ly_a (ly_sw y) 0)), (2, .ref ar), (3, .ref af), (4, .ref ac), (5, .int xx), (6, .int yy), (7, .int (nI kd)), (8, .int (nI f)), (9, .int (nI h)), (10, .int (nI r))]) hK.1.1 hK.1.2.1 dL_acts_643 hl (by decide) rfl (fun ls hl => ?_)
  refine lv_aload_n hK.1.1 hK.1.2.1 dL_acts_645 rfl (lv_at hl 4 rfl) ?_
  refine lv_iconst (v := 4) hK.1.1 hK.1.2.1 dL_acts_646 (by decide) ?_
  refine lv_iload hK.1.1 hK.1.2.1 dL_acts_647 (lv_at hl 9 rfl) ?_
  refine lv_imul hK.1.1 hK.1.2.1 dL_acts_649 ?_
  refine W.eq (g2 := F0 m 650 ls [.int (nI (4 * f)), .ref af]) (by rw [show 4 * (nI f) = nI (4 * f) from pk_mul _ _]) ?_
  refine lv_iload hK.1.1 hK.1.2.1 dL_acts_650 (lv_at hl 11 rfl) ?_
  refine gk_iast hK.1 hK.2.2.1.1 hP hS 0 (lw_get hW (k := 1) rfl) rfl (i := nI (4 * f)) (vp_in_nI (n := 4 * f) (N := 20) (by omega) (by decide)) dL_acts_652 (fun H locs hP hS => ?_)
  rw [show (nI (4 * f) : Int32).toNatClampNeg = 4 * f from nI_clamp (n := 4 * f) (by omega)] at hP
  obtain ⟨g_1, hg_1⟩ : ∃ z, z = upd ff (4 * f) (nI r) := ⟨_, rfl⟩
  have hW : lw y (gk_up G af (rp_i (ly_k y 0) 20 g_1)) td ru fr hf S hp td ru fr hf S2 hp2 [(ar, 27, rr), (af, 20, g_1), (ac, 1, cc)] := lw_set hW (k := 1) rfl g_1
  have hP : gk_P (ly_D y) A (gk_up G af (rp_i (ly_k y 0) 20 g_1)) H := by rw [hg_1]; exact hP
  obtain ⟨G_2, hG_2⟩ : ∃ z, z = gk_up G af (rp_i (ly_k y 0) 20 g_1) := ⟨_, rfl⟩
  have hP : gk_P (ly_D y) A G_2 H := by rw [hG_2]; exact hP
  have hW : lw y G_2 td ru fr hf S hp td ru fr hf S2 hp2 [(ar, 27, rr), (af, 20, g_1), (ac, 1, cc)] := by rw [hG_2]; exact hW
  refine lv_aload_n hK.1.1 hK.1.2.1 dL_acts_653 rfl (lv_at hl 1 rfl) ?_
  refine lv_iload hK.1.1 hK.1.2.1 dL_acts_654 (lv_at hl 9 rfl) ?_
  refine lv_iload hK.1.1 hK.1.2.1 dL_acts_656 (lv_at hl 11 rfl) ?_
  refine gk_callSW (n := 3) (As := [.ref (ly_a y 0), .int (nI f), .int (nI r)]) (rest := []) hK (co_give hfl hW f5 hr) (gk_gS q_13_13 q_13_14 q_10_12 q_13_15) ⟨by decide +kernel, by decide +kernel, by decide +kernel⟩ ⟨(Nat.le_of_ble_eq_true rfl), (Nat.le_of_ble_eq_true rfl)⟩ hP hS rfl hl.1 rfl (Nat.le_of_ble_eq_true rfl) dL_acts_658 ⟨(Nat.le_of_ble_eq_true rfl), (Nat.le_of_ble_eq_true rfl)⟩ (fun v G_3 H locs hw hP hS => ?_)
  obtain ⟨rfl, hW⟩ := hw
  refine W.eq (g2 := F0 m 661 ls [.int (nI (fr f))]) rfl ?_
  have hW : lw y G_3 td ru (va_up fr f r) hf S hp td ru fr hf S2 hp2 [(ar, 27, rr), (af, 20, g_1), (ac, 1, cc)] := hW
  refine lv_iload hK.1.1 hK.1.2.1 dL_acts_661 (lv_at hl 0 rfl) ?_
  refine lv_icmp_ne (tgt := 705) hK.1.1 hK.1.2.1 dL_acts_663 (by decide) (fun c => absurd rfl c) (fun _ => ?_)
  refine lv_aload_n hK.1.1 hK.1.2.1 dL_acts_666 rfl (lv_at hl 2 rfl) ?_
  refine lv_iload hK.1.1 hK.1.2.1 dL_acts_667 (lv_at hl 9 rfl) ?_
  refine lv_iload hK.1.1 hK.1.2.1 dL_acts_669 (lv_at hl 11 rfl) ?_
  refine gk_callSW (n := 3) (As := [.ref (ly_a (ly_sw y) 0), .int (nI f), .int (nI r)]) (rest := []) hK (ct_give hfl hW f5 hr) (gk_gS q_13_13 q_13_14 q_10_12 q_13_15) ⟨by decide +kernel, by decide +kernel, by decide +kernel⟩ ⟨(Nat.le_of_ble_eq_true rfl), (Nat.le_of_ble_eq_true rfl)⟩ hP hS rfl hl.1 rfl (Nat.le_of_ble_eq_true rfl) dL_acts_671 ⟨(Nat.le_of_ble_eq_true rfl), (Nat.le_of_ble_eq_true rfl)⟩ (fun v G_4 H locs hw hP hS => ?_)
  obtain ⟨rfl, hW⟩ := hw
  refine W.eq (g2 := F0 m 674 ls [.int (nI (fr f))]) rfl ?_
  have hW : lw y G_4 td ru (va_up fr f r) hf S hp td ru (va_up fr f r) hf S2 hp2 [(ar, 27, rr), (af, 20, g_1), (ac, 1, cc)] := hW
  refine lv_iload hK.1.1 hK.1.2.1 dL_acts_674 (lv_at hl 0 rfl) ?_
  refine lv_icmp_ne (tgt := 705) hK.1.1 hK.1.2.1 dL_acts_676 (by decide) (fun c => absurd rfl c) (fun _ => ?_)
  refine lv_aload_n hK.1.1 hK.1.2.1 dL_acts_679 rfl (lv_at hl 1 rfl) ?_
  refine lv_iconst (v := 5) hK.1.1 hK.1.2.1 dL_acts_680 (by decide) ?_
  refine lv_iconst (v := 0) hK.1.1 hK.1.2.1 dL_acts_681 (by decide) ?_
  refine gk_callSW (n := 3) (As := [.ref (ly_a y 0), .int 5, .int 0]) (rest := []) hK (cb0_give hfl (lw_o hW) (i := 5) (j := 0) (Or.inl (Or.inr (by decide)))) (gk_gS q_13_13 q_13_14 q_10_12 q_13_15) ⟨by decide +kernel, by decide +kernel, by decide +kernel⟩ ⟨(Nat.le_of_ble_eq_true rfl), (Nat.le_of_ble_eq_true rfl)⟩ hP hS rfl hl.1 rfl (Nat.le_of_ble_eq_true rfl) dL_acts_682 ⟨(Nat.le_of_ble_eq_true rfl), (Nat.le_of_ble_eq_true rfl)⟩ (fun v G1 H locs hw hP hS => ?_)
  obtain ⟨rfl, hG9⟩ := hw
  rw [hG9] at hP
  refine W.eq (g2 := F0 m 685 ls [.int (-1000001)]) rfl ?_
  refine lv_ldc (v := (-1000001)) hK.1.1 hK.1.2.1 hK.1.2.2.1 (hK.1.2.2.2 _ q_1_4) dL_acts_685 ?_
  refine lv_icmp_ne (tgt := 705) hK.1.1 hK.1.2.1 dL_acts_687 (by decide) (fun c => absurd rfl c) (fun _ => ?_)
  refine lv_aload_n hK.1.1 hK.1.2.1 dL_acts_690 rfl (lv_at hl 1 rfl) ?_
  refine lv_iconst (v := 0) hK.1.1 hK.1.2.1 dL_acts_691 (by decide) ?_
  refine lv_iconst (v := 3) hK.1.1 hK.1.2.1 dL_acts_692 (by decide) ?_
  refine gk_callSW (n := 3) (As := [.ref (ly_a y 0), .int 0, .int 3]) (rest := []) hK (cb0_give hfl (lw_o hW) (i := 0) (j := 3) (Or.inr (Or.inr (by decide)))) (gk_gS q_13_13 q_13_14 q_10_12 q_13_15) ⟨by decide +kernel, by decide +kernel, by decide +kernel⟩ ⟨(Nat.le_of_ble_eq_true rfl), (Nat.le_of_ble_eq_true rfl)⟩ hP hS rfl hl.1 rfl (Nat.le_of_ble_eq_true rfl) dL_acts_693 ⟨(Nat.le_of_ble_eq_true rfl), (Nat.le_of_ble_eq_true rfl)⟩ (fun v G1 H locs hw hP hS => ?_)
  obtain ⟨rfl, hG9⟩ := hw
  rw [hG9] at hP
  refine W.eq (g2 := F0 m 696 ls [.int (-1000001)]) rfl ?_
  refine lv_ldc (v := (-1000001)) hK.1.1 hK.1.2.1 hK.1.2.2.1 (hK.1.2.2.2 _ q_1_4) dL_acts_696 ?_
  refine lv_icmp_ne (tgt := 705) hK.1.1 hK.1.2.1 dL_acts_698 (by decide) (fun c => absurd rfl c) (fun _ => ?_)
  refine lv_iconst (v := 1) hK.1.1 hK.1.2.1 dL_acts_701 (by decide) ?_
  refine lv_goto (tgt := 706) hK.1.1 hK.1.2.1 dL_acts_702 (by decide) ?_
  exact gk_zret0 hK.1 hret (by first | decide | exact (rp_nz (by first | assumption | (simp; done))).1) hlk hP hS (Nat.le_of_ble_eq_true rfl) (Nat.le_of_ble_eq_true rfl) dL_acts_706 ⟨rfl, ed, td, ru, (va_up fr f r), hf, S, hp, S2, hp2, tt, _, _, _, hW, ⟨_, iv_give hI hr⟩, ⟨_, iv_give hI2 hr⟩, ⟨_, hrn⟩, hlr, (by rw [hg_1]; exact lf_give hlf), hcc⟩
set_option maxHeartbeats 4000000 in
set_option maxRecDepth 100000 in
theorem aw_open {ed N : Nat} {td : Int32} {ru : Nat → Nat → Int32} {fr : Nat → Nat} {hf hp hp2 : Nat → Option Nat} {S S2 : ts_T} {tt rr ff cc : Nat → Int32} {fi fi2 φ : Nat → Nat} {ar af ac : Nat} (hfl : l.stackTraces = false) (hW : lw y G td ru fr hf S hp td ru fr hf S2 hp2 [(ar, 27, rr), (af, 20, ff), (ac, 1, cc)]) (hI : iv ed N td ru fr hf S hp tt fi) (hI2 : iv ed N td ru fr hf S2 hp2 tt fi2) (hrn : rn φ S hp S2 hp2) (hlr : lr rr ru) (hlf : lf ff fr S tt) (hcc : cc 0 = td) (hN : N ≤ 110) {xx yy : Int32} {kd f h r : Nat} (f5 : f < 5) (hh : h < 4) (hr : r < 3) (hK : gk_K p s m c [.ref (ly_a y 0), .ref (ly_a (ly_sw y) 0), .ref ar, .ref af, .ref ac, .int xx, .int yy].toArray cL_acts RL 14 y A) (hret : meth.sig.returnType = some .boolean) (hlk : meth.locks = false) (hP : gk_P (ly_D y) A G H) (hS : va_S A s.heap H locs) (hl : lv_has ls 14 [(0, .ref (ly_a y 0)), (1, .ref (ly_a (ly_sw y) 0)), (2, .ref ar), (3, .ref af), (4, .ref ac), (5, .int xx), (6, .int yy), (7, .int (nI kd)), (8, .int (nI f)), (9, .int (nI h)), (10, .int (nI r))]) : W p l e { frames := 11, cells := 112, slots := 30100, locals := 400 } s m [.ref (ly_a y 0), .ref (ly_a (ly_sw y) 0), .ref ar, .ref af, .ref ac, .int xx, .int yy].toArray below meth c H locs 0 0 (MQ below (gk_Q y A (fun v G1 => v = some (.int 1) ∧ lj y G1 ar af ac (N + 1))) [.ref (ly_a y 0), .ref (ly_a (ly_sw y) 0), .ref ar, .ref af, .ref ac, .int xx, .int yy].toArray s 112 30100 A) (F0 m 714 ls []) := by
  have hN1 : N ≤ 111 := by omega
  have he9 := hI.1.2
  have hN2 : N + 1 ≤ 111 := by omega
  refine lv_aload_n hK.1.1 hK.1.2.1 dL_acts_714 rfl (lv_at hl 0 rfl) ?_
  refine lv_iload hK.1.1 hK.1.2.1 dL_acts_715 (lv_at hl 9 rfl) ?_
  refine lv_iload hK.1.1 hK.1.2.1 dL_acts_717 (lv_at hl 8 rfl) ?_
  refine gk_callSW (n := 3) (As := [.ref (ly_a y 0), .int (nI h), .int (nI f)]) (rest := []) hK (co_open hfl hW hh f5) (gk_gS q_13_21 q_13_22 q_10_12 q_13_23) ⟨by decide +kernel, by decide +kernel, by decide +kernel⟩ ⟨(Nat.le_of_ble_eq_true rfl), (Nat.le_of_ble_eq_true rfl)⟩ hP hS rfl hl.1 rfl (Nat.le_of_ble_eq_true rfl) dL_acts_719 ⟨(Nat.le_of_ble_eq_true rfl), (Nat.le_of_ble_eq_true rfl)⟩ (fun v G_1 H locs hw hP hS => ?_)
  obtain ⟨rfl, hW⟩ := hw
  refine W.eq (g2 := F0 m 722 ls [.int 0]) rfl ?_
  have hW : lw y G_1 td ru fr (va_up hf h (some f)) S (va_up hp h (some (S.1 f))) td ru fr hf S2 hp2 [(ar, 27, rr), (af, 20, ff), (ac, 1, cc)] := hW
  have hJ1 := iv_open (k := h) hI f5
  refine lv_if_ne (tgt := 776) hK.1.1 hK.1.2.1 dL_acts_722 (by decide) (fun c => absurd rfl c) (fun _ => ?_)
  refine lv_aload_n hK.1.1 hK.1.2.1 dL_acts_725 rfl (lv_at hl 1 rfl) ?_
  refine lv_iload hK.1.1 hK.1.2.1 dL_acts_726 (lv_at hl 9 rfl) ?_
  refine lv_iload hK.1.1 hK.1.2.1 dL_acts_728 (lv_at hl 8 rfl) ?_
  refine gk_callSW (n := 3) (As := [.ref (ly_a (ly_sw y) 0), .int (nI h), .int (nI f)]) (rest := []) hK (ct_open hfl hW hh f5) (gk_gS q_13_21 q_13_22 q_10_12 q_13_23) ⟨by decide +kernel, by decide +kernel, by decide +kernel⟩ ⟨(Nat.le_of_ble_eq_true rfl), (Nat.le_of_ble_eq_true rfl)⟩ hP hS rfl hl.1 rfl (Nat.le_of_ble_eq_true rfl) dL_acts_730 ⟨(Nat.le_of_ble_eq_true rfl), (Nat.le_of_ble_eq_true rfl)⟩ (fun v G_2 H locs hw hP hS => ?_)
  obtain ⟨rfl, hW⟩ := hw
  refine W.eq (g2 := F0 m 733 ls [.int 0]) rfl ?_
  have hW : lw y G_2 td ru fr (va_up hf h (some f)) S (va_up hp h (some (S.1 f))) td ru fr (va_up hf h (some f)) S2 (va_up hp2 h (some (S2.1 f))) [(ar, 27, rr), (af, 20, ff), (ac, 1, cc)] := hW
  refine lv_if_ne (tgt := 776) hK.1.1 hK.1.2.1 dL_acts_733 (by decide) (fun c => absurd rfl c) (fun _ => ?_)
  refine lv_aload_n hK.1.1 hK.1.2.1 dL_acts_736 rfl (lv_at hl 0 rfl) ?_
  refine lv_iload hK.1.1 hK.1.2.1 dL_acts_737 (lv_at hl 9 rfl) ?_
  refine gk_callSW (n := 2) (As := [.ref (ly_a y 0), .int (nI h)]) (rest := []) hK (c0_L_holds l hfl (lw_o hW) (h := h) hh (iv_Ho hJ1)) (gk_gS q_10_10 q_10_11 q_10_12 q_10_13) ⟨by decide +kernel, by decide +kernel, by decide +kernel⟩ ⟨(Nat.le_of_ble_eq_true rfl), (Nat.le_of_ble_eq_true rfl)⟩ hP hS rfl hl.1 rfl (Nat.le_of_ble_eq_true rfl) dL_acts_739 ⟨(Nat.le_of_ble_eq_true rfl), (Nat.le_of_ble_eq_true rfl)⟩ (fun v G1 H locs hw hP hS => ?_)
  obtain ⟨x9, hx9, rfl, hG9⟩ := hw
  rw [hG9] at hP
  obtain rfl := hz_eq hx9
  refine W.eq (g2 := F0 m 742 ls [.int (hz (va_up hf h (some f)) (va_up hp h (some (S.1 f))) S.2.2.2.2.1 h)]) rfl ?_
  refine W.eq (g2 := F0 m 742 ls [.int (nI (100 * f))]) (by rw [show hz (va_up hf h (some f)) (va_up hp h (some (S.1 f))) S.2.2.2.2.1 h = nI (100 * f) from (by rw [hz_some (va_up_self _ _ _) (va_up_self _ _ _), pl_no (hI.2.2.2.1 f f5).1.2.2]; rfl)]) ?_
  refine lv_bipush (v := 100) hK.1.1 hK.1.2.1 dL_acts_742 (by decide) ?_
  refine lv_iload hK.1.1 hK.1.2.1 dL_acts_744 (lv_at hl 8 rfl) ?_
  refine lv_imul hK.1.1 hK.1.2.1 dL_acts_746 ?_
  refine W.eq (g2 := F0 m 747 ls [.int (nI (100 * f)), .int (nI (100 * f))]) (by rw [show 100 * (nI f) = nI (100 * f) from pk_mul _ _]) ?_
  refine lv_icmp_ne (tgt := 776) hK.1.1 hK.1.2.1 dL_acts_747 (by decide) (fun c => absurd rfl c) (fun _ => ?_)
  refine lv_aload_n hK.1.1 hK.1.2.1 dL_acts_750 rfl (lv_at hl 0 rfl) ?_
  refine lv_iconst (v := 4) hK.1.1 hK.1.2.1 dL_acts_751 (by decide) ?_
  refine lv_iconst (v := 0) hK.1.1 hK.1.2.1 dL_acts_752 (by decide) ?_
  refine gk_callSW (n := 3) (As := [.ref (ly_a y 0), .int 4, .int 0]) (rest := []) hK (cb0_open hfl (lw_o hW) (i := 4) (j := 0) (Or.inl (Or.inr (by decide)))) (gk_gS q_13_21 q_13_22 q_10_12 q_13_23) ⟨by decide +kernel, by decide +kernel, by decide +kernel⟩ ⟨(Nat.le_of_ble_eq_true rfl), (Nat.le_of_ble_eq_true rfl)⟩ hP hS rfl hl.1 rfl (Nat.le_of_ble_eq_true rfl) dL_acts_753 ⟨(Nat.le_of_ble_eq_true rfl), (Nat.le_of_ble_eq_true rfl)⟩ (fun v G1 H locs hw hP hS => ?_)
  obtain ⟨rfl, hG9⟩ := hw
  rw [hG9] at hP
  refine W.eq (g2 := F0 m 756 ls [.int (-1000001)]) rfl ?_
  refine lv_ldc (v := (-1000001)) hK.1.1 hK.1.2.1 hK.1.2.2.1 (hK.1.2.2.2 _ q_1_4) dL_acts_756 ?_
  refine lv_icmp_ne (tgt := 776) hK.1.1 hK.1.2.1 dL_acts_758 (by decide) (fun c => absurd rfl c) (fun _ => ?_)
  refine lv_aload_n hK.1.1 hK.1.2.1 dL_acts_761 rfl (lv_at hl 0 rfl) ?_
  refine lv_iconst (v := 0) hK.1.1 hK.1.2.1 dL_acts_762 (by decide) ?_
  refine lv_iconst (v := 5) hK.1.1 hK.1.2.1 dL_acts_763 (by decide) ?_
  refine gk_callSW (n := 3) (As := [.ref (ly_a y 0), .int 0, .int 5]) (rest := []) hK (cb0_open hfl (lw_o hW) (i := 0) (j := 5) (Or.inr (Or.inr (by decide)))) (gk_gS q_13_21 q_13_22 q_10_12 q_13_23) ⟨by decide +kernel, by decide +kernel, by decide +kernel⟩ ⟨(Nat.le_of_ble_eq_true rfl), (Nat.le_of_ble_eq_true rfl)⟩ hP hS rfl hl.1 rfl (Nat.le_of_ble_eq_true rfl) dL_acts_764 ⟨(Nat.le_of_ble_eq_true rfl), (Nat.le_of_ble_eq_true rfl)⟩ (fun v G1 H locs hw hP hS => ?_)
  obtain ⟨rfl, hG9⟩ := hw
  rw [hG9] at hP
  refine W.eq (g2 := F0 m 767 ls [.int (-1000001)]) rfl ?_
  refine lv_ldc (v := (-1000001)) hK.1.1 hK.1.2.1 hK.1.2.2.1 (hK.1.2.2.2 _ q_1_4) dL_acts_767 ?_
  refine lv_icmp_ne (tgt := 776) hK.1.1 hK.1.2.1 dL_acts_769 (by decide) (fun c => absurd rfl c) (fun _ => ?_)
  refine lv_iconst (v := 1) hK.1.1 hK.1.2.1 dL_acts_772 (by decide) ?_
  refine lv_goto (tgt := 777) hK.1.1 hK.1.2.1 dL_acts_773 (by decide) ?_
  exact gk_zret0 hK.1 hret (by first | decide | exact (rp_nz (by first | assumption | (simp; done))).1) hlk hP hS (Nat.le_of_ble_eq_true rfl) (Nat.le_of_ble_eq_true rfl) dL_acts_777 ⟨rfl, ed, td, ru, fr, (va_up hf h (some f)), S, (va_up hp h (some (S.1 f))), S2, (va_up hp2 h (some (S2.1 f))), tt, _, _, _, hW, ⟨_, hJ1⟩, ⟨_, iv_open hI2 f5⟩, ⟨_, rn_open hrn f5⟩, hlr, hlf, hcc⟩
set_option maxHeartbeats 4000000 in
set_option maxRecDepth 100000 in
theorem aw_shut {ed N : Nat} {td : Int32} {ru : Nat → Nat → Int32} {fr : Nat → Nat} {hf hp hp2 : Nat → Option Nat} {S S2 : ts_T} {tt rr ff cc : Nat → Int32} {fi fi2 φ : Nat → Nat} {ar af ac : Nat} (hfl : l.stackTraces = false) (hW : lw y G td ru fr hf S hp td ru fr hf S2 hp2 [(ar, 27, rr), (af, 20, ff), (ac, 1, cc)]) (hI : iv ed N td ru fr hf S hp tt fi) (hI2 : iv ed N td ru fr hf S2 hp2 tt fi2) (hrn : rn φ S hp S2 hp2) (hlr : lr rr ru) (hlf : lf ff fr S tt) (hcc : cc 0 = td) (hN : N ≤ 110) {xx yy : Int32} {kd f h r : Nat} (f5 : f < 5) (hh : h < 4) (hr : r < 3) (hK : gk_K p s m c [.ref (ly_a y 0), .ref (ly_a (ly_sw y) 0), .ref ar, .ref af, .ref ac, .int xx, .int yy].toArray cL_acts RL 14 y A) (hret : meth.sig.returnType = some .boolean) (hlk : meth.locks = false) (hP : gk_P (ly_D y) A G H) (hS : va_S A s.heap H locs) (hl : lv_has ls 14 [(0, .ref (ly_a y 0)), (1, .ref (ly_a (ly_sw y) 0)), (2, .ref ar), (3, .ref af), (4, .ref ac), (5, .int xx), (6, .int yy), (7, .int (nI kd)), (8, .int (nI f)), (9, .int (nI h)), (10, .int (nI r))]) : W p l e { frames := 11, cells := 112, slots := 30100, locals := 400 } s m [.ref (ly_a y 0), .ref (ly_a (ly_sw y) 0), .ref ar, .ref af, .ref ac, .int xx, .int yy].toArray below meth c H locs 0 0 (MQ below (gk_Q y A (fun v G1 => v = some (.int 1) ∧ lj y G1 ar af ac (N + 1))) [.ref (ly_a y 0), .ref (ly_a (ly_sw y) 0), .ref ar, .ref af, .ref ac, .int xx, .int yy].toArray s 112 30100 A) (F0 m 785 ls []) := by
  have hN1 : N ≤ 111 := by omega
  have he9 := hI.1.2
  have hN2 : N + 1 ≤ 111 := by omega
  refine lv_aload_n hK.1.1 hK.1.2.1 dL_acts_785 rfl (lv_at hl 0 rfl) ?_
  refine lv_iload hK.1.1 hK.1.2.1 dL_acts_786 (lv_at hl 9 rfl) ?_
  refine gk_callSW (n := 2) (As := [.ref (ly_a y 0), .int (nI h)]) (rest := []) hK (c0_L_holds l hfl (lw_o hW) (h := h) hh (iv_Ho hI)) (gk_gS q_10_10 q_10_11 q_10_12 q_10_13) ⟨by decide +kernel, by decide +kernel, by decide +kernel⟩ ⟨(Nat.le_of_ble_eq_true rfl), (Nat.le_of_ble_eq_true rfl)⟩ hP hS rfl hl.1 rfl (Nat.le_of_ble_eq_true rfl) dL_acts_788 ⟨(Nat.le_of_ble_eq_true rfl), (Nat.le_of_ble_eq_true rfl)⟩ (fun v G1 H locs hw hP hS => ?_)
  obtain ⟨x9, hx9, rfl, hG9⟩ := hw
  rw [hG9] at hP
  obtain rfl := hz_eq hx9
  refine W.eq (g2 := F0 m 791 ls [.int (hz hf hp S.2.2.2.2.1 h)]) rfl ?_
  rcases iv_hz hI hN1 hh with ⟨z1, z2, z3⟩ | ⟨g, t, r9, g5, q1, q2, z1, z2, z3, z4⟩
  · refine W.eq (g2 := F0 m 791 ls [.int (-1)]) (by rw [z3]) ?_
    refine lv_istore (lv' := [(11, .int (-1)), (0, .ref (ly_a y 0)), (1, .ref (ly_a (ly_sw y) 0)), (2, .ref ar), (3, .ref af), (4, .ref ac), (5, .int xx), (6, .int yy), (7, .int (nI kd)), (8, .int (nI f)), (9, .int (nI h)), (10, .int (nI r))]) hK.1.1 hK.1.2.1 dL_acts_791 hl (by decide) rfl (fun ls hl => ?_)
    refine lv_iload hK.1.1 hK.1.2.1 dL_acts_793 (lv_at hl 7 rfl) ?_
    refine lv_iconst (v := 2) hK.1.1 hK.1.2.1 dL_acts_795 (by decide) ?_
    refine gk_callS0 (n := 2) (As := [.int yy, .int 2]) (rest := []) hK (c_L_low l (x := yy) (n := 2) (by decide) (by decide)) (gk_gS q_12_9 q_12_10 q_10_12 q_12_11) ⟨by decide +kernel, by decide +kernel, by decide +kernel⟩ ⟨(Nat.le_of_ble_eq_true rfl), (Nat.le_of_ble_eq_true rfl)⟩ hP hS rfl hl.1 rfl (Nat.le_of_ble_eq_true rfl) dL_acts_796 ⟨(Nat.le_of_ble_eq_true rfl), (Nat.le_of_ble_eq_true rfl)⟩ (fun v G1 H locs hw hP hS => ?_)
    obtain ⟨⟨j_1, hj_1, rfl⟩, hG9⟩ := hw
    rw [hG9] at hP
    refine W.eq (g2 := F0 m 799 ls [.int (nI j_1)]) rfl ?_
    refine lv_if_ne (tgt := 889) hK.1.1 hK.1.2.1 dL_acts_799 (by decide) (fun c799_2 => ?_) (fun c799_2 => ?_)
    · refine lv_iload hK.1.1 hK.1.2.1 dL_acts_889 (lv_at hl 0 rfl) ?_
      refine lv_if_ge (tgt := 899) hK.1.1 hK.1.2.1 dL_acts_891 (by decide) (fun c => absurd c (by decide)) (fun _ => ?_)
      refine lv_ldc (v := (-1000003)) hK.1.1 hK.1.2.1 hK.1.2.2.1 (hK.1.2.2.2 _ q_12_8) dL_acts_894 ?_
      refine lv_goto (tgt := 912) hK.1.1 hK.1.2.1 dL_acts_896 (by decide) ?_
      refine lv_istore (lv' := [(12, .int (-1000003)), (11, .int (-1)), (0, .ref (ly_a y 0)), (1, .ref (ly_a (ly_sw y) 0)), (2, .ref ar), (3, .ref af), (4, .ref ac), (5, .int xx), (6, .int yy), (7, .int (nI kd)), (8, .int (nI f)), (9, .int (nI h)), (10, .int (nI r))]) hK.1.1 hK.1.2.1 dL_acts_912 hl (by decide) rfl (fun ls hl => ?_)
      refine lv_aload_n hK.1.1 hK.1.2.1 dL_acts_914 rfl (lv_at hl 2 rfl) ?_
      refine lv_iload hK.1.1 hK.1.2.1 dL_acts_915 (lv_at hl 11 rfl) ?_
      refine gk_callSW (n := 2) (As := [.ref (ly_a y 0), .int (nI h)]) (rest := []) hK (cb2_tell hfl (lw_o hW) (h := h) hh z1) (gk_gS q_14_21 q_14_22 q_10_12 q_14_23) ⟨by decide +kernel, by decide +kernel, by decide +kernel⟩ ⟨(Nat.le_of_ble_eq_true rfl), (Nat.le_of_ble_eq_true rfl)⟩ hP hS rfl hl.1 rfl (Nat.le_of_ble_eq_true rfl) dL_acts_917 ⟨(Nat.le_of_ble_eq_true rfl), (Nat.le_of_ble_eq_true rfl)⟩ (fun v G1 H locs hw hP hS => ?_)
      obtain ⟨rfl, hG9⟩ := hw
      rw [hG9] at hP
      refine W.eq (g2 := F0 m 920 ls [.int (-1000003)]) rfl ?_
      refine lv_iload hK.1.1 hK.1.2.1 dL_acts_920 (lv_at hl 0 rfl) ?_
      refine lv_icmp_ne (tgt := 976) hK.1.1 hK.1.2.1 dL_acts_922 (by decide) (fun c => absurd rfl c) (fun _ => ?_)
      refine lv_aload_n hK.1.1 hK.1.2.1 dL_acts_925 rfl (lv_at hl 3 rfl) ?_
      refine lv_iload hK.1.1 hK.1.2.1 dL_acts_926 (lv_at hl 11 rfl) ?_
      refine gk_callSW (n := 2) (As := [.ref (ly_a (ly_sw y) 0), .int (nI h)]) (rest := []) hK (gk_M0_sw (cb2_tell hfl (lw_t hW) (h := h) hh z1)) (gk_gS q_14_21 q_14_22 q_10_12 q_14_23) ⟨by decide +kernel, by decide +kernel, by decide +kernel⟩ ⟨(Nat.le_of_ble_eq_true rfl), (Nat.le_of_ble_eq_true rfl)⟩ hP hS rfl hl.1 rfl (Nat.le_of_ble_eq_true rfl) dL_acts_928 ⟨(Nat.le_of_ble_eq_true rfl), (Nat.le_of_ble_eq_true rfl)⟩ (fun v G1 H locs hw hP hS => ?_)
      obtain ⟨rfl, hG9⟩ := hw
      rw [hG9] at hP
      refine W.eq (g2 := F0 m 931 ls [.int (-1000003)]) rfl ?_
      refine lv_iload hK.1.1 hK.1.2.1 dL_acts_931 (lv_at hl 0 rfl) ?_
      refine lv_icmp_ne (tgt := 976) hK.1.1 hK.1.2.1 dL_acts_933 (by decide) (fun c => absurd rfl c) (fun _ => ?_)
      refine lv_aload_n hK.1.1 hK.1.2.1 dL_acts_936 rfl (lv_at hl 2 rfl) ?_
      refine lv_iload hK.1.1 hK.1.2.1 dL_acts_937 (lv_at hl 11 rfl) ?_
      refine gk_callSW (n := 2) (As := [.ref (ly_a y 0), .int (nI h)]) (rest := []) hK (c0_L_holds l hfl (lw_o hW) (h := h) hh (iv_Ho hI)) (gk_gS q_10_10 q_10_11 q_10_12 q_10_13) ⟨by decide +kernel, by decide +kernel, by decide +kernel⟩ ⟨(Nat.le_of_ble_eq_true rfl), (Nat.le_of_ble_eq_true rfl)⟩ hP hS rfl hl.1 rfl (Nat.le_of_ble_eq_true rfl) dL_acts_939 ⟨(Nat.le_of_ble_eq_true rfl), (Nat.le_of_ble_eq_true rfl)⟩ (fun v G1 H locs hw hP hS => ?_)
      obtain ⟨x9, hx9, rfl, hG9⟩ := hw
      rw [hG9] at hP
      obtain rfl := hz_eq hx9
      refine W.eq (g2 := F0 m 942 ls [.int (hz hf hp S.2.2.2.2.1 h)]) rfl ?_
      refine W.eq (g2 := F0 m 942 ls [.int (-1)]) (by rw [show hz hf hp S.2.2.2.2.1 h = (-1) from (hz_none z1)]) ?_
      refine lv_iload hK.1.1 hK.1.2.1 dL_acts_942 (lv_at hl 1 rfl) ?_
      refine lv_if_ge (tgt := 951) hK.1.1 hK.1.2.1 dL_acts_944 (by decide) (fun c => absurd c (by decide)) (fun _ => ?_)
      refine lv_iconst (v := (-1)) hK.1.1 hK.1.2.1 dL_acts_947 (by decide) ?_
      refine lv_goto (tgt := 959) hK.1.1 hK.1.2.1 dL_acts_948 (by decide) ?_
      refine lv_icmp_ne (tgt := 976) hK.1.1 hK.1.2.1 dL_acts_959 (by decide) (fun c => absurd rfl c) (fun _ => ?_)
      refine lv_aload_n hK.1.1 hK.1.2.1 dL_acts_962 rfl (lv_at hl 2 rfl) ?_
      refine lv_iconst (v := 4) hK.1.1 hK.1.2.1 dL_acts_963 (by decide) ?_
      refine gk_callSW (n := 2) (As := [.ref (ly_a y 0), .int 4]) (rest := []) hK (cb0_tell hfl (lw_o hW) (i := 4) (Or.inr (by decide))) (gk_gS q_14_21 q_14_22 q_10_12 q_14_23) ⟨by decide +kernel, by decide +kernel, by decide +kernel⟩ ⟨(Nat.le_of_ble_eq_true rfl), (Nat.le_of_ble_eq_true rfl)⟩ hP hS rfl hl.1 rfl (Nat.le_of_ble_eq_true rfl) dL_acts_964 ⟨(Nat.le_of_ble_eq_true rfl), (Nat.le_of_ble_eq_true rfl)⟩ (fun v G1 H locs hw hP hS => ?_)
      obtain ⟨rfl, hG9⟩ := hw
      rw [hG9] at hP
      refine W.eq (g2 := F0 m 967 ls [.int (-1000001)]) rfl ?_
      refine lv_ldc (v := (-1000001)) hK.1.1 hK.1.2.1 hK.1.2.2.1 (hK.1.2.2.2 _ q_1_4) dL_acts_967 ?_
      refine lv_icmp_ne (tgt := 976) hK.1.1 hK.1.2.1 dL_acts_969 (by decide) (fun c => absurd rfl c) (fun _ => ?_)
      refine lv_iconst (v := 1) hK.1.1 hK.1.2.1 dL_acts_972 (by decide) ?_
      refine lv_goto (tgt := 977) hK.1.1 hK.1.2.1 dL_acts_973 (by decide) ?_
      exact gk_zret0 hK.1 hret (by first | decide | exact (rp_nz (by first | assumption | (simp; done))).1) hlk hP hS (Nat.le_of_ble_eq_true rfl) (Nat.le_of_ble_eq_true rfl) dL_acts_977 ⟨rfl, ed, td, ru, fr, hf, S, hp, S2, hp2, tt, _, _, _, hW, ⟨_, iv_mono hI⟩, ⟨_, iv_mono hI2⟩, ⟨_, hrn⟩, hlr, hlf, hcc⟩
    · refine lv_aload_n hK.1.1 hK.1.2.1 dL_acts_802 rfl (lv_at hl 1 rfl) ?_
      refine lv_iload hK.1.1 hK.1.2.1 dL_acts_803 (lv_at hl 10 rfl) ?_
      refine gk_callSW (n := 2) (As := [.ref (ly_a y 0), .int (nI h)]) (rest := []) hK (co_shut hfl hW hh) (gk_gS q_14_4 q_14_5 q_10_12 q_14_6) ⟨by decide +kernel, by decide +kernel, by decide +kernel⟩ ⟨(Nat.le_of_ble_eq_true rfl), (Nat.le_of_ble_eq_true rfl)⟩ hP hS rfl hl.1 rfl (Nat.le_of_ble_eq_true rfl) dL_acts_805 ⟨(Nat.le_of_ble_eq_true rfl), (Nat.le_of_ble_eq_true rfl)⟩ (fun v G_3 H locs hw hP hS => ?_)
      obtain ⟨rfl, hW⟩ := hw
      refine W.eq (g2 := F0 m 808 ls [.int (rg_b (hp h).isSome)]) rfl ?_
      have hW : lw y G_3 td ru fr (va_up hf h none) S (va_up hp h none) td ru fr hf S2 hp2 [(ar, 27, rr), (af, 20, ff), (ac, 1, cc)] := hW
      have hJ1 := iv_shut (k := h) hI
      refine lv_iload hK.1.1 hK.1.2.1 dL_acts_808 (lv_at hl 0 rfl) ?_
      refine lv_if_ge (tgt := 817) hK.1.1 hK.1.2.1 dL_acts_810 (by decide) (fun c => absurd c (by decide)) (fun _ => ?_)
      refine lv_iconst (v := 0) hK.1.1 hK.1.2.1 dL_acts_813 (by decide) ?_
      refine lv_goto (tgt := 818) hK.1.1 hK.1.2.1 dL_acts_814 (by decide) ?_
      refine lv_icmp_ne (tgt := 887) hK.1.1 hK.1.2.1 dL_acts_818 (by decide) (fun c => absurd (by rw [z2]; rfl) c) (fun _ => ?_)
      refine lv_aload_n hK.1.1 hK.1.2.1 dL_acts_821 rfl (lv_at hl 2 rfl) ?_
      refine lv_iload hK.1.1 hK.1.2.1 dL_acts_822 (lv_at hl 10 rfl) ?_
      refine gk_callSW (n := 2) (As := [.ref (ly_a (ly_sw y) 0), .int (nI h)]) (rest := []) hK (ct_shut hfl hW hh) (gk_gS q_14_4 q_14_5 q_10_12 q_14_6) ⟨by decide +kernel, by decide +kernel, by decide +kernel⟩ ⟨(Nat.le_of_ble_eq_true rfl), (Nat.le_of_ble_eq_true rfl)⟩ hP hS rfl hl.1 rfl (Nat.le_of_ble_eq_true rfl) dL_acts_824 ⟨(Nat.le_of_ble_eq_true rfl), (Nat.le_of_ble_eq_true rfl)⟩ (fun v G_4 H locs hw hP hS => ?_)
      obtain ⟨rfl, hW⟩ := hw
      refine W.eq (g2 := F0 m 827 ls [.int (rg_b (hp2 h).isSome)]) rfl ?_
      have hW : lw y G_4 td ru fr (va_up hf h none) S (va_up hp h none) td ru fr (va_up hf h none) S2 (va_up hp2 h none) [(ar, 27, rr), (af, 20, ff), (ac, 1, cc)] := hW
      refine lv_iload hK.1.1 hK.1.2.1 dL_acts_827 (lv_at hl 0 rfl) ?_
      refine lv_if_ge (tgt := 836) hK.1.1 hK.1.2.1 dL_acts_829 (by decide) (fun c => absurd c (by decide)) (fun _ => ?_)
      refine lv_iconst (v := 0) hK.1.1 hK.1.2.1 dL_acts_832 (by decide) ?_
      refine lv_goto (tgt := 837) hK.1.1 hK.1.2.1 dL_acts_833 (by decide) ?_
      refine lv_icmp_ne (tgt := 887) hK.1.1 hK.1.2.1 dL_acts_837 (by decide) (fun c => absurd (by rw [rn_shut_b hrn hh, z2]; rfl) c) (fun _ => ?_)
      refine lv_aload_n hK.1.1 hK.1.2.1 dL_acts_840 rfl (lv_at hl 1 rfl) ?_
      refine lv_iload hK.1.1 hK.1.2.1 dL_acts_841 (lv_at hl 10 rfl) ?_
      refine gk_callSW (n := 2) (As := [.ref (ly_a y 0), .int (nI h)]) (rest := []) hK (c0_L_holds l hfl (lw_o hW) (h := h) hh (iv_Ho hJ1)) (gk_gS q_10_10 q_10_11 q_10_12 q_10_13) ⟨by decide +kernel, by decide +kernel, by decide +kernel⟩ ⟨(Nat.le_of_ble_eq_true rfl), (Nat.le_of_ble_eq_true rfl)⟩ hP hS rfl hl.1 rfl (Nat.le_of_ble_eq_true rfl) dL_acts_843 ⟨(Nat.le_of_ble_eq_true rfl), (Nat.le_of_ble_eq_true rfl)⟩ (fun v G1 H locs hw hP hS => ?_)
      obtain ⟨x9, hx9, rfl, hG9⟩ := hw
      rw [hG9] at hP
      obtain rfl := hz_eq hx9
      refine W.eq (g2 := F0 m 846 ls [.int (hz (va_up hf h none) (va_up hp h none) S.2.2.2.2.1 h)]) rfl ?_
      refine W.eq (g2 := F0 m 846 ls [.int (-1)]) (by rw [show hz (va_up hf h none) (va_up hp h none) S.2.2.2.2.1 h = (-1) from (hz_none (va_up_self _ _ _))]) ?_
      refine lv_iconst (v := (-1)) hK.1.1 hK.1.2.1 dL_acts_846 (by decide) ?_
      refine lv_icmp_ne (tgt := 887) hK.1.1 hK.1.2.1 dL_acts_847 (by decide) (fun c => absurd rfl c) (fun _ => ?_)
      refine lv_aload_n hK.1.1 hK.1.2.1 dL_acts_850 rfl (lv_at hl 1 rfl) ?_
      refine lv_iload hK.1.1 hK.1.2.1 dL_acts_851 (lv_at hl 10 rfl) ?_
      refine lv_iconst (v := 1) hK.1.1 hK.1.2.1 dL_acts_853 (by decide) ?_
      refine gk_callSW (n := 3) (As := [.ref (ly_a y 0), .int (nI h), .int 1]) (rest := []) hK (cb2_write hfl (lw_o hW) (h := h) (n := 1) hh ⟨by decide, by decide⟩ (va_up_self _ _ _) (iv_Lp hJ1)) (gk_gS q_14_11 q_14_12 q_10_12 q_14_13) ⟨by decide +kernel, by decide +kernel, by decide +kernel⟩ ⟨(Nat.le_of_ble_eq_true rfl), (Nat.le_of_ble_eq_true rfl)⟩ hP hS rfl hl.1 rfl (Nat.le_of_ble_eq_true rfl) dL_acts_854 ⟨(Nat.le_of_ble_eq_true rfl), (Nat.le_of_ble_eq_true rfl)⟩ (fun v G1 H locs hw hP hS => ?_)
      obtain ⟨rfl, hG9⟩ := hw
      rw [hG9] at hP
      refine W.eq (g2 := F0 m 857 ls [.int (-1000003)]) rfl ?_
      refine lv_ldc (v := (-1000003)) hK.1.1 hK.1.2.1 hK.1.2.2.1 (hK.1.2.2.2 _ q_12_8) dL_acts_857 ?_
      refine lv_icmp_ne (tgt := 887) hK.1.1 hK.1.2.1 dL_acts_859 (by decide) (fun c => absurd rfl c) (fun _ => ?_)
      refine lv_aload_n hK.1.1 hK.1.2.1 dL_acts_862 rfl (lv_at hl 1 rfl) ?_
      refine lv_iload hK.1.1 hK.1.2.1 dL_acts_863 (lv_at hl 10 rfl) ?_
      refine gk_callSW (n := 2) (As := [.ref (ly_a y 0), .int (nI h)]) (rest := []) hK (cb2_tell hfl (lw_o hW) (h := h) hh (va_up_self _ _ _)) (gk_gS q_14_21 q_14_22 q_10_12 q_14_23) ⟨by decide +kernel, by decide +kernel, by decide +kernel⟩ ⟨(Nat.le_of_ble_eq_true rfl), (Nat.le_of_ble_eq_true rfl)⟩ hP hS rfl hl.1 rfl (Nat.le_of_ble_eq_true rfl) dL_acts_865 ⟨(Nat.le_of_ble_eq_true rfl), (Nat.le_of_ble_eq_true rfl)⟩ (fun v G1 H locs hw hP hS => ?_)
      obtain ⟨rfl, hG9⟩ := hw
      rw [hG9] at hP
      refine W.eq (g2 := F0 m 868 ls [.int (-1000003)]) rfl ?_
      refine lv_ldc (v := (-1000003)) hK.1.1 hK.1.2.1 hK.1.2.2.1 (hK.1.2.2.2 _ q_12_8) dL_acts_868 ?_
      refine lv_icmp_ne (tgt := 887) hK.1.1 hK.1.2.1 dL_acts_870 (by decide) (fun c => absurd rfl c) (fun _ => ?_)
      refine lv_aload_n hK.1.1 hK.1.2.1 dL_acts_873 rfl (lv_at hl 1 rfl) ?_
      refine lv_iconst (v := 4) hK.1.1 hK.1.2.1 dL_acts_874 (by decide) ?_
      refine gk_callSW (n := 2) (As := [.ref (ly_a y 0), .int 4]) (rest := []) hK (cb0_shut hfl (lw_o hW) (i := 4) (Or.inr (by decide))) (gk_gS q_14_4 q_14_5 q_10_12 q_14_6) ⟨by decide +kernel, by decide +kernel, by decide +kernel⟩ ⟨(Nat.le_of_ble_eq_true rfl), (Nat.le_of_ble_eq_true rfl)⟩ hP hS rfl hl.1 rfl (Nat.le_of_ble_eq_true rfl) dL_acts_875 ⟨(Nat.le_of_ble_eq_true rfl), (Nat.le_of_ble_eq_true rfl)⟩ (fun v G1 H locs hw hP hS => ?_)
      obtain ⟨rfl, hG9⟩ := hw
      rw [hG9] at hP
      refine W.eq (g2 := F0 m 878 ls [.int (-1000001)]) rfl ?_
      refine lv_ldc (v := (-1000001)) hK.1.1 hK.1.2.1 hK.1.2.2.1 (hK.1.2.2.2 _ q_1_4) dL_acts_878 ?_
      refine lv_icmp_ne (tgt := 887) hK.1.1 hK.1.2.1 dL_acts_880 (by decide) (fun c => absurd rfl c) (fun _ => ?_)
      refine lv_iconst (v := 1) hK.1.1 hK.1.2.1 dL_acts_883 (by decide) ?_
      refine lv_goto (tgt := 888) hK.1.1 hK.1.2.1 dL_acts_884 (by decide) ?_
      exact gk_zret0 hK.1 hret (by first | decide | exact (rp_nz (by first | assumption | (simp; done))).1) hlk hP hS (Nat.le_of_ble_eq_true rfl) (Nat.le_of_ble_eq_true rfl) dL_acts_888 ⟨rfl, ed, td, ru, fr, (va_up hf h none), S, (va_up hp h none), S2, (va_up hp2 h none), tt, _, _, _, hW, ⟨_, hJ1⟩, ⟨_, iv_shut hI2⟩, ⟨_, rn_shut hrn⟩, hlr, hlf, hcc⟩
  · refine W.eq (g2 := F0 m 791 ls [.int (nI (100 * g + r9))]) (by rw [z3]) ?_
    have hlg := iv_len hI hN1 g g5
    refine lv_istore (lv' := [(11, .int (nI (100 * g + r9))), (0, .ref (ly_a y 0)), (1, .ref (ly_a (ly_sw y) 0)), (2, .ref ar), (3, .ref af), (4, .ref ac), (5, .int xx), (6, .int yy), (7, .int (nI kd)), (8, .int (nI f)), (9, .int (nI h)), (10, .int (nI r))]) hK.1.1 hK.1.2.1 dL_acts_791 hl (by decide) rfl (fun ls hl => ?_)
    refine lv_iload hK.1.1 hK.1.2.1 dL_acts_793 (lv_at hl 7 rfl) ?_
    refine lv_iconst (v := 2) hK.1.1 hK.1.2.1 dL_acts_795 (by decide) ?_
    refine gk_callS0 (n := 2) (As := [.int yy, .int 2]) (rest := []) hK (c_L_low l (x := yy) (n := 2) (by decide) (by decide)) (gk_gS q_12_9 q_12_10 q_10_12 q_12_11) ⟨by decide +kernel, by decide +kernel, by decide +kernel⟩ ⟨(Nat.le_of_ble_eq_true rfl), (Nat.le_of_ble_eq_true rfl)⟩ hP hS rfl hl.1 rfl (Nat.le_of_ble_eq_true rfl) dL_acts_796 ⟨(Nat.le_of_ble_eq_true rfl), (Nat.le_of_ble_eq_true rfl)⟩ (fun v G1 H locs hw hP hS => ?_)
    obtain ⟨⟨j_5, hj_5, rfl⟩, hG9⟩ := hw
    rw [hG9] at hP
    refine W.eq (g2 := F0 m 799 ls [.int (nI j_5)]) rfl ?_
    refine lv_if_ne (tgt := 889) hK.1.1 hK.1.2.1 dL_acts_799 (by decide) (fun c799_6 => ?_) (fun c799_6 => ?_)
    · refine lv_iload hK.1.1 hK.1.2.1 dL_acts_889 (lv_at hl 0 rfl) ?_
      refine lv_if_ge (tgt := 899) hK.1.1 hK.1.2.1 dL_acts_891 (by decide) (fun _ => ?_) (fun c => absurd (nI_pos' (by omega)) c)
      refine lv_iload hK.1.1 hK.1.2.1 dL_acts_899 (lv_at hl 0 rfl) ?_
      refine lv_bipush (v := 100) hK.1.1 hK.1.2.1 dL_acts_901 (by decide) ?_
      refine lv_irem hK.1.1 hK.1.2.1 dL_acts_903 (by decide) ?_
      refine W.eq (g2 := F0 m 904 ls [.int (nI ((100 * g + r9) % 100))]) (by rw [show (nI (100 * g + r9)) - (nI (100 * g + r9)) / 100 * 100 = nI ((100 * g + r9) % 100) from pk_rem (by omega) (by decide) (by decide)]) ?_
      refine W.eq (g2 := F0 m 904 ls [.int (nI r9)]) (by rw [show nI ((100 * g + r9) % 100) = nI r9 from (by congr 1; omega)]) ?_
      refine lv_if_le (tgt := 911) hK.1.1 hK.1.2.1 dL_acts_904 (by decide) (fun c904_7 => ?_) (fun c904_7 => ?_)
      · refine lv_iconst (v := 0) hK.1.1 hK.1.2.1 dL_acts_911 (by decide) ?_
        refine lv_istore (lv' := [(12, .int 0), (11, .int (nI (100 * g + r9))), (0, .ref (ly_a y 0)), (1, .ref (ly_a (ly_sw y) 0)), (2, .ref ar), (3, .ref af), (4, .ref ac), (5, .int xx), (6, .int yy), (7, .int (nI kd)), (8, .int (nI f)), (9, .int (nI h)), (10, .int (nI r))]) hK.1.1 hK.1.2.1 dL_acts_912 hl (by decide) rfl (fun ls hl => ?_)
        refine lv_aload_n hK.1.1 hK.1.2.1 dL_acts_914 rfl (lv_at hl 2 rfl) ?_
        refine lv_iload hK.1.1 hK.1.2.1 dL_acts_915 (lv_at hl 11 rfl) ?_
        refine gk_callSW (n := 2) (As := [.ref (ly_a y 0), .int (nI h)]) (rest := []) hK (co_tell hfl hW hh z1) (gk_gS q_14_21 q_14_22 q_10_12 q_14_23) ⟨by decide +kernel, by decide +kernel, by decide +kernel⟩ ⟨(Nat.le_of_ble_eq_true rfl), (Nat.le_of_ble_eq_true rfl)⟩ hP hS rfl hl.1 rfl (Nat.le_of_ble_eq_true rfl) dL_acts_917 ⟨(Nat.le_of_ble_eq_true rfl), (Nat.le_of_ble_eq_true rfl)⟩ (fun v G_8 H locs hw hP hS => ?_)
        obtain ⟨rfl, hW⟩ := hw
        refine W.eq (g2 := F0 m 920 ls [.int (rg_b (decide (¬ hp h = some (S.1 g))))]) rfl ?_
        have hW : lw y G_8 td ru fr hf S (va_up hp h (some (S.1 g))) td ru fr hf S2 hp2 [(ar, 27, rr), (af, 20, ff), (ac, 1, cc)] := hW
        have hJ1 := iv_tell (k := h) hI g5 z1
        refine lv_iload hK.1.1 hK.1.2.1 dL_acts_920 (lv_at hl 0 rfl) ?_
        refine lv_icmp_ne (tgt := 976) hK.1.1 hK.1.2.1 dL_acts_922 (by decide) (fun c => absurd (by rw [z2]; have h9 : r9 = 0 := Nat.eq_zero_of_not_pos (fun z => nI_nle z (by omega) c904_7); rw [z4.elim (fun q => q.2) (fun q => absurd q.1 (by omega))]; simp [rg_b]) c) (fun _ => ?_)
        refine lv_aload_n hK.1.1 hK.1.2.1 dL_acts_925 rfl (lv_at hl 3 rfl) ?_
        refine lv_iload hK.1.1 hK.1.2.1 dL_acts_926 (lv_at hl 11 rfl) ?_
        refine gk_callSW (n := 2) (As := [.ref (ly_a (ly_sw y) 0), .int (nI h)]) (rest := []) hK (ct_tell hfl hW hh z1) (gk_gS q_14_21 q_14_22 q_10_12 q_14_23) ⟨by decide +kernel, by decide +kernel, by decide +kernel⟩ ⟨(Nat.le_of_ble_eq_true rfl), (Nat.le_of_ble_eq_true rfl)⟩ hP hS rfl hl.1 rfl (Nat.le_of_ble_eq_true rfl) dL_acts_928 ⟨(Nat.le_of_ble_eq_true rfl), (Nat.le_of_ble_eq_true rfl)⟩ (fun v G_9 H locs hw hP hS => ?_)
        obtain ⟨rfl, hW⟩ := hw
        refine W.eq (g2 := F0 m 931 ls [.int (rg_b (decide (¬ hp2 h = some (S2.1 g))))]) rfl ?_
        have hW : lw y G_9 td ru fr hf S (va_up hp h (some (S.1 g))) td ru fr hf S2 (va_up hp2 h (some (S2.1 g))) [(ar, 27, rr), (af, 20, ff), (ac, 1, cc)] := hW
        refine lv_iload hK.1.1 hK.1.2.1 dL_acts_931 (lv_at hl 0 rfl) ?_
        refine lv_icmp_ne (tgt := 976) hK.1.1 hK.1.2.1 dL_acts_933 (by decide) (fun c => absurd (by rw [rn_tell_b hrn hh g5 (iv_Ll hI g g5) (fun t ht => iv_Lp hI h hh t ht)]; exact (by rw [z2]; have h9 : r9 = 0 := Nat.eq_zero_of_not_pos (fun z => nI_nle z (by omega) c904_7); rw [z4.elim (fun q => q.2) (fun q => absurd q.1 (by omega))]; simp [rg_b])) c) (fun _ => ?_)
        refine lv_aload_n hK.1.1 hK.1.2.1 dL_acts_936 rfl (lv_at hl 2 rfl) ?_
        refine lv_iload hK.1.1 hK.1.2.1 dL_acts_937 (lv_at hl 11 rfl) ?_
        refine gk_callSW (n := 2) (As := [.ref (ly_a y 0), .int (nI h)]) (rest := []) hK (c0_L_holds l hfl (lw_o hW) (h := h) hh (iv_Ho hJ1)) (gk_gS q_10_10 q_10_11 q_10_12 q_10_13) ⟨by decide +kernel, by decide +kernel, by decide +kernel⟩ ⟨(Nat.le_of_ble_eq_true rfl), (Nat.le_of_ble_eq_true rfl)⟩ hP hS rfl hl.1 rfl (Nat.le_of_ble_eq_true rfl) dL_acts_939 ⟨(Nat.le_of_ble_eq_true rfl), (Nat.le_of_ble_eq_true rfl)⟩ (fun v G1 H locs hw hP hS => ?_)
        obtain ⟨x9, hx9, rfl, hG9⟩ := hw
        rw [hG9] at hP
        obtain rfl := hz_eq hx9
        refine W.eq (g2 := F0 m 942 ls [.int (hz hf (va_up hp h (some (S.1 g))) S.2.2.2.2.1 h)]) rfl ?_
        refine W.eq (g2 := F0 m 942 ls [.int (nI (100 * g))]) (by rw [show hz hf (va_up hp h (some (S.1 g))) S.2.2.2.2.1 h = nI (100 * g) from (by rw [hz_some z1 (va_up_self _ _ _), pl_no (hI.2.2.2.1 g g5).1.2.2]; rfl)]) ?_
        refine lv_iload hK.1.1 hK.1.2.1 dL_acts_942 (lv_at hl 1 rfl) ?_
        refine lv_if_ge (tgt := 951) hK.1.1 hK.1.2.1 dL_acts_944 (by decide) (fun _ => ?_) (fun c => absurd (nI_pos' (by omega)) c)
        refine lv_iload hK.1.1 hK.1.2.1 dL_acts_951 (lv_at hl 1 rfl) ?_
        refine lv_iload hK.1.1 hK.1.2.1 dL_acts_953 (lv_at hl 1 rfl) ?_
        refine lv_bipush (v := 100) hK.1.1 hK.1.2.1 dL_acts_955 (by decide) ?_
        refine lv_irem hK.1.1 hK.1.2.1 dL_acts_957 (by decide) ?_
        refine W.eq (g2 := F0 m 958 ls [.int (nI ((100 * g + r9) % 100)), .int (nI (100 * g + r9)), .int (nI (100 * g))]) (by rw [show (nI (100 * g + r9)) - (nI (100 * g + r9)) / 100 * 100 = nI ((100 * g + r9) % 100) from pk_rem (by omega) (by decide) (by decide)]) ?_
        refine W.eq (g2 := F0 m 958 ls [.int (nI r9), .int (nI (100 * g + r9)), .int (nI (100 * g))]) (by rw [show nI ((100 * g + r9) % 100) = nI r9 from (by congr 1; omega)]) ?_
        refine lv_isub hK.1.1 hK.1.2.1 dL_acts_958 ?_
        refine W.eq (g2 := F0 m 959 ls [.int (nI (100 * g)), .int (nI (100 * g))]) (by rw [show (nI (100 * g + r9)) - (nI r9) = nI (100 * g) from ((pk_sub (by omega)).trans (by congr 1; omega))]) ?_
        refine lv_icmp_ne (tgt := 976) hK.1.1 hK.1.2.1 dL_acts_959 (by decide) (fun c => absurd rfl c) (fun _ => ?_)
        refine lv_aload_n hK.1.1 hK.1.2.1 dL_acts_962 rfl (lv_at hl 2 rfl) ?_
        refine lv_iconst (v := 4) hK.1.1 hK.1.2.1 dL_acts_963 (by decide) ?_
        refine gk_callSW (n := 2) (As := [.ref (ly_a y 0), .int 4]) (rest := []) hK (cb0_tell hfl (lw_o hW) (i := 4) (Or.inr (by decide))) (gk_gS q_14_21 q_14_22 q_10_12 q_14_23) ⟨by decide +kernel, by decide +kernel, by decide +kernel⟩ ⟨(Nat.le_of_ble_eq_true rfl), (Nat.le_of_ble_eq_true rfl)⟩ hP hS rfl hl.1 rfl (Nat.le_of_ble_eq_true rfl) dL_acts_964 ⟨(Nat.le_of_ble_eq_true rfl), (Nat.le_of_ble_eq_true rfl)⟩ (fun v G1 H locs hw hP hS => ?_)
        obtain ⟨rfl, hG9⟩ := hw
        rw [hG9] at hP
        refine W.eq (g2 := F0 m 967 ls [.int (-1000001)]) rfl ?_
        refine lv_ldc (v := (-1000001)) hK.1.1 hK.1.2.1 hK.1.2.2.1 (hK.1.2.2.2 _ q_1_4) dL_acts_967 ?_
        refine lv_icmp_ne (tgt := 976) hK.1.1 hK.1.2.1 dL_acts_969 (by decide) (fun c => absurd rfl c) (fun _ => ?_)
        refine lv_iconst (v := 1) hK.1.1 hK.1.2.1 dL_acts_972 (by decide) ?_
        refine lv_goto (tgt := 977) hK.1.1 hK.1.2.1 dL_acts_973 (by decide) ?_
        exact gk_zret0 hK.1 hret (by first | decide | exact (rp_nz (by first | assumption | (simp; done))).1) hlk hP hS (Nat.le_of_ble_eq_true rfl) (Nat.le_of_ble_eq_true rfl) dL_acts_977 ⟨rfl, ed, td, ru, fr, hf, S, (va_up hp h (some (S.1 g))), S2, (va_up hp2 h (some (S2.1 g))), tt, _, _, _, hW, ⟨_, hJ1⟩, ⟨_, iv_tell hI2 g5 z1⟩, ⟨_, rn_open hrn g5⟩, hlr, hlf, hcc⟩
      · refine lv_iconst (v := 1) hK.1.1 hK.1.2.1 dL_acts_907 (by decide) ?_
        refine lv_goto (tgt := 912) hK.1.1 hK.1.2.1 dL_acts_908 (by decide) ?_
        refine lv_istore (lv' := [(12, .int 1), (11, .int (nI (100 * g + r9))), (0, .ref (ly_a y 0)), (1, .ref (ly_a (ly_sw y) 0)), (2, .ref ar), (3, .ref af), (4, .ref ac), (5, .int xx), (6, .int yy), (7, .int (nI kd)), (8, .int (nI f)), (9, .int (nI h)), (10, .int (nI r))]) hK.1.1 hK.1.2.1 dL_acts_912 hl (by decide) rfl (fun ls hl => ?_)
        refine lv_aload_n hK.1.1 hK.1.2.1 dL_acts_914 rfl (lv_at hl 2 rfl) ?_
        refine lv_iload hK.1.1 hK.1.2.1 dL_acts_915 (lv_at hl 11 rfl) ?_
        refine gk_callSW (n := 2) (As := [.ref (ly_a y 0), .int (nI h)]) (rest := []) hK (co_tell hfl hW hh z1) (gk_gS q_14_21 q_14_22 q_10_12 q_14_23) ⟨by decide +kernel, by decide +kernel, by decide +kernel⟩ ⟨(Nat.le_of_ble_eq_true rfl), (Nat.le_of_ble_eq_true rfl)⟩ hP hS rfl hl.1 rfl (Nat.le_of_ble_eq_true rfl) dL_acts_917 ⟨(Nat.le_of_ble_eq_true rfl), (Nat.le_of_ble_eq_true rfl)⟩ (fun v G_10 H locs hw hP hS => ?_)
        obtain ⟨rfl, hW⟩ := hw
        refine W.eq (g2 := F0 m 920 ls [.int (rg_b (decide (¬ hp h = some (S.1 g))))]) rfl ?_
        have hW : lw y G_10 td ru fr hf S (va_up hp h (some (S.1 g))) td ru fr hf S2 hp2 [(ar, 27, rr), (af, 20, ff), (ac, 1, cc)] := hW
        have hJ1 := iv_tell (k := h) hI g5 z1
        refine lv_iload hK.1.1 hK.1.2.1 dL_acts_920 (lv_at hl 0 rfl) ?_
        refine lv_icmp_ne (tgt := 976) hK.1.1 hK.1.2.1 dL_acts_922 (by decide) (fun c => absurd (by rw [z2]; have h9 : t ≠ S.1 g := z4.elim (fun q => absurd (by rw [q.1]; decide) c904_7) (fun q w => (hI.2.2.2.1 g g5).1.2.2 (w ▸ List.mem_of_getElem? q.2)); simp [rg_b, h9]) c) (fun _ => ?_)
        refine lv_aload_n hK.1.1 hK.1.2.1 dL_acts_925 rfl (lv_at hl 3 rfl) ?_
        refine lv_iload hK.1.1 hK.1.2.1 dL_acts_926 (lv_at hl 11 rfl) ?_
        refine gk_callSW (n := 2) (As := [.ref (ly_a (ly_sw y) 0), .int (nI h)]) (rest := []) hK (ct_tell hfl hW hh z1) (gk_gS q_14_21 q_14_22 q_10_12 q_14_23) ⟨by decide +kernel, by decide +kernel, by decide +kernel⟩ ⟨(Nat.le_of_ble_eq_true rfl), (Nat.le_of_ble_eq_true rfl)⟩ hP hS rfl hl.1 rfl (Nat.le_of_ble_eq_true rfl) dL_acts_928 ⟨(Nat.le_of_ble_eq_true rfl), (Nat.le_of_ble_eq_true rfl)⟩ (fun v G_11 H locs hw hP hS => ?_)
        obtain ⟨rfl, hW⟩ := hw
        refine W.eq (g2 := F0 m 931 ls [.int (rg_b (decide (¬ hp2 h = some (S2.1 g))))]) rfl ?_
        have hW : lw y G_11 td ru fr hf S (va_up hp h (some (S.1 g))) td ru fr hf S2 (va_up hp2 h (some (S2.1 g))) [(ar, 27, rr), (af, 20, ff), (ac, 1, cc)] := hW
        refine lv_iload hK.1.1 hK.1.2.1 dL_acts_931 (lv_at hl 0 rfl) ?_
        refine lv_icmp_ne (tgt := 976) hK.1.1 hK.1.2.1 dL_acts_933 (by decide) (fun c => absurd (by rw [rn_tell_b hrn hh g5 (iv_Ll hI g g5) (fun t ht => iv_Lp hI h hh t ht)]; exact (by rw [z2]; have h9 : t ≠ S.1 g := z4.elim (fun q => absurd (by rw [q.1]; decide) c904_7) (fun q w => (hI.2.2.2.1 g g5).1.2.2 (w ▸ List.mem_of_getElem? q.2)); simp [rg_b, h9])) c) (fun _ => ?_)
        refine lv_aload_n hK.1.1 hK.1.2.1 dL_acts_936 rfl (lv_at hl 2 rfl) ?_
        refine lv_iload hK.1.1 hK.1.2.1 dL_acts_937 (lv_at hl 11 rfl) ?_
        refine gk_callSW (n := 2) (As := [.ref (ly_a y 0), .int (nI h)]) (rest := []) hK (c0_L_holds l hfl (lw_o hW) (h := h) hh (iv_Ho hJ1)) (gk_gS q_10_10 q_10_11 q_10_12 q_10_13) ⟨by decide +kernel, by decide +kernel, by decide +kernel⟩ ⟨(Nat.le_of_ble_eq_true rfl), (Nat.le_of_ble_eq_true rfl)⟩ hP hS rfl hl.1 rfl (Nat.le_of_ble_eq_true rfl) dL_acts_939 ⟨(Nat.le_of_ble_eq_true rfl), (Nat.le_of_ble_eq_true rfl)⟩ (fun v G1 H locs hw hP hS => ?_)
        obtain ⟨x9, hx9, rfl, hG9⟩ := hw
        rw [hG9] at hP
        obtain rfl := hz_eq hx9
        refine W.eq (g2 := F0 m 942 ls [.int (hz hf (va_up hp h (some (S.1 g))) S.2.2.2.2.1 h)]) rfl ?_
        refine W.eq (g2 := F0 m 942 ls [.int (nI (100 * g))]) (by rw [show hz hf (va_up hp h (some (S.1 g))) S.2.2.2.2.1 h = nI (100 * g) from (by rw [hz_some z1 (va_up_self _ _ _), pl_no (hI.2.2.2.1 g g5).1.2.2]; rfl)]) ?_
        refine lv_iload hK.1.1 hK.1.2.1 dL_acts_942 (lv_at hl 1 rfl) ?_
        refine lv_if_ge (tgt := 951) hK.1.1 hK.1.2.1 dL_acts_944 (by decide) (fun _ => ?_) (fun c => absurd (nI_pos' (by omega)) c)
        refine lv_iload hK.1.1 hK.1.2.1 dL_acts_951 (lv_at hl 1 rfl) ?_
        refine lv_iload hK.1.1 hK.1.2.1 dL_acts_953 (lv_at hl 1 rfl) ?_
        refine lv_bipush (v := 100) hK.1.1 hK.1.2.1 dL_acts_955 (by decide) ?_
        refine lv_irem hK.1.1 hK.1.2.1 dL_acts_957 (by decide) ?_
        refine W.eq (g2 := F0 m 958 ls [.int (nI ((100 * g + r9) % 100)), .int (nI (100 * g + r9)), .int (nI (100 * g))]) (by rw [show (nI (100 * g + r9)) - (nI (100 * g + r9)) / 100 * 100 = nI ((100 * g + r9) % 100) from pk_rem (by omega) (by decide) (by decide)]) ?_
        refine W.eq (g2 := F0 m 958 ls [.int (nI r9), .int (nI (100 * g + r9)), .int (nI (100 * g))]) (by rw [show nI ((100 * g + r9) % 100) = nI r9 from (by congr 1; omega)]) ?_
        refine lv_isub hK.1.1 hK.1.2.1 dL_acts_958 ?_
        refine W.eq (g2 := F0 m 959 ls [.int (nI (100 * g)), .int (nI (100 * g))]) (by rw [show (nI (100 * g + r9)) - (nI r9) = nI (100 * g) from ((pk_sub (by omega)).trans (by congr 1; omega))]) ?_
        refine lv_icmp_ne (tgt := 976) hK.1.1 hK.1.2.1 dL_acts_959 (by decide) (fun c => absurd rfl c) (fun _ => ?_)
        refine lv_aload_n hK.1.1 hK.1.2.1 dL_acts_962 rfl (lv_at hl 2 rfl) ?_
        refine lv_iconst (v := 4) hK.1.1 hK.1.2.1 dL_acts_963 (by decide) ?_
        refine gk_callSW (n := 2) (As := [.ref (ly_a y 0), .int 4]) (rest := []) hK (cb0_tell hfl (lw_o hW) (i := 4) (Or.inr (by decide))) (gk_gS q_14_21 q_14_22 q_10_12 q_14_23) ⟨by decide +kernel, by decide +kernel, by decide +kernel⟩ ⟨(Nat.le_of_ble_eq_true rfl), (Nat.le_of_ble_eq_true rfl)⟩ hP hS rfl hl.1 rfl (Nat.le_of_ble_eq_true rfl) dL_acts_964 ⟨(Nat.le_of_ble_eq_true rfl), (Nat.le_of_ble_eq_true rfl)⟩ (fun v G1 H locs hw hP hS => ?_)
        obtain ⟨rfl, hG9⟩ := hw
        rw [hG9] at hP
        refine W.eq (g2 := F0 m 967 ls [.int (-1000001)]) rfl ?_
        refine lv_ldc (v := (-1000001)) hK.1.1 hK.1.2.1 hK.1.2.2.1 (hK.1.2.2.2 _ q_1_4) dL_acts_967 ?_
        refine lv_icmp_ne (tgt := 976) hK.1.1 hK.1.2.1 dL_acts_969 (by decide) (fun c => absurd rfl c) (fun _ => ?_)
        refine lv_iconst (v := 1) hK.1.1 hK.1.2.1 dL_acts_972 (by decide) ?_
        refine lv_goto (tgt := 977) hK.1.1 hK.1.2.1 dL_acts_973 (by decide) ?_
        exact gk_zret0 hK.1 hret (by first | decide | exact (rp_nz (by first | assumption | (simp; done))).1) hlk hP hS (Nat.le_of_ble_eq_true rfl) (Nat.le_of_ble_eq_true rfl) dL_acts_977 ⟨rfl, ed, td, ru, fr, hf, S, (va_up hp h (some (S.1 g))), S2, (va_up hp2 h (some (S2.1 g))), tt, _, _, _, hW, ⟨_, hJ1⟩, ⟨_, iv_tell hI2 g5 z1⟩, ⟨_, rn_open hrn g5⟩, hlr, hlf, hcc⟩
    · refine lv_aload_n hK.1.1 hK.1.2.1 dL_acts_802 rfl (lv_at hl 1 rfl) ?_
      refine lv_iload hK.1.1 hK.1.2.1 dL_acts_803 (lv_at hl 10 rfl) ?_
      refine gk_callSW (n := 2) (As := [.ref (ly_a y 0), .int (nI h)]) (rest := []) hK (co_shut hfl hW hh) (gk_gS q_14_4 q_14_5 q_10_12 q_14_6) ⟨by decide +kernel, by decide +kernel, by decide +kernel⟩ ⟨(Nat.le_of_ble_eq_true rfl), (Nat.le_of_ble_eq_true rfl)⟩ hP hS rfl hl.1 rfl (Nat.le_of_ble_eq_true rfl) dL_acts_805 ⟨(Nat.le_of_ble_eq_true rfl), (Nat.le_of_ble_eq_true rfl)⟩ (fun v G_12 H locs hw hP hS => ?_)
      obtain ⟨rfl, hW⟩ := hw
      refine W.eq (g2 := F0 m 808 ls [.int (rg_b (hp h).isSome)]) rfl ?_
      have hW : lw y G_12 td ru fr (va_up hf h none) S (va_up hp h none) td ru fr hf S2 hp2 [(ar, 27, rr), (af, 20, ff), (ac, 1, cc)] := hW
      have hJ1 := iv_shut (k := h) hI
      refine lv_iload hK.1.1 hK.1.2.1 dL_acts_808 (lv_at hl 0 rfl) ?_
      refine lv_if_ge (tgt := 817) hK.1.1 hK.1.2.1 dL_acts_810 (by decide) (fun _ => ?_) (fun c => absurd (nI_pos' (by omega)) c)
      refine lv_iconst (v := 1) hK.1.1 hK.1.2.1 dL_acts_817 (by decide) ?_
      refine lv_icmp_ne (tgt := 887) hK.1.1 hK.1.2.1 dL_acts_818 (by decide) (fun c => absurd (by rw [z2]; rfl) c) (fun _ => ?_)
      refine lv_aload_n hK.1.1 hK.1.2.1 dL_acts_821 rfl (lv_at hl 2 rfl) ?_
      refine lv_iload hK.1.1 hK.1.2.1 dL_acts_822 (lv_at hl 10 rfl) ?_
      refine gk_callSW (n := 2) (As := [.ref (ly_a (ly_sw y) 0), .int (nI h)]) (rest := []) hK (ct_shut hfl hW hh) (gk_gS q_14_4 q_14_5 q_10_12 q_14_6) ⟨by decide +kernel, by decide +kernel, by decide +kernel⟩ ⟨(Nat.le_of_ble_eq_true rfl), (Nat.le_of_ble_eq_true rfl)⟩ hP hS rfl hl.1 rfl (Nat.le_of_ble_eq_true rfl) dL_acts_824 ⟨(Nat.le_of_ble_eq_true rfl), (Nat.le_of_ble_eq_true rfl)⟩ (fun v G_13 H locs hw hP hS => ?_)
      obtain ⟨rfl, hW⟩ := hw
      refine W.eq (g2 := F0 m 827 ls [.int (rg_b (hp2 h).isSome)]) rfl ?_
      have hW : lw y G_13 td ru fr (va_up hf h none) S (va_up hp h none) td ru fr (va_up hf h none) S2 (va_up hp2 h none) [(ar, 27, rr), (af, 20, ff), (ac, 1, cc)] := hW
      refine lv_iload hK.1.1 hK.1.2.1 dL_acts_827 (lv_at hl 0 rfl) ?_
      refine lv_if_ge (tgt := 836) hK.1.1 hK.1.2.1 dL_acts_829 (by decide) (fun _ => ?_) (fun c => absurd (nI_pos' (by omega)) c)
      refine lv_iconst (v := 1) hK.1.1 hK.1.2.1 dL_acts_836 (by decide) ?_
      refine lv_icmp_ne (tgt := 887) hK.1.1 hK.1.2.1 dL_acts_837 (by decide) (fun c => absurd (by rw [rn_shut_b hrn hh, z2]; rfl) c) (fun _ => ?_)
      refine lv_aload_n hK.1.1 hK.1.2.1 dL_acts_840 rfl (lv_at hl 1 rfl) ?_
      refine lv_iload hK.1.1 hK.1.2.1 dL_acts_841 (lv_at hl 10 rfl) ?_
      refine gk_callSW (n := 2) (As := [.ref (ly_a y 0), .int (nI h)]) (rest := []) hK (c0_L_holds l hfl (lw_o hW) (h := h) hh (iv_Ho hJ1)) (gk_gS q_10_10 q_10_11 q_10_12 q_10_13) ⟨by decide +kernel, by decide +kernel, by decide +kernel⟩ ⟨(Nat.le_of_ble_eq_true rfl), (Nat.le_of_ble_eq_true rfl)⟩ hP hS rfl hl.1 rfl (Nat.le_of_ble_eq_true rfl) dL_acts_843 ⟨(Nat.le_of_ble_eq_true rfl), (Nat.le_of_ble_eq_true rfl)⟩ (fun v G1 H locs hw hP hS => ?_)
      obtain ⟨x9, hx9, rfl, hG9⟩ := hw
      rw [hG9] at hP
      obtain rfl := hz_eq hx9
      refine W.eq (g2 := F0 m 846 ls [.int (hz (va_up hf h none) (va_up hp h none) S.2.2.2.2.1 h)]) rfl ?_
      refine W.eq (g2 := F0 m 846 ls [.int (-1)]) (by rw [show hz (va_up hf h none) (va_up hp h none) S.2.2.2.2.1 h = (-1) from (hz_none (va_up_self _ _ _))]) ?_
      refine lv_iconst (v := (-1)) hK.1.1 hK.1.2.1 dL_acts_846 (by decide) ?_
      refine lv_icmp_ne (tgt := 887) hK.1.1 hK.1.2.1 dL_acts_847 (by decide) (fun c => absurd rfl c) (fun _ => ?_)
      refine lv_aload_n hK.1.1 hK.1.2.1 dL_acts_850 rfl (lv_at hl 1 rfl) ?_
      refine lv_iload hK.1.1 hK.1.2.1 dL_acts_851 (lv_at hl 10 rfl) ?_
      refine lv_iconst (v := 1) hK.1.1 hK.1.2.1 dL_acts_853 (by decide) ?_
      refine gk_callSW (n := 3) (As := [.ref (ly_a y 0), .int (nI h), .int 1]) (rest := []) hK (cb2_write hfl (lw_o hW) (h := h) (n := 1) hh ⟨by decide, by decide⟩ (va_up_self _ _ _) (iv_Lp hJ1)) (gk_gS q_14_11 q_14_12 q_10_12 q_14_13) ⟨by decide +kernel, by decide +kernel, by decide +kernel⟩ ⟨(Nat.le_of_ble_eq_true rfl), (Nat.le_of_ble_eq_true rfl)⟩ hP hS rfl hl.1 rfl (Nat.le_of_ble_eq_true rfl) dL_acts_854 ⟨(Nat.le_of_ble_eq_true rfl), (Nat.le_of_ble_eq_true rfl)⟩ (fun v G1 H locs hw hP hS => ?_)
      obtain ⟨rfl, hG9⟩ := hw
      rw [hG9] at hP
      refine W.eq (g2 := F0 m 857 ls [.int (-1000003)]) rfl ?_
      refine lv_ldc (v := (-1000003)) hK.1.1 hK.1.2.1 hK.1.2.2.1 (hK.1.2.2.2 _ q_12_8) dL_acts_857 ?_
      refine lv_icmp_ne (tgt := 887) hK.1.1 hK.1.2.1 dL_acts_859 (by decide) (fun c => absurd rfl c) (fun _ => ?_)
      refine lv_aload_n hK.1.1 hK.1.2.1 dL_acts_862 rfl (lv_at hl 1 rfl) ?_
      refine lv_iload hK.1.1 hK.1.2.1 dL_acts_863 (lv_at hl 10 rfl) ?_
      refine gk_callSW (n := 2) (As := [.ref (ly_a y 0), .int (nI h)]) (rest := []) hK (cb2_tell hfl (lw_o hW) (h := h) hh (va_up_self _ _ _)) (gk_gS q_14_21 q_14_22 q_10_12 q_14_23) ⟨by decide +kernel, by decide +kernel, by decide +kernel⟩ ⟨(Nat.le_of_ble_eq_true rfl), (Nat.le_of_ble_eq_true rfl)⟩ hP hS rfl hl.1 rfl (Nat.le_of_ble_eq_true rfl) dL_acts_865 ⟨(Nat.le_of_ble_eq_true rfl), (Nat.le_of_ble_eq_true rfl)⟩ (fun v G1 H locs hw hP hS => ?_)
      obtain ⟨rfl, hG9⟩ := hw
      rw [hG9] at hP
      refine W.eq (g2 := F0 m 868 ls [.int (-1000003)]) rfl ?_
      refine lv_ldc (v := (-1000003)) hK.1.1 hK.1.2.1 hK.1.2.2.1 (hK.1.2.2.2 _ q_12_8) dL_acts_868 ?_
      refine lv_icmp_ne (tgt := 887) hK.1.1 hK.1.2.1 dL_acts_870 (by decide) (fun c => absurd rfl c) (fun _ => ?_)
      refine lv_aload_n hK.1.1 hK.1.2.1 dL_acts_873 rfl (lv_at hl 1 rfl) ?_
      refine lv_iconst (v := 4) hK.1.1 hK.1.2.1 dL_acts_874 (by decide) ?_
      refine gk_callSW (n := 2) (As := [.ref (ly_a y 0), .int 4]) (rest := []) hK (cb0_shut hfl (lw_o hW) (i := 4) (Or.inr (by decide))) (gk_gS q_14_4 q_14_5 q_10_12 q_14_6) ⟨by decide +kernel, by decide +kernel, by decide +kernel⟩ ⟨(Nat.le_of_ble_eq_true rfl), (Nat.le_of_ble_eq_true rfl)⟩ hP hS rfl hl.1 rfl (Nat.le_of_ble_eq_true rfl) dL_acts_875 ⟨(Nat.le_of_ble_eq_true rfl), (Nat.le_of_ble_eq_true rfl)⟩ (fun v G1 H locs hw hP hS => ?_)
      obtain ⟨rfl, hG9⟩ := hw
      rw [hG9] at hP
      refine W.eq (g2 := F0 m 878 ls [.int (-1000001)]) rfl ?_
      refine lv_ldc (v := (-1000001)) hK.1.1 hK.1.2.1 hK.1.2.2.1 (hK.1.2.2.2 _ q_1_4) dL_acts_878 ?_
      refine lv_icmp_ne (tgt := 887) hK.1.1 hK.1.2.1 dL_acts_880 (by decide) (fun c => absurd rfl c) (fun _ => ?_)
      refine lv_iconst (v := 1) hK.1.1 hK.1.2.1 dL_acts_883 (by decide) ?_
      refine lv_goto (tgt := 888) hK.1.1 hK.1.2.1 dL_acts_884 (by decide) ?_
      exact gk_zret0 hK.1 hret (by first | decide | exact (rp_nz (by first | assumption | (simp; done))).1) hlk hP hS (Nat.le_of_ble_eq_true rfl) (Nat.le_of_ble_eq_true rfl) dL_acts_888 ⟨rfl, ed, td, ru, fr, (va_up hf h none), S, (va_up hp h none), S2, (va_up hp2 h none), tt, _, _, _, hW, ⟨_, hJ1⟩, ⟨_, iv_shut hI2⟩, ⟨_, rn_shut hrn⟩, hlr, hlf, hcc⟩
set_option maxHeartbeats 4000000 in
set_option maxRecDepth 100000 in
theorem aw_write {ed N : Nat} {td : Int32} {ru : Nat → Nat → Int32} {fr : Nat → Nat} {hf hp hp2 : Nat → Option Nat} {S S2 : ts_T} {tt rr ff cc : Nat → Int32} {fi fi2 φ : Nat → Nat} {ar af ac : Nat} (hfl : l.stackTraces = false) (hW : lw y G td ru fr hf S hp td ru fr hf S2 hp2 [(ar, 27, rr), (af, 20, ff), (ac, 1, cc)]) (hI : iv ed N td ru fr hf S hp tt fi) (hI2 : iv ed N td ru fr hf S2 hp2 tt fi2) (hrn : rn φ S hp S2 hp2) (hlr : lr rr ru) (hlf : lf ff fr S tt) (hcc : cc 0 = td) (hN : N ≤ 110) {xx yy : Int32} {kd f h r : Nat} (f5 : f < 5) (hh : h < 4) (hr : r < 3) (hK : gk_K p s m c [.ref (ly_a y 0), .ref (ly_a (ly_sw y) 0), .ref ar, .ref af, .ref ac, .int xx, .int yy].toArray cL_acts RL 14 y A) (hret : meth.sig.returnType = some .boolean) (hlk : meth.locks = false) (hP : gk_P (ly_D y) A G H) (hS : va_S A s.heap H locs) (hl : lv_has ls 14 [(0, .ref (ly_a y 0)), (1, .ref (ly_a (ly_sw y) 0)), (2, .ref ar), (3, .ref af), (4, .ref ac), (5, .int xx), (6, .int yy), (7, .int (nI kd)), (8, .int (nI f)), (9, .int (nI h)), (10, .int (nI r))]) : W p l e { frames := 11, cells := 112, slots := 30100, locals := 400 } s m [.ref (ly_a y 0), .ref (ly_a (ly_sw y) 0), .ref ar, .ref af, .ref ac, .int xx, .int yy].toArray below meth c H locs 0 0 (MQ below (gk_Q y A (fun v G1 => v = some (.int 1) ∧ lj y G1 ar af ac (N + 1))) [.ref (ly_a y 0), .ref (ly_a (ly_sw y) 0), .ref ar, .ref af, .ref ac, .int xx, .int yy].toArray s 112 30100 A) (F0 m 985 ls []) := by
  have hN1 : N ≤ 111 := by omega
  have he9 := hI.1.2
  have hN2 : N + 1 ≤ 111 := by omega
  refine lv_iconst (v := 1) hK.1.1 hK.1.2.1 dL_acts_985 (by decide) ?_
  refine lv_iload hK.1.1 hK.1.2.1 dL_acts_986 (lv_at hl 6 rfl) ?_
  refine lv_iconst (v := 3) hK.1.1 hK.1.2.1 dL_acts_988 (by decide) ?_
  refine lv_ishr hK.1.1 hK.1.2.1 dL_acts_989 ?_
  refine lv_bipush (v := 40) hK.1.1 hK.1.2.1 dL_acts_990 (by decide) ?_
  refine gk_callS0 (n := 2) (As := [.int (yy >>> (3 &&& 31)), .int 40]) (rest := [.int 1]) hK (c_L_low l (x := (yy >>> (3 &&& 31))) (n := 40) (by decide) (by decide)) (gk_gS q_12_9 q_12_10 q_10_12 q_12_11) ⟨by decide +kernel, by decide +kernel, by decide +kernel⟩ ⟨(Nat.le_of_ble_eq_true rfl), (Nat.le_of_ble_eq_true rfl)⟩ hP hS rfl hl.1 rfl (Nat.le_of_ble_eq_true rfl) dL_acts_992 ⟨(Nat.le_of_ble_eq_true rfl), (Nat.le_of_ble_eq_true rfl)⟩ (fun v G1 H locs hw hP hS => ?_)
  obtain ⟨⟨j_1, hj_1, rfl⟩, hG9⟩ := hw
  rw [hG9] at hP
  refine W.eq (g2 := F0 m 995 ls [.int (nI j_1), .int 1]) rfl ?_
  refine lv_iadd hK.1.1 hK.1.2.1 dL_acts_995 ?_
  refine W.eq (g2 := F0 m 996 ls [.int (nI (1 + j_1))]) (by rw [show 1 + (nI j_1) = nI (1 + j_1) from nI_add _ _]) ?_
  refine lv_istore (lv' := [(11, .int (nI (1 + j_1))), (0, .ref (ly_a y 0)), (1, .ref (ly_a (ly_sw y) 0)), (2, .ref ar), (3, .ref af), (4, .ref ac), (5, .int xx), (6, .int yy), (7, .int (nI kd)), (8, .int (nI f)), (9, .int (nI h)), (10, .int (nI r))]) hK.1.1 hK.1.2.1 dL_acts_996 hl (by decide) rfl (fun ls hl => ?_)
  refine lv_aload_n hK.1.1 hK.1.2.1 dL_acts_998 rfl (lv_at hl 1 rfl) ?_
  refine lv_iload hK.1.1 hK.1.2.1 dL_acts_999 (lv_at hl 10 rfl) ?_
  refine gk_callSW (n := 2) (As := [.ref (ly_a y 0), .int (nI h)]) (rest := []) hK (c0_L_holds l hfl (lw_o hW) (h := h) hh (iv_Ho hI)) (gk_gS q_10_10 q_10_11 q_10_12 q_10_13) ⟨by decide +kernel, by decide +kernel, by decide +kernel⟩ ⟨(Nat.le_of_ble_eq_true rfl), (Nat.le_of_ble_eq_true rfl)⟩ hP hS rfl hl.1 rfl (Nat.le_of_ble_eq_true rfl) dL_acts_1001 ⟨(Nat.le_of_ble_eq_true rfl), (Nat.le_of_ble_eq_true rfl)⟩ (fun v G1 H locs hw hP hS => ?_)
  obtain ⟨x9, hx9, rfl, hG9⟩ := hw
  rw [hG9] at hP
  obtain rfl := hz_eq hx9
  refine W.eq (g2 := F0 m 1004 ls [.int (hz hf hp S.2.2.2.2.1 h)]) rfl ?_
  rcases iv_hz hI hN1 hh with ⟨z1, z2, z3⟩ | ⟨g, t, r9, g5, q1, q2, z1, z2, z3, z4⟩
  · refine W.eq (g2 := F0 m 1004 ls [.int (-1)]) (by rw [z3]) ?_
    refine lv_istore (lv' := [(12, .int (-1)), (11, .int (nI (1 + j_1))), (0, .ref (ly_a y 0)), (1, .ref (ly_a (ly_sw y) 0)), (2, .ref ar), (3, .ref af), (4, .ref ac), (5, .int xx), (6, .int yy), (7, .int (nI kd)), (8, .int (nI f)), (9, .int (nI h)), (10, .int (nI r))]) hK.1.1 hK.1.2.1 dL_acts_1004 hl (by decide) rfl (fun ls hl => ?_)
    refine lv_iload hK.1.1 hK.1.2.1 dL_acts_1006 (lv_at hl 0 rfl) ?_
    refine lv_if_ge (tgt := 1042) hK.1.1 hK.1.2.1 dL_acts_1008 (by decide) (fun c => absurd c (by decide)) (fun _ => ?_)
    refine lv_aload_n hK.1.1 hK.1.2.1 dL_acts_1011 rfl (lv_at hl 2 rfl) ?_
    refine lv_iload hK.1.1 hK.1.2.1 dL_acts_1012 (lv_at hl 11 rfl) ?_
    refine lv_iload hK.1.1 hK.1.2.1 dL_acts_1014 (lv_at hl 1 rfl) ?_
    refine gk_callSW (n := 3) (As := [.ref (ly_a y 0), .int (nI h), .int (nI (1 + j_1))]) (rest := []) hK (cb2_write hfl (lw_o hW) (h := h) (n := nI (1 + j_1)) hh ⟨by rw [show (1 : Int32) = nI 1 from rfl]; exact nI_nlt (by omega) (by have := hj_1; omega), nI_le (b := 1000) (by have := hj_1; omega) (by decide)⟩ z2 (iv_Lp hI)) (gk_gS q_14_11 q_14_12 q_10_12 q_14_13) ⟨by decide +kernel, by decide +kernel, by decide +kernel⟩ ⟨(Nat.le_of_ble_eq_true rfl), (Nat.le_of_ble_eq_true rfl)⟩ hP hS rfl hl.1 rfl (Nat.le_of_ble_eq_true rfl) dL_acts_1016 ⟨(Nat.le_of_ble_eq_true rfl), (Nat.le_of_ble_eq_true rfl)⟩ (fun v G1 H locs hw hP hS => ?_)
    obtain ⟨rfl, hG9⟩ := hw
    rw [hG9] at hP
    refine W.eq (g2 := F0 m 1019 ls [.int (-1000003)]) rfl ?_
    refine lv_ldc (v := (-1000003)) hK.1.1 hK.1.2.1 hK.1.2.2.1 (hK.1.2.2.2 _ q_12_8) dL_acts_1019 ?_
    refine lv_icmp_ne (tgt := 1040) hK.1.1 hK.1.2.1 dL_acts_1021 (by decide) (fun c => absurd rfl c) (fun _ => ?_)
    refine lv_aload_n hK.1.1 hK.1.2.1 dL_acts_1024 rfl (lv_at hl 2 rfl) ?_
    refine lv_iload hK.1.1 hK.1.2.1 dL_acts_1025 (lv_at hl 11 rfl) ?_
    refine lv_iconst (v := 0) hK.1.1 hK.1.2.1 dL_acts_1027 (by decide) ?_
    refine gk_callSW (n := 3) (As := [.ref (ly_a y 0), .int (nI h), .int 0]) (rest := []) hK (cb1_write hfl (lw_o hW) (i := nI h) (n := 0) (rg_out_no hh (by decide)) (fun q => q.1 (by decide)) (iv_Lp hI)) (gk_gS q_14_11 q_14_12 q_10_12 q_14_13) ⟨by decide +kernel, by decide +kernel, by decide +kernel⟩ ⟨(Nat.le_of_ble_eq_true rfl), (Nat.le_of_ble_eq_true rfl)⟩ hP hS rfl hl.1 rfl (Nat.le_of_ble_eq_true rfl) dL_acts_1028 ⟨(Nat.le_of_ble_eq_true rfl), (Nat.le_of_ble_eq_true rfl)⟩ (fun v G1 H locs hw hP hS => ?_)
    obtain ⟨rfl, hG9⟩ := hw
    rw [hG9] at hP
    refine W.eq (g2 := F0 m 1031 ls [.int (-1000002)]) rfl ?_
    refine lv_ldc (v := (-1000002)) hK.1.1 hK.1.2.1 hK.1.2.2.1 (hK.1.2.2.2 _ q_12_7) dL_acts_1031 ?_
    refine lv_icmp_ne (tgt := 1040) hK.1.1 hK.1.2.1 dL_acts_1033 (by decide) (fun c => absurd rfl c) (fun _ => ?_)
    refine lv_iconst (v := 1) hK.1.1 hK.1.2.1 dL_acts_1036 (by decide) ?_
    refine lv_goto (tgt := 1041) hK.1.1 hK.1.2.1 dL_acts_1037 (by decide) ?_
    exact gk_zret0 hK.1 hret (by first | decide | exact (rp_nz (by first | assumption | (simp; done))).1) hlk hP hS (Nat.le_of_ble_eq_true rfl) (Nat.le_of_ble_eq_true rfl) dL_acts_1041 ⟨rfl, ed, td, ru, fr, hf, S, hp, S2, hp2, tt, _, _, _, hW, ⟨_, iv_mono hI⟩, ⟨_, iv_mono hI2⟩, ⟨_, hrn⟩, hlr, hlf, hcc⟩
  · refine W.eq (g2 := F0 m 1004 ls [.int (nI (100 * g + r9))]) (by rw [z3]) ?_
    have hlg := iv_len hI hN1 g g5
    have hm9 : t = S.1 g ∨ t ∈ S.2.2.2.2.1 g := z4.elim (fun q => Or.inl q.2) (fun q => Or.inr (List.mem_of_getElem? q.2))
    have hPt : S.2.2.2.2.2.1 t := iv_Lp hI h hh t z2
    refine lv_istore (lv' := [(12, .int (nI (100 * g + r9))), (11, .int (nI (1 + j_1))), (0, .ref (ly_a y 0)), (1, .ref (ly_a (ly_sw y) 0)), (2, .ref ar), (3, .ref af), (4, .ref ac), (5, .int xx), (6, .int yy), (7, .int (nI kd)), (8, .int (nI f)), (9, .int (nI h)), (10, .int (nI r))]) hK.1.1 hK.1.2.1 dL_acts_1004 hl (by decide) rfl (fun ls hl => ?_)
    refine lv_iload hK.1.1 hK.1.2.1 dL_acts_1006 (lv_at hl 0 rfl) ?_
    refine lv_if_ge (tgt := 1042) hK.1.1 hK.1.2.1 dL_acts_1008 (by decide) (fun _ => ?_) (fun c => absurd (nI_pos' (by omega)) c)
    refine lv_iload hK.1.1 hK.1.2.1 dL_acts_1042 (lv_at hl 0 rfl) ?_
    refine lv_bipush (v := 100) hK.1.1 hK.1.2.1 dL_acts_1044 (by decide) ?_
    refine lv_irem hK.1.1 hK.1.2.1 dL_acts_1046 (by decide) ?_
    refine W.eq (g2 := F0 m 1047 ls [.int (nI ((100 * g + r9) % 100))]) (by rw [show (nI (100 * g + r9)) - (nI (100 * g + r9)) / 100 * 100 = nI ((100 * g + r9) % 100) from pk_rem (by omega) (by decide) (by decide)]) ?_
    refine W.eq (g2 := F0 m 1047 ls [.int (nI r9)]) (by rw [show nI ((100 * g + r9) % 100) = nI r9 from (by congr 1; omega)]) ?_
    have J1078 : ∀ (ls : Array Slot) (H : Heap) (locs : List Loc), gk_P (ly_D y) A G H → va_S A s.heap H locs → lv_has ls 14 [(12, .int (nI (100 * g + r9))), (11, .int (nI (1 + j_1))), (0, .ref (ly_a y 0)), (1, .ref (ly_a (ly_sw y) 0)), (2, .ref ar), (3, .ref af), (4, .ref ac), (5, .int xx), (6, .int yy), (7, .int (nI kd)), (8, .int (nI f)), (9, .int (nI h)), (10, .int (nI r))] → W p l e { frames := 11, cells := 112, slots := 30100, locals := 400 } s m [.ref (ly_a y 0), .ref (ly_a (ly_sw y) 0), .ref ar, .ref af, .ref ac, .int xx, .int yy].toArray below meth c H locs ((0 + 0) + 0) ((0 + 0) + 0) (MQ below (gk_Q y A (fun v G1 => v = some (.int 1) ∧ lj y G1 ar af ac (N + 1))) [.ref (ly_a y 0), .ref (ly_a (ly_sw y) 0), .ref ar, .ref af, .ref ac, .int xx, .int yy].toArray s 112 30100 A) (F0 m 1078 ls [.int (S.2.2.2.2.2.2 0 t)]) := by
      intro ls H locs hP hS hl
      refine lv_istore (lv' := [(13, .int (S.2.2.2.2.2.2 0 t)), (12, .int (nI (100 * g + r9))), (11, .int (nI (1 + j_1))), (0, .ref (ly_a y 0)), (1, .ref (ly_a (ly_sw y) 0)), (2, .ref ar), (3, .ref af), (4, .ref ac), (5, .int xx), (6, .int yy), (7, .int (nI kd)), (8, .int (nI f)), (9, .int (nI h)), (10, .int (nI r))]) hK.1.1 hK.1.2.1 dL_acts_1078 hl (by decide) rfl (fun ls hl => ?_)
      refine lv_aload_n hK.1.1 hK.1.2.1 dL_acts_1080 rfl (lv_at hl 6 rfl) ?_
      refine lv_iconst (v := 4) hK.1.1 hK.1.2.1 dL_acts_1081 (by decide) ?_
      refine lv_iload hK.1.1 hK.1.2.1 dL_acts_1082 (lv_at hl 1 rfl) ?_
      refine lv_bipush (v := 100) hK.1.1 hK.1.2.1 dL_acts_1084 (by decide) ?_
      refine lv_idiv hK.1.1 hK.1.2.1 dL_acts_1086 (by decide) ?_
      refine W.eq (g2 := F0 m 1087 ls [.int (nI ((100 * g + r9) / 100)), .int 4, .ref af]) (by rw [show (nI (100 * g + r9)) / 100 = nI ((100 * g + r9) / 100) from pk_div (by omega) (by decide) (by decide)]) ?_
      refine W.eq (g2 := F0 m 1087 ls [.int (nI g), .int 4, .ref af]) (by rw [show nI ((100 * g + r9) / 100) = nI g from (by congr 1; omega)]) ?_
      refine lv_imul hK.1.1 hK.1.2.1 dL_acts_1087 ?_
      refine W.eq (g2 := F0 m 1088 ls [.int (nI (4 * g)), .ref af]) (by rw [show 4 * (nI g) = nI (4 * g) from pk_mul _ _]) ?_
      refine lv_iconst (v := 3) hK.1.1 hK.1.2.1 dL_acts_1088 (by decide) ?_
      refine lv_iadd hK.1.1 hK.1.2.1 dL_acts_1089 ?_
      refine W.eq (g2 := F0 m 1090 ls [.int (nI ((4 * g) + 3)), .ref af]) (by rw [show (nI (4 * g)) + 3 = nI ((4 * g) + 3) from nI_add _ _]) ?_
      refine lv_dup2_11 hK.1.1 hK.1.2.1 dL_acts_1090 rfl rfl ?_
      refine gk_iald hK.1 hK.2.2.1.1 hP 0 (lw_get hW (k := 1) rfl) rfl (i := nI ((4 * g) + 3)) (vp_in_nI (n := (4 * g) + 3) (N := 20) (by omega) (by decide)) dL_acts_1091 ?_
      refine W.eq (g2 := F0 m 1092 ls [.int (tt g), .int (nI ((4 * g) + 3)), .ref af]) (by rw [show ff (nI ((4 * g) + 3)).toNatClampNeg = tt g from by rw [show (nI ((4 * g) + 3) : Int32).toNatClampNeg = (4 * g) + 3 from nI_clamp (n := (4 * g) + 3) (by omega)]; exact (hlf g g5).2.2.2]) ?_
      refine lv_iload hK.1.1 hK.1.2.1 dL_acts_1092 (lv_at hl 2 rfl) ?_
      refine lv_iadd hK.1.1 hK.1.2.1 dL_acts_1094 ?_
      refine gk_iast hK.1 hK.2.2.1.1 hP hS 0 (lw_get hW (k := 1) rfl) rfl (i := nI ((4 * g) + 3)) (vp_in_nI (n := (4 * g) + 3) (N := 20) (by omega) (by decide)) dL_acts_1095 (fun H locs hP hS => ?_)
      rw [show (nI ((4 * g) + 3) : Int32).toNatClampNeg = (4 * g) + 3 from nI_clamp (n := (4 * g) + 3) (by omega)] at hP
      obtain ⟨g_2, hg_2⟩ : ∃ z, z = upd ff ((4 * g) + 3) ((tt g) + (nI (1 + j_1))) := ⟨_, rfl⟩
      have hW : lw y (gk_up G af (rp_i (ly_k y 0) 20 g_2)) td ru fr hf S hp td ru fr hf S2 hp2 [(ar, 27, rr), (af, 20, g_2), (ac, 1, cc)] := lw_set hW (k := 1) rfl g_2
      have hP : gk_P (ly_D y) A (gk_up G af (rp_i (ly_k y 0) 20 g_2)) H := by rw [hg_2]; exact hP
      obtain ⟨G_3, hG_3⟩ : ∃ z, z = gk_up G af (rp_i (ly_k y 0) 20 g_2) := ⟨_, rfl⟩
      have hP : gk_P (ly_D y) A G_3 H := by rw [hG_3]; exact hP
      have hW : lw y G_3 td ru fr hf S hp td ru fr hf S2 hp2 [(ar, 27, rr), (af, 20, g_2), (ac, 1, cc)] := by rw [hG_3]; exact hW
      refine lv_aload_n hK.1.1 hK.1.2.1 dL_acts_1096 rfl (lv_at hl 3 rfl) ?_
      refine lv_iload hK.1.1 hK.1.2.1 dL_acts_1097 (lv_at hl 12 rfl) ?_
      refine lv_iload hK.1.1 hK.1.2.1 dL_acts_1099 (lv_at hl 2 rfl) ?_
      refine gk_callSW (n := 3) (As := [.ref (ly_a y 0), .int (nI h), .int (nI (1 + j_1))]) (rest := []) hK (co_write hfl hW hh z2 ⟨by rw [show (1 : Int32) = nI 1 from rfl]; exact nI_nlt (by omega) (by have := hj_1; omega), nI_le (b := 1000) (by have := hj_1; omega) (by decide)⟩ (iv_Lp hI)) (gk_gS q_14_11 q_14_12 q_10_12 q_14_13) ⟨by decide +kernel, by decide +kernel, by decide +kernel⟩ ⟨(Nat.le_of_ble_eq_true rfl), (Nat.le_of_ble_eq_true rfl)⟩ hP hS rfl hl.1 rfl (Nat.le_of_ble_eq_true rfl) dL_acts_1101 ⟨(Nat.le_of_ble_eq_true rfl), (Nat.le_of_ble_eq_true rfl)⟩ (fun v G_4 H locs hw hP hS => ?_)
      obtain ⟨rfl, hW⟩ := hw
      refine W.eq (g2 := F0 m 1104 ls [.int (S.2.2.2.2.2.2 0 t + nI (1 + j_1))]) rfl ?_
      have hW : lw y G_4 td ru fr hf (S.1, S.2.1, S.2.2.1, S.2.2.2.1, S.2.2.2.2.1, S.2.2.2.2.2.1, rp_u2 S.2.2.2.2.2.2 0 t (S.2.2.2.2.2.2 0 t + nI (1 + j_1))) hp td ru fr hf S2 hp2 [(ar, 27, rr), (af, 20, g_2), (ac, 1, cc)] := hW
      have hJ1 := iv_write (m := 1 + j_1) hI g5 hm9 (by have := hj_1; omega)
      refine lv_iload hK.1.1 hK.1.2.1 dL_acts_1104 (lv_at hl 0 rfl) ?_
      refine lv_iload hK.1.1 hK.1.2.1 dL_acts_1106 (lv_at hl 2 rfl) ?_
      refine lv_iadd hK.1.1 hK.1.2.1 dL_acts_1108 ?_
      refine lv_icmp_ne (tgt := 1157) hK.1.1 hK.1.2.1 dL_acts_1109 (by decide) (fun c => absurd rfl c) (fun _ => ?_)
      refine lv_aload_n hK.1.1 hK.1.2.1 dL_acts_1112 rfl (lv_at hl 4 rfl) ?_
      refine lv_iload hK.1.1 hK.1.2.1 dL_acts_1113 (lv_at hl 12 rfl) ?_
      refine lv_iload hK.1.1 hK.1.2.1 dL_acts_1115 (lv_at hl 2 rfl) ?_
      refine gk_callSW (n := 3) (As := [.ref (ly_a (ly_sw y) 0), .int (nI h), .int (nI (1 + j_1))]) (rest := []) hK (ct_write hfl hW hh (rn_hp hrn hh z2) ⟨by rw [show (1 : Int32) = nI 1 from rfl]; exact nI_nlt (by omega) (by have := hj_1; omega), nI_le (b := 1000) (by have := hj_1; omega) (by decide)⟩ (iv_Lp hI2)) (gk_gS q_14_11 q_14_12 q_10_12 q_14_13) ⟨by decide +kernel, by decide +kernel, by decide +kernel⟩ ⟨(Nat.le_of_ble_eq_true rfl), (Nat.le_of_ble_eq_true rfl)⟩ hP hS rfl hl.1 rfl (Nat.le_of_ble_eq_true rfl) dL_acts_1117 ⟨(Nat.le_of_ble_eq_true rfl), (Nat.le_of_ble_eq_true rfl)⟩ (fun v G_5 H locs hw hP hS => ?_)
      obtain ⟨rfl, hW⟩ := hw
      refine W.eq (g2 := F0 m 1120 ls [.int (S2.2.2.2.2.2.2 0 (φ t) + nI (1 + j_1))]) rfl ?_
      have hW : lw y G_5 td ru fr hf (S.1, S.2.1, S.2.2.1, S.2.2.2.1, S.2.2.2.2.1, S.2.2.2.2.2.1, rp_u2 S.2.2.2.2.2.2 0 t (S.2.2.2.2.2.2 0 t + nI (1 + j_1))) hp td ru fr hf (S2.1, S2.2.1, S2.2.2.1, S2.2.2.2.1, S2.2.2.2.2.1, S2.2.2.2.2.2.1, rp_u2 S2.2.2.2.2.2.2 0 (φ t) (S2.2.2.2.2.2.2 0 (φ t) + nI (1 + j_1))) hp2 [(ar, 27, rr), (af, 20, g_2), (ac, 1, cc)] := hW
      refine lv_iload hK.1.1 hK.1.2.1 dL_acts_1120 (lv_at hl 0 rfl) ?_
      refine lv_iload hK.1.1 hK.1.2.1 dL_acts_1122 (lv_at hl 2 rfl) ?_
      refine lv_iadd hK.1.1 hK.1.2.1 dL_acts_1124 ?_
      refine lv_icmp_ne (tgt := 1157) hK.1.1 hK.1.2.1 dL_acts_1125 (by decide) (fun c => absurd (by rw [(rn_write (n := nI (1 + j_1)) hrn hPt).1]) c) (fun _ => ?_)
      refine lv_aload_n hK.1.1 hK.1.2.1 dL_acts_1128 rfl (lv_at hl 3 rfl) ?_
      refine lv_iload hK.1.1 hK.1.2.1 dL_acts_1129 (lv_at hl 12 rfl) ?_
      refine lv_sipush (v := 1001) hK.1.1 hK.1.2.1 dL_acts_1131 (by decide) ?_
      refine gk_callSW (n := 3) (As := [.ref (ly_a y 0), .int (nI h), .int 1001]) (rest := []) hK (cb1_write hfl (lw_o hW) (i := nI h) (n := 1001) (rg_out_no hh (by decide)) (fun q => absurd q.2 (by decide)) (iv_Lp hJ1)) (gk_gS q_14_11 q_14_12 q_10_12 q_14_13) ⟨by decide +kernel, by decide +kernel, by decide +kernel⟩ ⟨(Nat.le_of_ble_eq_true rfl), (Nat.le_of_ble_eq_true rfl)⟩ hP hS rfl hl.1 rfl (Nat.le_of_ble_eq_true rfl) dL_acts_1134 ⟨(Nat.le_of_ble_eq_true rfl), (Nat.le_of_ble_eq_true rfl)⟩ (fun v G1 H locs hw hP hS => ?_)
      obtain ⟨rfl, hG9⟩ := hw
      rw [hG9] at hP
      refine W.eq (g2 := F0 m 1137 ls [.int (-1000002)]) rfl ?_
      refine lv_ldc (v := (-1000002)) hK.1.1 hK.1.2.1 hK.1.2.2.1 (hK.1.2.2.2 _ q_12_7) dL_acts_1137 ?_
      refine lv_icmp_ne (tgt := 1157) hK.1.1 hK.1.2.1 dL_acts_1139 (by decide) (fun c => absurd rfl c) (fun _ => ?_)
      refine lv_aload_n hK.1.1 hK.1.2.1 dL_acts_1142 rfl (lv_at hl 3 rfl) ?_
      refine lv_iconst (v := 4) hK.1.1 hK.1.2.1 dL_acts_1143 (by decide) ?_
      refine lv_iconst (v := 0) hK.1.1 hK.1.2.1 dL_acts_1144 (by decide) ?_
      refine gk_callSW (n := 3) (As := [.ref (ly_a y 0), .int 4, .int 0]) (rest := []) hK (cb0_write hfl (lw_o hW) (i := 4) (n := 0) (Or.inr (by decide)) (iv_Lp hJ1)) (gk_gS q_14_11 q_14_12 q_10_12 q_14_13) ⟨by decide +kernel, by decide +kernel, by decide +kernel⟩ ⟨(Nat.le_of_ble_eq_true rfl), (Nat.le_of_ble_eq_true rfl)⟩ hP hS rfl hl.1 rfl (Nat.le_of_ble_eq_true rfl) dL_acts_1145 ⟨(Nat.le_of_ble_eq_true rfl), (Nat.le_of_ble_eq_true rfl)⟩ (fun v G1 H locs hw hP hS => ?_)
      obtain ⟨rfl, hG9⟩ := hw
      rw [hG9] at hP
      refine W.eq (g2 := F0 m 1148 ls [.int (-1000001)]) rfl ?_
      refine lv_ldc (v := (-1000001)) hK.1.1 hK.1.2.1 hK.1.2.2.1 (hK.1.2.2.2 _ q_1_4) dL_acts_1148 ?_
      refine lv_icmp_ne (tgt := 1157) hK.1.1 hK.1.2.1 dL_acts_1150 (by decide) (fun c => absurd rfl c) (fun _ => ?_)
      refine lv_iconst (v := 1) hK.1.1 hK.1.2.1 dL_acts_1153 (by decide) ?_
      refine lv_goto (tgt := 1158) hK.1.1 hK.1.2.1 dL_acts_1154 (by decide) ?_
      exact gk_zret0 hK.1 hret (by first | decide | exact (rp_nz (by first | assumption | (simp; done))).1) hlk hP hS (Nat.le_of_ble_eq_true rfl) (Nat.le_of_ble_eq_true rfl) dL_acts_1158 ⟨rfl, ed, td, ru, fr, hf, (S.1, S.2.1, S.2.2.1, S.2.2.2.1, S.2.2.2.2.1, S.2.2.2.2.2.1, rp_u2 S.2.2.2.2.2.2 0 t (S.2.2.2.2.2.2 0 t + nI (1 + j_1))), hp, (S2.1, S2.2.1, S2.2.2.1, S2.2.2.2.1, S2.2.2.2.2.1, S2.2.2.2.2.2.1, rp_u2 S2.2.2.2.2.2.2 0 (φ t) (S2.2.2.2.2.2.2 0 (φ t) + nI (1 + j_1))), hp2, (va_up tt g (tt g + nI (1 + j_1))), _, _, _, hW, ⟨_, hJ1⟩, ⟨_, (iv_write (m := 1 + j_1) hI2 (t := φ t) g5 (hm9.elim (fun q => Or.inl (by rw [q, hrn.1 g g5])) (fun q => Or.inr (by rw [hrn.2.2.1 g g5]; exact List.mem_map.mpr ⟨t, q, rfl⟩))) (by have := hj_1; omega))⟩, ⟨_, (rn_write hrn hPt).2⟩, hlr, (by rw [hg_2]; exact lf_write hlf), hcc⟩
    refine lv_if_ne (tgt := 1062) hK.1.1 hK.1.2.1 dL_acts_1047 (by decide) (fun c1047_6 => ?_) (fun c1047_6 => ?_)
    · have hk9 : (S.2.2.2.2.1 g)[r9 - 1]? = some t := z4.elim (fun q => absurd (by rw [q.1]; rfl) c1047_6) (fun q => q.2)
      have hr9 : 0 < r9 := z4.elim (fun q => absurd (by rw [q.1]; rfl) c1047_6) (fun q => q.1)
      refine lv_aload_n hK.1.1 hK.1.2.1 dL_acts_1062 rfl (lv_at hl 2 rfl) ?_
      refine lv_iload hK.1.1 hK.1.2.1 dL_acts_1063 (lv_at hl 0 rfl) ?_
      refine lv_bipush (v := 100) hK.1.1 hK.1.2.1 dL_acts_1065 (by decide) ?_
      refine lv_idiv hK.1.1 hK.1.2.1 dL_acts_1067 (by decide) ?_
      refine W.eq (g2 := F0 m 1068 ls [.int (nI ((100 * g + r9) / 100)), .ref (ly_a y 0)]) (by rw [show (nI (100 * g + r9)) / 100 = nI ((100 * g + r9) / 100) from pk_div (by omega) (by decide) (by decide)]) ?_
      refine W.eq (g2 := F0 m 1068 ls [.int (nI g), .ref (ly_a y 0)]) (by rw [show nI ((100 * g + r9) / 100) = nI g from (by congr 1; omega)]) ?_
      refine lv_iload hK.1.1 hK.1.2.1 dL_acts_1068 (lv_at hl 0 rfl) ?_
      refine lv_bipush (v := 100) hK.1.1 hK.1.2.1 dL_acts_1070 (by decide) ?_
      refine lv_irem hK.1.1 hK.1.2.1 dL_acts_1072 (by decide) ?_
      refine W.eq (g2 := F0 m 1073 ls [.int (nI ((100 * g + r9) % 100)), .int (nI g), .ref (ly_a y 0)]) (by rw [show (nI (100 * g + r9)) - (nI (100 * g + r9)) / 100 * 100 = nI ((100 * g + r9) % 100) from pk_rem (by omega) (by decide) (by decide)]) ?_
      refine W.eq (g2 := F0 m 1073 ls [.int (nI r9), .int (nI g), .ref (ly_a y 0)]) (by rw [show nI ((100 * g + r9) % 100) = nI r9 from (by congr 1; omega)]) ?_
      refine lv_iconst (v := 1) hK.1.1 hK.1.2.1 dL_acts_1073 (by decide) ?_
      refine lv_isub hK.1.1 hK.1.2.1 dL_acts_1074 ?_
      refine W.eq (g2 := F0 m 1075 ls [.int (nI (r9 - 1)), .int (nI g), .ref (ly_a y 0)]) (by rw [show (nI r9) - 1 = nI (r9 - 1) from pk_sub (b := 1) (by omega)]) ?_
      refine gk_callSW (n := 3) (As := [.ref (ly_a y 0), .int (nI g), .int (nI (r9 - 1))]) (rest := []) hK (c0_L_lines l hfl (lw_o hW) (f := g) g5 hk9 (iv_in5 hI)) (gk_gS q_15_11 q_15_12 q_10_12 q_15_13) ⟨by decide +kernel, by decide +kernel, by decide +kernel⟩ ⟨(Nat.le_of_ble_eq_true rfl), (Nat.le_of_ble_eq_true rfl)⟩ hP hS rfl hl.1 rfl (Nat.le_of_ble_eq_true rfl) dL_acts_1075 ⟨(Nat.le_of_ble_eq_true rfl), (Nat.le_of_ble_eq_true rfl)⟩ (fun v G1 H locs hw hP hS => ?_)
      obtain ⟨rfl, hG9⟩ := hw
      rw [hG9] at hP
      refine W.eq (g2 := F0 m 1078 ls [.int (S.2.2.2.2.2.2 0 t)]) rfl ?_
      exact J1078 ls _ _ hP hS (lv_sub hl [0, 1, 2, 3, 4, 5, 6, 7, 8, 9, 10, 11, 12] rfl)
    · refine lv_aload_n hK.1.1 hK.1.2.1 dL_acts_1050 rfl (lv_at hl 2 rfl) ?_
      refine lv_iload hK.1.1 hK.1.2.1 dL_acts_1051 (lv_at hl 0 rfl) ?_
      refine lv_bipush (v := 100) hK.1.1 hK.1.2.1 dL_acts_1053 (by decide) ?_
      refine lv_idiv hK.1.1 hK.1.2.1 dL_acts_1055 (by decide) ?_
      refine W.eq (g2 := F0 m 1056 ls [.int (nI ((100 * g + r9) / 100)), .ref (ly_a y 0)]) (by rw [show (nI (100 * g + r9)) / 100 = nI ((100 * g + r9) / 100) from pk_div (by omega) (by decide) (by decide)]) ?_
      refine W.eq (g2 := F0 m 1056 ls [.int (nI g), .ref (ly_a y 0)]) (by rw [show nI ((100 * g + r9) / 100) = nI g from (by congr 1; omega)]) ?_
      refine gk_callSW (n := 2) (As := [.ref (ly_a y 0), .int (nI g)]) (rest := []) hK (c0_L_live l hfl (lw_o hW) (f := g) g5 (iv_Ll hI)) (gk_gS q_15_4 q_15_5 q_10_12 q_15_6) ⟨by decide +kernel, by decide +kernel, by decide +kernel⟩ ⟨(Nat.le_of_ble_eq_true rfl), (Nat.le_of_ble_eq_true rfl)⟩ hP hS rfl hl.1 rfl (Nat.le_of_ble_eq_true rfl) dL_acts_1056 ⟨(Nat.le_of_ble_eq_true rfl), (Nat.le_of_ble_eq_true rfl)⟩ (fun v G1 H locs hw hP hS => ?_)
      obtain ⟨rfl, hG9⟩ := hw
      rw [hG9] at hP
      refine W.eq (g2 := F0 m 1059 ls [.int (S.2.2.2.2.2.2 0 (S.1 g))]) rfl ?_
      refine W.eq (g2 := F0 m 1059 ls [.int (S.2.2.2.2.2.2 0 t)]) (by rw [show S.2.2.2.2.2.2 0 (S.1 g) = S.2.2.2.2.2.2 0 t from (by rw [z4.elim (fun q => q.2) (fun q => absurd ((nI_eq (b := 0) (by omega) (by decide)).mp c1047_6) (by omega))])]) ?_
      refine lv_goto (tgt := 1078) hK.1.1 hK.1.2.1 dL_acts_1059 (by decide) ?_
      exact J1078 ls _ _ hP hS (lv_sub hl [0, 1, 2, 3, 4, 5, 6, 7, 8, 9, 10, 11, 12] rfl)
end AW
