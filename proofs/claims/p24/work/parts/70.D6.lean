/-! the law: one act, by its kind -/
section AW
variable {l : Launch} {y : ly_T} {A : Nat → Prop} {p : Program} {e : Env} {s : State} {m : MethodId} {below : List Frame} {meth : Method} {c : Code} {ls : Array Slot} {H : Heap} {locs : List Loc} {G : gk_G}
set_option maxHeartbeats 4000000 in
set_option maxRecDepth 100000 in
theorem aw_setDue {ed N : Nat} {td : Int32} {ru : Nat → Nat → Int32} {fr : Nat → Nat} {hf hp hp2 : Nat → Option Nat} {S S2 : ts_T} {tt rr ff cc : Nat → Int32} {fi fi2 φ : Nat → Nat} {ar af ac : Nat} (hfl : l.stackTraces = false) (hW : lw y G td ru fr hf S hp td ru fr hf S2 hp2 [(ar, 27, rr), (af, 20, ff), (ac, 1, cc)]) (hI : iv ed N td ru fr hf S hp tt fi) (hI2 : iv ed N td ru fr hf S2 hp2 tt fi2) (hrn : rn φ S hp S2 hp2) (hlr : lr rr ru) (hlf : lf ff fr S tt) (hcc : cc 0 = td) (hN : N ≤ 110) {xx yy : Int32} {kd f h r : Nat} (f5 : f < 5) (hh : h < 4) (hr : r < 3) (hK : gk_K p s m c [.ref (ly_a y 0), .ref (ly_a (ly_sw y) 0), .ref ar, .ref af, .ref ac, .int xx, .int yy].toArray cL_acts RL 14 y A) (hret : meth.sig.returnType = some .boolean) (hlk : meth.locks = false) (hP : gk_P (ly_D y) A G H) (hS : va_S A s.heap H locs) (hl : lv_has ls 14 [(0, .ref (ly_a y 0)), (1, .ref (ly_a (ly_sw y) 0)), (2, .ref ar), (3, .ref af), (4, .ref ac), (5, .int xx), (6, .int yy), (7, .int (nI kd)), (8, .int (nI f)), (9, .int (nI h)), (10, .int (nI r))]) : W p l e { frames := 11, cells := 112, slots := 30100, locals := 400 } s m [.ref (ly_a y 0), .ref (ly_a (ly_sw y) 0), .ref ar, .ref af, .ref ac, .int xx, .int yy].toArray below meth c H locs 0 0 (MQ below (gk_Q y A (fun v G1 => v = some (.int 1) ∧ lj y G1 ar af ac (N + 1))) [.ref (ly_a y 0), .ref (ly_a (ly_sw y) 0), .ref ar, .ref af, .ref ac, .int xx, .int yy].toArray s 112 30100 A) (F0 m 44 ls []) := by
  have hN1 : N ≤ 111 := by omega
  have he9 := hI.1.2
  refine lv_bipush (v := 9) hK.1.1 hK.1.2.1 dL_acts_44 (by decide) ?_
  refine lv_iload hK.1.1 hK.1.2.1 dL_acts_46 (lv_at hl 10 rfl) ?_
  refine lv_imul hK.1.1 hK.1.2.1 dL_acts_48 ?_
  refine W.eq (g2 := F0 m 49 ls [.int (nI (9 * r))]) (by rw [show 9 * (nI r) = nI (9 * r) from pk_mul _ _]) ?_
  refine lv_istore (lv' := [(11, .int (nI (9 * r))), (0, .ref (ly_a y 0)), (1, .ref (ly_a (ly_sw y) 0)), (2, .ref ar), (3, .ref af), (4, .ref ac), (5, .int xx), (6, .int yy), (7, .int (nI kd)), (8, .int (nI f)), (9, .int (nI h)), (10, .int (nI r))]) hK.1.1 hK.1.2.1 dL_acts_49 hl (by decide) rfl (fun ls hl => ?_)
  refine lv_aload_n hK.1.1 hK.1.2.1 dL_acts_51 rfl (lv_at hl 3 rfl) ?_
  refine lv_iload hK.1.1 hK.1.2.1 dL_acts_52 (lv_at hl 0 rfl) ?_
  refine lv_iload hK.1.1 hK.1.2.1 dL_acts_54 (lv_at hl 7 rfl) ?_
  refine lv_iconst (v := 3) hK.1.1 hK.1.2.1 dL_acts_56 (by decide) ?_
  refine gk_callS0 (n := 2) (As := [.int yy, .int 3]) (rest := [.int (nI (9 * r)), .ref ar]) hK (c_L_low l (x := yy) (n := 3) (by decide) (by decide)) (gk_gS q_12_9 q_12_10 q_10_12 q_12_11) ⟨by decide +kernel, by decide +kernel, by decide +kernel⟩ ⟨(Nat.le_of_ble_eq_true rfl), (Nat.le_of_ble_eq_true rfl)⟩ hP hS rfl hl.1 rfl (Nat.le_of_ble_eq_true rfl) dL_acts_57 ⟨(Nat.le_of_ble_eq_true rfl), (Nat.le_of_ble_eq_true rfl)⟩ (fun v G1 H locs hw hP hS => ?_)
  obtain ⟨⟨j_1, hj_1, rfl⟩, hG9⟩ := hw
  rw [hG9] at hP
  refine W.eq (g2 := F0 m 60 ls [.int (nI j_1), .int (nI (9 * r)), .ref ar]) rfl ?_
  have J76 : ∀ (v0 : Int32) (ls : Array Slot) (H : Heap) (locs : List Loc), rg_in v0 0 10000 → gk_P (ly_D y) A G H → va_S A s.heap H locs → lv_has ls 14 [(11, .int (nI (9 * r))), (0, .ref (ly_a y 0)), (1, .ref (ly_a (ly_sw y) 0)), (2, .ref ar), (3, .ref af), (4, .ref ac), (5, .int xx), (6, .int yy), (7, .int (nI kd)), (8, .int (nI f)), (9, .int (nI h)), (10, .int (nI r))] → W p l e { frames := 11, cells := 112, slots := 30100, locals := 400 } s m [.ref (ly_a y 0), .ref (ly_a (ly_sw y) 0), .ref ar, .ref af, .ref ac, .int xx, .int yy].toArray below meth c H locs (0 + 0) (0 + 0) (MQ below (gk_Q y A (fun v G1 => v = some (.int 1) ∧ lj y G1 ar af ac (N + 1))) [.ref (ly_a y 0), .ref (ly_a (ly_sw y) 0), .ref ar, .ref af, .ref ac, .int xx, .int yy].toArray s 112 30100 A) (F0 m 76 ls [.int v0, .int (nI (9 * r)), .ref ar]) := by
    intro v0 ls H locs hv0 hP hS hl
    refine gk_iast hK.1 hK.2.2.1.1 hP hS 0 (lw_get hW (k := 0) rfl) rfl (i := nI (9 * r)) (vp_in_nI (n := 9 * r) (N := 27) (by omega) (by decide)) dL_acts_76 (fun H locs hP hS => ?_)
    rw [show (nI (9 * r) : Int32).toNatClampNeg = 9 * r from nI_clamp (n := 9 * r) (by omega)] at hP
    obtain ⟨g_2, hg_2⟩ : ∃ z, z = upd rr (9 * r) v0 := ⟨_, rfl⟩
    have hW : lw y (gk_up G ar (rp_i (ly_k y 0) 27 g_2)) td ru fr hf S hp td ru fr hf S2 hp2 [(ar, 27, g_2), (af, 20, ff), (ac, 1, cc)] := lw_set hW (k := 0) rfl g_2
    have hP : gk_P (ly_D y) A (gk_up G ar (rp_i (ly_k y 0) 27 g_2)) H := by rw [hg_2]; exact hP
    obtain ⟨G_3, hG_3⟩ : ∃ z, z = gk_up G ar (rp_i (ly_k y 0) 27 g_2) := ⟨_, rfl⟩
    have hP : gk_P (ly_D y) A G_3 H := by rw [hG_3]; exact hP
    have hW : lw y G_3 td ru fr hf S hp td ru fr hf S2 hp2 [(ar, 27, g_2), (af, 20, ff), (ac, 1, cc)] := by rw [hG_3]; exact hW
    have hlr1 : lr g_2 (rp_u2 ru r 1 v0) := by rw [hg_2]; exact lr_set hlr hr (k := 0) (by decide) v0
    refine lv_aload_n hK.1.1 hK.1.2.1 dL_acts_77 rfl (lv_at hl 3 rfl) ?_
    refine lv_iload hK.1.1 hK.1.2.1 dL_acts_78 (lv_at hl 0 rfl) ?_
    refine lv_iconst (v := 1) hK.1.1 hK.1.2.1 dL_acts_80 (by decide) ?_
    refine lv_iadd hK.1.1 hK.1.2.1 dL_acts_81 ?_
    refine W.eq (g2 := F0 m 82 ls [.int (nI ((9 * r) + 1)), .ref ar]) (by rw [show (nI (9 * r)) + 1 = nI ((9 * r) + 1) from nI_add _ _]) ?_
    refine lv_iload hK.1.1 hK.1.2.1 dL_acts_82 (lv_at hl 7 rfl) ?_
    refine lv_iconst (v := 4) hK.1.1 hK.1.2.1 dL_acts_84 (by decide) ?_
    refine lv_ishr hK.1.1 hK.1.2.1 dL_acts_85 ?_
    refine lv_iconst (v := 3) hK.1.1 hK.1.2.1 dL_acts_86 (by decide) ?_
    refine gk_callS0 (n := 2) (As := [.int (yy >>> (4 &&& 31)), .int 3]) (rest := [.int (nI ((9 * r) + 1)), .ref ar]) hK (c_L_low l (x := (yy >>> (4 &&& 31))) (n := 3) (by decide) (by decide)) (gk_gS q_12_9 q_12_10 q_10_12 q_12_11) ⟨by decide +kernel, by decide +kernel, by decide +kernel⟩ ⟨(Nat.le_of_ble_eq_true rfl), (Nat.le_of_ble_eq_true rfl)⟩ hP hS rfl hl.1 rfl (Nat.le_of_ble_eq_true rfl) dL_acts_87 ⟨(Nat.le_of_ble_eq_true rfl), (Nat.le_of_ble_eq_true rfl)⟩ (fun v G1 H locs hw hP hS => ?_)
    obtain ⟨⟨j_4, hj_4, rfl⟩, hG9⟩ := hw
    rw [hG9] at hP
    refine W.eq (g2 := F0 m 90 ls [.int (nI j_4), .int (nI ((9 * r) + 1)), .ref ar]) rfl ?_
    have J107 : ∀ (v1 : Int32) (ls : Array Slot) (H : Heap) (locs : List Loc), rg_in v1 (-1) 6 → gk_P (ly_D y) A G_3 H → va_S A s.heap H locs → lv_has ls 14 [(11, .int (nI (9 * r))), (0, .ref (ly_a y 0)), (1, .ref (ly_a (ly_sw y) 0)), (2, .ref ar), (3, .ref af), (4, .ref ac), (5, .int xx), (6, .int yy), (7, .int (nI kd)), (8, .int (nI f)), (9, .int (nI h)), (10, .int (nI r))] → W p l e { frames := 11, cells := 112, slots := 30100, locals := 400 } s m [.ref (ly_a y 0), .ref (ly_a (ly_sw y) 0), .ref ar, .ref af, .ref ac, .int xx, .int yy].toArray below meth c H locs ((0 + 0) + 0) ((0 + 0) + 0) (MQ below (gk_Q y A (fun v G1 => v = some (.int 1) ∧ lj y G1 ar af ac (N + 1))) [.ref (ly_a y 0), .ref (ly_a (ly_sw y) 0), .ref ar, .ref af, .ref ac, .int xx, .int yy].toArray s 112 30100 A) (F0 m 107 ls [.int v1, .int (nI ((9 * r) + 1)), .ref ar]) := by
      intro v1 ls H locs hv1 hP hS hl
      refine gk_iast hK.1 hK.2.2.1.1 hP hS 0 (lw_get hW (k := 0) rfl) rfl (i := nI ((9 * r) + 1)) (vp_in_nI (n := (9 * r) + 1) (N := 27) (by omega) (by decide)) dL_acts_107 (fun H locs hP hS => ?_)
      rw [show (nI ((9 * r) + 1) : Int32).toNatClampNeg = (9 * r) + 1 from nI_clamp (n := (9 * r) + 1) (by omega)] at hP
      obtain ⟨g_5, hg_5⟩ : ∃ z, z = upd g_2 ((9 * r) + 1) v1 := ⟨_, rfl⟩
      have hW : lw y (gk_up G_3 ar (rp_i (ly_k y 0) 27 g_5)) td ru fr hf S hp td ru fr hf S2 hp2 [(ar, 27, g_5), (af, 20, ff), (ac, 1, cc)] := lw_set hW (k := 0) rfl g_5
      have hP : gk_P (ly_D y) A (gk_up G_3 ar (rp_i (ly_k y 0) 27 g_5)) H := by rw [hg_5]; exact hP
      obtain ⟨G_6, hG_6⟩ : ∃ z, z = gk_up G_3 ar (rp_i (ly_k y 0) 27 g_5) := ⟨_, rfl⟩
      have hP : gk_P (ly_D y) A G_6 H := by rw [hG_6]; exact hP
      have hW : lw y G_6 td ru fr hf S hp td ru fr hf S2 hp2 [(ar, 27, g_5), (af, 20, ff), (ac, 1, cc)] := by rw [hG_6]; exact hW
      have hlr2 : lr g_5 (rp_u2 (rp_u2 ru r 1 v0) r 2 v1) := by rw [hg_5]; exact lr_set hlr1 hr (k := 1) (by decide) v1
      refine lv_aload_n hK.1.1 hK.1.2.1 dL_acts_108 rfl (lv_at hl 3 rfl) ?_
      refine lv_iload hK.1.1 hK.1.2.1 dL_acts_109 (lv_at hl 0 rfl) ?_
      refine lv_iconst (v := 2) hK.1.1 hK.1.2.1 dL_acts_111 (by decide) ?_
      refine lv_iadd hK.1.1 hK.1.2.1 dL_acts_112 ?_
      refine W.eq (g2 := F0 m 113 ls [.int (nI ((9 * r) + 2)), .ref ar]) (by rw [show (nI (9 * r)) + 2 = nI ((9 * r) + 2) from nI_add _ _]) ?_
      refine lv_iload hK.1.1 hK.1.2.1 dL_acts_113 (lv_at hl 7 rfl) ?_
      refine lv_bipush (v := 9) hK.1.1 hK.1.2.1 dL_acts_115 (by decide) ?_
      refine lv_ishr hK.1.1 hK.1.2.1 dL_acts_117 ?_
      refine lv_iconst (v := 3) hK.1.1 hK.1.2.1 dL_acts_118 (by decide) ?_
      refine gk_callS0 (n := 2) (As := [.int (yy >>> (9 &&& 31)), .int 3]) (rest := [.int (nI ((9 * r) + 2)), .ref ar]) hK (c_L_low l (x := (yy >>> (9 &&& 31))) (n := 3) (by decide) (by decide)) (gk_gS q_12_9 q_12_10 q_10_12 q_12_11) ⟨by decide +kernel, by decide +kernel, by decide +kernel⟩ ⟨(Nat.le_of_ble_eq_true rfl), (Nat.le_of_ble_eq_true rfl)⟩ hP hS rfl hl.1 rfl (Nat.le_of_ble_eq_true rfl) dL_acts_119 ⟨(Nat.le_of_ble_eq_true rfl), (Nat.le_of_ble_eq_true rfl)⟩ (fun v G1 H locs hw hP hS => ?_)
      obtain ⟨⟨j_7, hj_7, rfl⟩, hG9⟩ := hw
      rw [hG9] at hP
      refine W.eq (g2 := F0 m 122 ls [.int (nI j_7), .int (nI ((9 * r) + 2)), .ref ar]) rfl ?_
      have J139 : ∀ (v2 : Int32) (ls : Array Slot) (H : Heap) (locs : List Loc), rg_in v2 (-1) 29 → gk_P (ly_D y) A G_6 H → va_S A s.heap H locs → lv_has ls 14 [(11, .int (nI (9 * r))), (0, .ref (ly_a y 0)), (1, .ref (ly_a (ly_sw y) 0)), (2, .ref ar), (3, .ref af), (4, .ref ac), (5, .int xx), (6, .int yy), (7, .int (nI kd)), (8, .int (nI f)), (9, .int (nI h)), (10, .int (nI r))] → W p l e { frames := 11, cells := 112, slots := 30100, locals := 400 } s m [.ref (ly_a y 0), .ref (ly_a (ly_sw y) 0), .ref ar, .ref af, .ref ac, .int xx, .int yy].toArray below meth c H locs (((0 + 0) + 0) + 0) (((0 + 0) + 0) + 0) (MQ below (gk_Q y A (fun v G1 => v = some (.int 1) ∧ lj y G1 ar af ac (N + 1))) [.ref (ly_a y 0), .ref (ly_a (ly_sw y) 0), .ref ar, .ref af, .ref ac, .int xx, .int yy].toArray s 112 30100 A) (F0 m 139 ls [.int v2, .int (nI ((9 * r) + 2)), .ref ar]) := by
        intro v2 ls H locs hv2 hP hS hl
        refine gk_iast hK.1 hK.2.2.1.1 hP hS 0 (lw_get hW (k := 0) rfl) rfl (i := nI ((9 * r) + 2)) (vp_in_nI (n := (9 * r) + 2) (N := 27) (by omega) (by decide)) dL_acts_139 (fun H locs hP hS => ?_)
        rw [show (nI ((9 * r) + 2) : Int32).toNatClampNeg = (9 * r) + 2 from nI_clamp (n := (9 * r) + 2) (by omega)] at hP
        obtain ⟨g_8, hg_8⟩ : ∃ z, z = upd g_5 ((9 * r) + 2) v2 := ⟨_, rfl⟩
        have hW : lw y (gk_up G_6 ar (rp_i (ly_k y 0) 27 g_8)) td ru fr hf S hp td ru fr hf S2 hp2 [(ar, 27, g_8), (af, 20, ff), (ac, 1, cc)] := lw_set hW (k := 0) rfl g_8
        have hP : gk_P (ly_D y) A (gk_up G_6 ar (rp_i (ly_k y 0) 27 g_8)) H := by rw [hg_8]; exact hP
        obtain ⟨G_9, hG_9⟩ : ∃ z, z = gk_up G_6 ar (rp_i (ly_k y 0) 27 g_8) := ⟨_, rfl⟩
        have hP : gk_P (ly_D y) A G_9 H := by rw [hG_9]; exact hP
        have hW : lw y G_9 td ru fr hf S hp td ru fr hf S2 hp2 [(ar, 27, g_8), (af, 20, ff), (ac, 1, cc)] := by rw [hG_9]; exact hW
        have hlr3 : lr g_8 (rp_u2 (rp_u2 (rp_u2 ru r 1 v0) r 2 v1) r 3 v2) := by rw [hg_8]; exact lr_set hlr2 hr (k := 2) (by decide) v2
        refine lv_aload_n hK.1.1 hK.1.2.1 dL_acts_140 rfl (lv_at hl 3 rfl) ?_
        refine lv_iload hK.1.1 hK.1.2.1 dL_acts_141 (lv_at hl 0 rfl) ?_
        refine lv_iconst (v := 3) hK.1.1 hK.1.2.1 dL_acts_143 (by decide) ?_
        refine lv_iadd hK.1.1 hK.1.2.1 dL_acts_144 ?_
        refine W.eq (g2 := F0 m 145 ls [.int (nI ((9 * r) + 3)), .ref ar]) (by rw [show (nI (9 * r)) + 3 = nI ((9 * r) + 3) from nI_add _ _]) ?_
        refine lv_iload hK.1.1 hK.1.2.1 dL_acts_145 (lv_at hl 7 rfl) ?_
        refine lv_bipush (v := 16) hK.1.1 hK.1.2.1 dL_acts_147 (by decide) ?_
        refine lv_ishr hK.1.1 hK.1.2.1 dL_acts_149 ?_
        refine lv_iconst (v := 3) hK.1.1 hK.1.2.1 dL_acts_150 (by decide) ?_
        refine gk_callS0 (n := 2) (As := [.int (yy >>> (16 &&& 31)), .int 3]) (rest := [.int (nI ((9 * r) + 3)), .ref ar]) hK (c_L_low l (x := (yy >>> (16 &&& 31))) (n := 3) (by decide) (by decide)) (gk_gS q_12_9 q_12_10 q_10_12 q_12_11) ⟨by decide +kernel, by decide +kernel, by decide +kernel⟩ ⟨(Nat.le_of_ble_eq_true rfl), (Nat.le_of_ble_eq_true rfl)⟩ hP hS rfl hl.1 rfl (Nat.le_of_ble_eq_true rfl) dL_acts_151 ⟨(Nat.le_of_ble_eq_true rfl), (Nat.le_of_ble_eq_true rfl)⟩ (fun v G1 H locs hw hP hS => ?_)
        obtain ⟨⟨j_10, hj_10, rfl⟩, hG9⟩ := hw
        rw [hG9] at hP
        refine W.eq (g2 := F0 m 154 ls [.int (nI j_10), .int (nI ((9 * r) + 3)), .ref ar]) rfl ?_
        have J171 : ∀ (v3 : Int32) (ls : Array Slot) (H : Heap) (locs : List Loc), rg_in v3 0 100 → gk_P (ly_D y) A G_9 H → va_S A s.heap H locs → lv_has ls 14 [(11, .int (nI (9 * r))), (0, .ref (ly_a y 0)), (1, .ref (ly_a (ly_sw y) 0)), (2, .ref ar), (3, .ref af), (4, .ref ac), (5, .int xx), (6, .int yy), (7, .int (nI kd)), (8, .int (nI f)), (9, .int (nI h)), (10, .int (nI r))] → W p l e { frames := 11, cells := 112, slots := 30100, locals := 400 } s m [.ref (ly_a y 0), .ref (ly_a (ly_sw y) 0), .ref ar, .ref af, .ref ac, .int xx, .int yy].toArray below meth c H locs ((((0 + 0) + 0) + 0) + 0) ((((0 + 0) + 0) + 0) + 0) (MQ below (gk_Q y A (fun v G1 => v = some (.int 1) ∧ lj y G1 ar af ac (N + 1))) [.ref (ly_a y 0), .ref (ly_a (ly_sw y) 0), .ref ar, .ref af, .ref ac, .int xx, .int yy].toArray s 112 30100 A) (F0 m 171 ls [.int v3, .int (nI ((9 * r) + 3)), .ref ar]) := by
          intro v3 ls H locs hv3 hP hS hl
          refine gk_iast hK.1 hK.2.2.1.1 hP hS 0 (lw_get hW (k := 0) rfl) rfl (i := nI ((9 * r) + 3)) (vp_in_nI (n := (9 * r) + 3) (N := 27) (by omega) (by decide)) dL_acts_171 (fun H locs hP hS => ?_)
          rw [show (nI ((9 * r) + 3) : Int32).toNatClampNeg = (9 * r) + 3 from nI_clamp (n := (9 * r) + 3) (by omega)] at hP
          obtain ⟨g_11, hg_11⟩ : ∃ z, z = upd g_8 ((9 * r) + 3) v3 := ⟨_, rfl⟩
          have hW : lw y (gk_up G_9 ar (rp_i (ly_k y 0) 27 g_11)) td ru fr hf S hp td ru fr hf S2 hp2 [(ar, 27, g_11), (af, 20, ff), (ac, 1, cc)] := lw_set hW (k := 0) rfl g_11
          have hP : gk_P (ly_D y) A (gk_up G_9 ar (rp_i (ly_k y 0) 27 g_11)) H := by rw [hg_11]; exact hP
          obtain ⟨G_12, hG_12⟩ : ∃ z, z = gk_up G_9 ar (rp_i (ly_k y 0) 27 g_11) := ⟨_, rfl⟩
          have hP : gk_P (ly_D y) A G_12 H := by rw [hG_12]; exact hP
          have hW : lw y G_12 td ru fr hf S hp td ru fr hf S2 hp2 [(ar, 27, g_11), (af, 20, ff), (ac, 1, cc)] := by rw [hG_12]; exact hW
          have hlr4 : lr g_11 (rp_u2 (rp_u2 (rp_u2 (rp_u2 ru r 1 v0) r 2 v1) r 3 v2) r 4 v3) := by rw [hg_11]; exact lr_set hlr3 hr (k := 3) (by decide) v3
          refine lv_aload_n hK.1.1 hK.1.2.1 dL_acts_172 rfl (lv_at hl 1 rfl) ?_
          refine lv_iload hK.1.1 hK.1.2.1 dL_acts_173 (lv_at hl 11 rfl) ?_
          refine lv_aload_n hK.1.1 hK.1.2.1 dL_acts_175 rfl (lv_at hl 3 rfl) ?_
          refine lv_iload hK.1.1 hK.1.2.1 dL_acts_176 (lv_at hl 0 rfl) ?_
          refine gk_iald hK.1 hK.2.2.1.1 hP 0 (lw_get hW (k := 0) rfl) rfl (i := nI (9 * r)) (vp_in_nI (n := 9 * r) (N := 27) (by omega) (by decide)) dL_acts_178 ?_
          refine W.eq (g2 := F0 m 179 ls [.int v0, .int (nI r), .ref (ly_a y 0)]) (by rw [show g_11 (nI (9 * r)).toNatClampNeg = v0 from by rw [show (nI (9 * r) : Int32).toNatClampNeg = 9 * r from nI_clamp (n := 9 * r) (by omega)]; exact ((show g_11 (9 * r) = (rp_u2 (rp_u2 (rp_u2 (rp_u2 ru r 1 v0) r 2 v1) r 3 v2) r 4 v3) r 1 from hlr4 r hr 0 (by decide)).trans (by simp [rp_u2]))]) ?_
          refine lv_aload_n hK.1.1 hK.1.2.1 dL_acts_179 rfl (lv_at hl 3 rfl) ?_
          refine lv_iload hK.1.1 hK.1.2.1 dL_acts_180 (lv_at hl 0 rfl) ?_
          refine lv_iconst (v := 1) hK.1.1 hK.1.2.1 dL_acts_182 (by decide) ?_
          refine lv_iadd hK.1.1 hK.1.2.1 dL_acts_183 ?_
          refine W.eq (g2 := F0 m 184 ls [.int (nI ((9 * r) + 1)), .ref ar, .int v0, .int (nI r), .ref (ly_a y 0)]) (by rw [show (nI (9 * r)) + 1 = nI ((9 * r) + 1) from nI_add _ _]) ?_
          refine gk_iald hK.1 hK.2.2.1.1 hP 0 (lw_get hW (k := 0) rfl) rfl (i := nI ((9 * r) + 1)) (vp_in_nI (n := (9 * r) + 1) (N := 27) (by omega) (by decide)) dL_acts_184 ?_
          refine W.eq (g2 := F0 m 185 ls [.int v1, .int v0, .int (nI r), .ref (ly_a y 0)]) (by rw [show g_11 (nI ((9 * r) + 1)).toNatClampNeg = v1 from by rw [show (nI ((9 * r) + 1) : Int32).toNatClampNeg = (9 * r) + 1 from nI_clamp (n := (9 * r) + 1) (by omega)]; exact ((show g_11 ((9 * r) + 1) = (rp_u2 (rp_u2 (rp_u2 (rp_u2 ru r 1 v0) r 2 v1) r 3 v2) r 4 v3) r 2 from hlr4 r hr 1 (by decide)).trans (by simp [rp_u2]))]) ?_
          refine lv_aload_n hK.1.1 hK.1.2.1 dL_acts_185 rfl (lv_at hl 3 rfl) ?_
          refine lv_iload hK.1.1 hK.1.2.1 dL_acts_186 (lv_at hl 0 rfl) ?_
          refine lv_iconst (v := 2) hK.1.1 hK.1.2.1 dL_acts_188 (by decide) ?_
          refine lv_iadd hK.1.1 hK.1.2.1 dL_acts_189 ?_
          refine W.eq (g2 := F0 m 190 ls [.int (nI ((9 * r) + 2)), .ref ar, .int v1, .int v0, .int (nI r), .ref (ly_a y 0)]) (by rw [show (nI (9 * r)) + 2 = nI ((9 * r) + 2) from nI_add _ _]) ?_
          refine gk_iald hK.1 hK.2.2.1.1 hP 0 (lw_get hW (k := 0) rfl) rfl (i := nI ((9 * r) + 2)) (vp_in_nI (n := (9 * r) + 2) (N := 27) (by omega) (by decide)) dL_acts_190 ?_
          refine W.eq (g2 := F0 m 191 ls [.int v2, .int v1, .int v0, .int (nI r), .ref (ly_a y 0)]) (by rw [show g_11 (nI ((9 * r) + 2)).toNatClampNeg = v2 from by rw [show (nI ((9 * r) + 2) : Int32).toNatClampNeg = (9 * r) + 2 from nI_clamp (n := (9 * r) + 2) (by omega)]; exact ((show g_11 ((9 * r) + 2) = (rp_u2 (rp_u2 (rp_u2 (rp_u2 ru r 1 v0) r 2 v1) r 3 v2) r 4 v3) r 3 from hlr4 r hr 2 (by decide)).trans (by simp [rp_u2]))]) ?_
          refine lv_aload_n hK.1.1 hK.1.2.1 dL_acts_191 rfl (lv_at hl 3 rfl) ?_
          refine lv_iload hK.1.1 hK.1.2.1 dL_acts_192 (lv_at hl 0 rfl) ?_
          refine lv_iconst (v := 3) hK.1.1 hK.1.2.1 dL_acts_194 (by decide) ?_
          refine lv_iadd hK.1.1 hK.1.2.1 dL_acts_195 ?_
          refine W.eq (g2 := F0 m 196 ls [.int (nI ((9 * r) + 3)), .ref ar, .int v2, .int v1, .int v0, .int (nI r), .ref (ly_a y 0)]) (by rw [show (nI (9 * r)) + 3 = nI ((9 * r) + 3) from nI_add _ _]) ?_
          refine gk_iald hK.1 hK.2.2.1.1 hP 0 (lw_get hW (k := 0) rfl) rfl (i := nI ((9 * r) + 3)) (vp_in_nI (n := (9 * r) + 3) (N := 27) (by omega) (by decide)) dL_acts_196 ?_
          refine W.eq (g2 := F0 m 197 ls [.int v3, .int v2, .int v1, .int v0, .int (nI r), .ref (ly_a y 0)]) (by rw [show g_11 (nI ((9 * r) + 3)).toNatClampNeg = v3 from by rw [show (nI ((9 * r) + 3) : Int32).toNatClampNeg = (9 * r) + 3 from nI_clamp (n := (9 * r) + 3) (by omega)]; exact ((show g_11 ((9 * r) + 3) = (rp_u2 (rp_u2 (rp_u2 (rp_u2 ru r 1 v0) r 2 v1) r 3 v2) r 4 v3) r 4 from hlr4 r hr 3 (by decide)).trans (by simp [rp_u2]))]) ?_
          refine gk_callSW (n := 6) (As := [.ref (ly_a y 0), .int (nI r), .int v0, .int v1, .int v2, .int v3]) (rest := []) hK (co_setDue hfl hW hr ⟨hv0, hv1, hv2, hv3⟩) (gk_gS q_12_13 q_12_14 q_10_12 q_12_15) ⟨by decide +kernel, by decide +kernel, by decide +kernel⟩ ⟨(Nat.le_of_ble_eq_true rfl), (Nat.le_of_ble_eq_true rfl)⟩ hP hS rfl hl.1 rfl (Nat.le_of_ble_eq_true rfl) dL_acts_197 ⟨(Nat.le_of_ble_eq_true rfl), (Nat.le_of_ble_eq_true rfl)⟩ (fun v G_13 H locs hw hP hS => ?_)
          obtain ⟨rfl, hW⟩ := hw
          refine W.eq (g2 := F0 m 200 ls [.int 0]) rfl ?_
          have hW : lw y G_13 td (rp_u2 (rp_u2 (rp_u2 (rp_u2 ru r 1 v0) r 2 v1) r 3 v2) r 4 v3) fr hf S hp td ru fr hf S2 hp2 [(ar, 27, g_11), (af, 20, ff), (ac, 1, cc)] := hW
          refine lv_if_ne (tgt := 317) hK.1.1 hK.1.2.1 dL_acts_200 (by decide) (fun c => absurd rfl c) (fun _ => ?_)
          refine lv_aload_n hK.1.1 hK.1.2.1 dL_acts_203 rfl (lv_at hl 2 rfl) ?_
          refine lv_iload hK.1.1 hK.1.2.1 dL_acts_204 (lv_at hl 11 rfl) ?_
          refine lv_aload_n hK.1.1 hK.1.2.1 dL_acts_206 rfl (lv_at hl 3 rfl) ?_
          refine lv_iload hK.1.1 hK.1.2.1 dL_acts_207 (lv_at hl 0 rfl) ?_
          refine gk_iald hK.1 hK.2.2.1.1 hP 0 (lw_get hW (k := 0) rfl) rfl (i := nI (9 * r)) (vp_in_nI (n := 9 * r) (N := 27) (by omega) (by decide)) dL_acts_209 ?_
          refine W.eq (g2 := F0 m 210 ls [.int v0, .int (nI r), .ref (ly_a (ly_sw y) 0)]) (by rw [show g_11 (nI (9 * r)).toNatClampNeg = v0 from by rw [show (nI (9 * r) : Int32).toNatClampNeg = 9 * r from nI_clamp (n := 9 * r) (by omega)]; exact ((show g_11 (9 * r) = (rp_u2 (rp_u2 (rp_u2 (rp_u2 ru r 1 v0) r 2 v1) r 3 v2) r 4 v3) r 1 from hlr4 r hr 0 (by decide)).trans (by simp [rp_u2]))]) ?_
          refine lv_aload_n hK.1.1 hK.1.2.1 dL_acts_210 rfl (lv_at hl 3 rfl) ?_
          refine lv_iload hK.1.1 hK.1.2.1 dL_acts_211 (lv_at hl 0 rfl) ?_
          refine lv_iconst (v := 1) hK.1.1 hK.1.2.1 dL_acts_213 (by decide) ?_
          refine lv_iadd hK.1.1 hK.1.2.1 dL_acts_214 ?_
          refine W.eq (g2 := F0 m 215 ls [.int (nI ((9 * r) + 1)), .ref ar, .int v0, .int (nI r), .ref (ly_a (ly_sw y) 0)]) (by rw [show (nI (9 * r)) + 1 = nI ((9 * r) + 1) from nI_add _ _]) ?_
          refine gk_iald hK.1 hK.2.2.1.1 hP 0 (lw_get hW (k := 0) rfl) rfl (i := nI ((9 * r) + 1)) (vp_in_nI (n := (9 * r) + 1) (N := 27) (by omega) (by decide)) dL_acts_215 ?_
          refine W.eq (g2 := F0 m 216 ls [.int v1, .int v0, .int (nI r), .ref (ly_a (ly_sw y) 0)]) (by rw [show g_11 (nI ((9 * r) + 1)).toNatClampNeg = v1 from by rw [show (nI ((9 * r) + 1) : Int32).toNatClampNeg = (9 * r) + 1 from nI_clamp (n := (9 * r) + 1) (by omega)]; exact ((show g_11 ((9 * r) + 1) = (rp_u2 (rp_u2 (rp_u2 (rp_u2 ru r 1 v0) r 2 v1) r 3 v2) r 4 v3) r 2 from hlr4 r hr 1 (by decide)).trans (by simp [rp_u2]))]) ?_
          refine lv_aload_n hK.1.1 hK.1.2.1 dL_acts_216 rfl (lv_at hl 3 rfl) ?_
          refine lv_iload hK.1.1 hK.1.2.1 dL_acts_217 (lv_at hl 0 rfl) ?_
          refine lv_iconst (v := 2) hK.1.1 hK.1.2.1 dL_acts_219 (by decide) ?_
          refine lv_iadd hK.1.1 hK.1.2.1 dL_acts_220 ?_
          refine W.eq (g2 := F0 m 221 ls [.int (nI ((9 * r) + 2)), .ref ar, .int v1, .int v0, .int (nI r), .ref (ly_a (ly_sw y) 0)]) (by rw [show (nI (9 * r)) + 2 = nI ((9 * r) + 2) from nI_add _ _]) ?_
          refine gk_iald hK.1 hK.2.2.1.1 hP 0 (lw_get hW (k := 0) rfl) rfl (i := nI ((9 * r) + 2)) (vp_in_nI (n := (9 * r) + 2) (N := 27) (by omega) (by decide)) dL_acts_221 ?_
          refine W.eq (g2 := F0 m 222 ls [.int v2, .int v1, .int v0, .int (nI r), .ref (ly_a (ly_sw y) 0)]) (by rw [show g_11 (nI ((9 * r) + 2)).toNatClampNeg = v2 from by rw [show (nI ((9 * r) + 2) : Int32).toNatClampNeg = (9 * r) + 2 from nI_clamp (n := (9 * r) + 2) (by omega)]; exact ((show g_11 ((9 * r) + 2) = (rp_u2 (rp_u2 (rp_u2 (rp_u2 ru r 1 v0) r 2 v1) r 3 v2) r 4 v3) r 3 from hlr4 r hr 2 (by decide)).trans (by simp [rp_u2]))]) ?_
          refine lv_aload_n hK.1.1 hK.1.2.1 dL_acts_222 rfl (lv_at hl 3 rfl) ?_
          refine lv_iload hK.1.1 hK.1.2.1 dL_acts_223 (lv_at hl 0 rfl) ?_
          refine lv_iconst (v := 3) hK.1.1 hK.1.2.1 dL_acts_225 (by decide) ?_
          refine lv_iadd hK.1.1 hK.1.2.1 dL_acts_226 ?_
          refine W.eq (g2 := F0 m 227 ls [.int (nI ((9 * r) + 3)), .ref ar, .int v2, .int v1, .int v0, .int (nI r), .ref (ly_a (ly_sw y) 0)]) (by rw [show (nI (9 * r)) + 3 = nI ((9 * r) + 3) from nI_add _ _]) ?_
          refine gk_iald hK.1 hK.2.2.1.1 hP 0 (lw_get hW (k := 0) rfl) rfl (i := nI ((9 * r) + 3)) (vp_in_nI (n := (9 * r) + 3) (N := 27) (by omega) (by decide)) dL_acts_227 ?_
          refine W.eq (g2 := F0 m 228 ls [.int v3, .int v2, .int v1, .int v0, .int (nI r), .ref (ly_a (ly_sw y) 0)]) (by rw [show g_11 (nI ((9 * r) + 3)).toNatClampNeg = v3 from by rw [show (nI ((9 * r) + 3) : Int32).toNatClampNeg = (9 * r) + 3 from nI_clamp (n := (9 * r) + 3) (by omega)]; exact ((show g_11 ((9 * r) + 3) = (rp_u2 (rp_u2 (rp_u2 (rp_u2 ru r 1 v0) r 2 v1) r 3 v2) r 4 v3) r 4 from hlr4 r hr 3 (by decide)).trans (by simp [rp_u2]))]) ?_
          refine gk_callSW (n := 6) (As := [.ref (ly_a (ly_sw y) 0), .int (nI r), .int v0, .int v1, .int v2, .int v3]) (rest := []) hK (ct_setDue hfl hW hr ⟨hv0, hv1, hv2, hv3⟩) (gk_gS q_12_13 q_12_14 q_10_12 q_12_15) ⟨by decide +kernel, by decide +kernel, by decide +kernel⟩ ⟨(Nat.le_of_ble_eq_true rfl), (Nat.le_of_ble_eq_true rfl)⟩ hP hS rfl hl.1 rfl (Nat.le_of_ble_eq_true rfl) dL_acts_228 ⟨(Nat.le_of_ble_eq_true rfl), (Nat.le_of_ble_eq_true rfl)⟩ (fun v G_14 H locs hw hP hS => ?_)
          obtain ⟨rfl, hW⟩ := hw
          refine W.eq (g2 := F0 m 231 ls [.int 0]) rfl ?_
          have hW : lw y G_14 td (rp_u2 (rp_u2 (rp_u2 (rp_u2 ru r 1 v0) r 2 v1) r 3 v2) r 4 v3) fr hf S hp td (rp_u2 (rp_u2 (rp_u2 (rp_u2 ru r 1 v0) r 2 v1) r 3 v2) r 4 v3) fr hf S2 hp2 [(ar, 27, g_11), (af, 20, ff), (ac, 1, cc)] := hW
          refine lv_if_ne (tgt := 317) hK.1.1 hK.1.2.1 dL_acts_231 (by decide) (fun c => absurd rfl c) (fun _ => ?_)
          refine lv_aload_n hK.1.1 hK.1.2.1 dL_acts_234 rfl (lv_at hl 1 rfl) ?_
          refine lv_iconst (v := 3) hK.1.1 hK.1.2.1 dL_acts_235 (by decide) ?_
          refine lv_iconst (v := (-1)) hK.1.1 hK.1.2.1 dL_acts_236 (by decide) ?_
          refine lv_iconst (v := 0) hK.1.1 hK.1.2.1 dL_acts_237 (by decide) ?_
          refine lv_iconst (v := 0) hK.1.1 hK.1.2.1 dL_acts_238 (by decide) ?_
          refine lv_iconst (v := 0) hK.1.1 hK.1.2.1 dL_acts_239 (by decide) ?_
          refine gk_callSW (n := 6) (As := [.ref (ly_a y 0), .int 3, .int (-1), .int 0, .int 0, .int 0]) (rest := []) hK (cb0_setDue hfl (lw_o hW) (i := 3) (size := -1) (wd := 0) (mo := 0) (le := 0) (Or.inr (by decide))) (gk_gS q_12_13 q_12_14 q_10_12 q_12_15) ⟨by decide +kernel, by decide +kernel, by decide +kernel⟩ ⟨(Nat.le_of_ble_eq_true rfl), (Nat.le_of_ble_eq_true rfl)⟩ hP hS rfl hl.1 rfl (Nat.le_of_ble_eq_true rfl) dL_acts_240 ⟨(Nat.le_of_ble_eq_true rfl), (Nat.le_of_ble_eq_true rfl)⟩ (fun v G1 H locs hw hP hS => ?_)
          obtain ⟨rfl, hG9⟩ := hw
          rw [hG9] at hP
          refine W.eq (g2 := F0 m 243 ls [.int (-1000001)]) rfl ?_
          refine lv_ldc (v := (-1000001)) hK.1.1 hK.1.2.1 hK.1.2.2.1 (hK.1.2.2.2 _ q_1_4) dL_acts_243 ?_
          refine lv_icmp_ne (tgt := 317) hK.1.1 hK.1.2.1 dL_acts_245 (by decide) (fun c => absurd rfl c) (fun _ => ?_)
          refine lv_aload_n hK.1.1 hK.1.2.1 dL_acts_248 rfl (lv_at hl 1 rfl) ?_
          refine lv_iload hK.1.1 hK.1.2.1 dL_acts_249 (lv_at hl 11 rfl) ?_
          refine lv_sipush (v := 10001) hK.1.1 hK.1.2.1 dL_acts_251 (by decide) ?_
          refine lv_iconst (v := 0) hK.1.1 hK.1.2.1 dL_acts_254 (by decide) ?_
          refine lv_iconst (v := 0) hK.1.1 hK.1.2.1 dL_acts_255 (by decide) ?_
          refine lv_iconst (v := 0) hK.1.1 hK.1.2.1 dL_acts_256 (by decide) ?_
          refine gk_callSW (n := 6) (As := [.ref (ly_a y 0), .int (nI r), .int 10001, .int 0, .int 0, .int 0]) (rest := []) hK (cb1_setDue hfl (lw_o hW) (i := nI r) (size := 10001) (wd := 0) (mo := 0) (le := 0) (rg_out_no hr (by decide)) (fun q => absurd q.1.2 (by decide))) (gk_gS q_12_13 q_12_14 q_10_12 q_12_15) ⟨by decide +kernel, by decide +kernel, by decide +kernel⟩ ⟨(Nat.le_of_ble_eq_true rfl), (Nat.le_of_ble_eq_true rfl)⟩ hP hS rfl hl.1 rfl (Nat.le_of_ble_eq_true rfl) dL_acts_257 ⟨(Nat.le_of_ble_eq_true rfl), (Nat.le_of_ble_eq_true rfl)⟩ (fun v G1 H locs hw hP hS => ?_)
          obtain ⟨rfl, hG9⟩ := hw
          rw [hG9] at hP
          refine W.eq (g2 := F0 m 260 ls [.int (-1000002)]) rfl ?_
          refine lv_ldc (v := (-1000002)) hK.1.1 hK.1.2.1 hK.1.2.2.1 (hK.1.2.2.2 _ q_12_7) dL_acts_260 ?_
          refine lv_icmp_ne (tgt := 317) hK.1.1 hK.1.2.1 dL_acts_262 (by decide) (fun c => absurd rfl c) (fun _ => ?_)
          refine lv_aload_n hK.1.1 hK.1.2.1 dL_acts_265 rfl (lv_at hl 1 rfl) ?_
          refine lv_iload hK.1.1 hK.1.2.1 dL_acts_266 (lv_at hl 11 rfl) ?_
          refine lv_iconst (v := 0) hK.1.1 hK.1.2.1 dL_acts_268 (by decide) ?_
          refine lv_bipush (v := 7) hK.1.1 hK.1.2.1 dL_acts_269 (by decide) ?_
          refine lv_iconst (v := 0) hK.1.1 hK.1.2.1 dL_acts_271 (by decide) ?_
          refine lv_iconst (v := 0) hK.1.1 hK.1.2.1 dL_acts_272 (by decide) ?_
          refine gk_callSW (n := 6) (As := [.ref (ly_a y 0), .int (nI r), .int 0, .int 7, .int 0, .int 0]) (rest := []) hK (cb1_setDue hfl (lw_o hW) (i := nI r) (size := 0) (wd := 7) (mo := 0) (le := 0) (rg_out_no hr (by decide)) (fun q => absurd q.2.1.2 (by decide))) (gk_gS q_12_13 q_12_14 q_10_12 q_12_15) ⟨by decide +kernel, by decide +kernel, by decide +kernel⟩ ⟨(Nat.le_of_ble_eq_true rfl), (Nat.le_of_ble_eq_true rfl)⟩ hP hS rfl hl.1 rfl (Nat.le_of_ble_eq_true rfl) dL_acts_273 ⟨(Nat.le_of_ble_eq_true rfl), (Nat.le_of_ble_eq_true rfl)⟩ (fun v G1 H locs hw hP hS => ?_)
          obtain ⟨rfl, hG9⟩ := hw
          rw [hG9] at hP
          refine W.eq (g2 := F0 m 276 ls [.int (-1000002)]) rfl ?_
          refine lv_ldc (v := (-1000002)) hK.1.1 hK.1.2.1 hK.1.2.2.1 (hK.1.2.2.2 _ q_12_7) dL_acts_276 ?_
          refine lv_icmp_ne (tgt := 317) hK.1.1 hK.1.2.1 dL_acts_278 (by decide) (fun c => absurd rfl c) (fun _ => ?_)
          refine lv_aload_n hK.1.1 hK.1.2.1 dL_acts_281 rfl (lv_at hl 1 rfl) ?_
          refine lv_iload hK.1.1 hK.1.2.1 dL_acts_282 (lv_at hl 11 rfl) ?_
          refine lv_iconst (v := 0) hK.1.1 hK.1.2.1 dL_acts_284 (by decide) ?_
          refine lv_iconst (v := 0) hK.1.1 hK.1.2.1 dL_acts_285 (by decide) ?_
          refine lv_bipush (v := 30) hK.1.1 hK.1.2.1 dL_acts_286 (by decide) ?_
          refine lv_iconst (v := 0) hK.1.1 hK.1.2.1 dL_acts_288 (by decide) ?_
          refine gk_callSW (n := 6) (As := [.ref (ly_a y 0), .int (nI r), .int 0, .int 0, .int 30, .int 0]) (rest := []) hK (cb1_setDue hfl (lw_o hW) (i := nI r) (size := 0) (wd := 0) (mo := 30) (le := 0) (rg_out_no hr (by decide)) (fun q => absurd q.2.2.1.2 (by decide))) (gk_gS q_12_13 q_12_14 q_10_12 q_12_15) ⟨by decide +kernel, by decide +kernel, by decide +kernel⟩ ⟨(Nat.le_of_ble_eq_true rfl), (Nat.le_of_ble_eq_true rfl)⟩ hP hS rfl hl.1 rfl (Nat.le_of_ble_eq_true rfl) dL_acts_289 ⟨(Nat.le_of_ble_eq_true rfl), (Nat.le_of_ble_eq_true rfl)⟩ (fun v G1 H locs hw hP hS => ?_)
          obtain ⟨rfl, hG9⟩ := hw
          rw [hG9] at hP
          refine W.eq (g2 := F0 m 292 ls [.int (-1000002)]) rfl ?_
          refine lv_ldc (v := (-1000002)) hK.1.1 hK.1.2.1 hK.1.2.2.1 (hK.1.2.2.2 _ q_12_7) dL_acts_292 ?_
          refine lv_icmp_ne (tgt := 317) hK.1.1 hK.1.2.1 dL_acts_294 (by decide) (fun c => absurd rfl c) (fun _ => ?_)
          refine lv_aload_n hK.1.1 hK.1.2.1 dL_acts_297 rfl (lv_at hl 1 rfl) ?_
          refine lv_iload hK.1.1 hK.1.2.1 dL_acts_298 (lv_at hl 11 rfl) ?_
          refine lv_iconst (v := 0) hK.1.1 hK.1.2.1 dL_acts_300 (by decide) ?_
          refine lv_iconst (v := 0) hK.1.1 hK.1.2.1 dL_acts_301 (by decide) ?_
          refine lv_iconst (v := 0) hK.1.1 hK.1.2.1 dL_acts_302 (by decide) ?_
          refine lv_bipush (v := 101) hK.1.1 hK.1.2.1 dL_acts_303 (by decide) ?_
          refine gk_callSW (n := 6) (As := [.ref (ly_a y 0), .int (nI r), .int 0, .int 0, .int 0, .int 101]) (rest := []) hK (cb1_setDue hfl (lw_o hW) (i := nI r) (size := 0) (wd := 0) (mo := 0) (le := 101) (rg_out_no hr (by decide)) (fun q => absurd q.2.2.2.2 (by decide))) (gk_gS q_12_13 q_12_14 q_10_12 q_12_15) ⟨by decide +kernel, by decide +kernel, by decide +kernel⟩ ⟨(Nat.le_of_ble_eq_true rfl), (Nat.le_of_ble_eq_true rfl)⟩ hP hS rfl hl.1 rfl (Nat.le_of_ble_eq_true rfl) dL_acts_305 ⟨(Nat.le_of_ble_eq_true rfl), (Nat.le_of_ble_eq_true rfl)⟩ (fun v G1 H locs hw hP hS => ?_)
          obtain ⟨rfl, hG9⟩ := hw
          rw [hG9] at hP
          refine W.eq (g2 := F0 m 308 ls [.int (-1000002)]) rfl ?_
          refine lv_ldc (v := (-1000002)) hK.1.1 hK.1.2.1 hK.1.2.2.1 (hK.1.2.2.2 _ q_12_7) dL_acts_308 ?_
          refine lv_icmp_ne (tgt := 317) hK.1.1 hK.1.2.1 dL_acts_310 (by decide) (fun c => absurd rfl c) (fun _ => ?_)
          refine lv_iconst (v := 1) hK.1.1 hK.1.2.1 dL_acts_313 (by decide) ?_
          refine lv_goto (tgt := 318) hK.1.1 hK.1.2.1 dL_acts_314 (by decide) ?_
          exact gk_zret0 hK.1 hret (by first | decide | exact (rp_nz (by first | assumption | (simp; done))).1) hlk hP hS (Nat.le_of_ble_eq_true rfl) (Nat.le_of_ble_eq_true rfl) dL_acts_318 ⟨rfl, ed, td, (rp_u2 (rp_u2 (rp_u2 (rp_u2 ru r 1 v0) r 2 v1) r 3 v2) r 4 v3), fr, hf, S, hp, S2, hp2, tt, _, _, _, hW, ⟨_, iv_setDue hI ⟨hv0, hv1, hv2, hv3⟩⟩, ⟨_, iv_setDue hI2 ⟨hv0, hv1, hv2, hv3⟩⟩, ⟨_, hrn⟩, hlr4, hlf, hcc⟩
        refine lv_if_ne (tgt := 170) hK.1.1 hK.1.2.1 dL_acts_154 (by decide) (fun c154_15 => ?_) (fun c154_15 => ?_)
        · refine lv_iconst (v := 0) hK.1.1 hK.1.2.1 dL_acts_170 (by decide) ?_
          exact J171 0 ls _ _ ⟨by decide, by decide⟩ hP hS (lv_sub hl [0, 1, 2, 3, 4, 5, 6, 7, 8, 9, 10, 11] rfl)
        · refine lv_iload hK.1.1 hK.1.2.1 dL_acts_157 (lv_at hl 7 rfl) ?_
          refine lv_bipush (v := 18) hK.1.1 hK.1.2.1 dL_acts_159 (by decide) ?_
          refine lv_ishr hK.1.1 hK.1.2.1 dL_acts_161 ?_
          refine lv_bipush (v := 12) hK.1.1 hK.1.2.1 dL_acts_162 (by decide) ?_
          refine gk_callS0 (n := 2) (As := [.int (yy >>> (18 &&& 31)), .int 12]) (rest := [.int (nI ((9 * r) + 3)), .ref ar]) hK (c_L_low l (x := (yy >>> (18 &&& 31))) (n := 12) (by decide) (by decide)) (gk_gS q_12_9 q_12_10 q_10_12 q_12_11) ⟨by decide +kernel, by decide +kernel, by decide +kernel⟩ ⟨(Nat.le_of_ble_eq_true rfl), (Nat.le_of_ble_eq_true rfl)⟩ hP hS rfl hl.1 rfl (Nat.le_of_ble_eq_true rfl) dL_acts_164 ⟨(Nat.le_of_ble_eq_true rfl), (Nat.le_of_ble_eq_true rfl)⟩ (fun v G1 H locs hw hP hS => ?_)
          obtain ⟨⟨j_16, hj_16, rfl⟩, hG9⟩ := hw
          rw [hG9] at hP
          refine W.eq (g2 := F0 m 167 ls [.int (nI j_16), .int (nI ((9 * r) + 3)), .ref ar]) rfl ?_
          refine lv_goto (tgt := 171) hK.1.1 hK.1.2.1 dL_acts_167 (by decide) ?_
          exact J171 (nI j_16) ls _ _ (rg_n (c := 0) (b := 100) (by have := hj_16; omega) (by decide) (Nat.zero_le _)) hP hS (lv_sub hl [0, 1, 2, 3, 4, 5, 6, 7, 8, 9, 10, 11] rfl)
      refine lv_if_ne (tgt := 138) hK.1.1 hK.1.2.1 dL_acts_122 (by decide) (fun c122_17 => ?_) (fun c122_17 => ?_)
      · refine lv_iconst (v := (-1)) hK.1.1 hK.1.2.1 dL_acts_138 (by decide) ?_
        exact J139 (-1) ls _ _ ⟨by decide, by decide⟩ hP hS (lv_sub hl [0, 1, 2, 3, 4, 5, 6, 7, 8, 9, 10, 11] rfl)
      · refine lv_iload hK.1.1 hK.1.2.1 dL_acts_125 (lv_at hl 7 rfl) ?_
        refine lv_bipush (v := 11) hK.1.1 hK.1.2.1 dL_acts_127 (by decide) ?_
        refine lv_ishr hK.1.1 hK.1.2.1 dL_acts_129 ?_
        refine lv_bipush (v := 30) hK.1.1 hK.1.2.1 dL_acts_130 (by decide) ?_
        refine gk_callS0 (n := 2) (As := [.int (yy >>> (11 &&& 31)), .int 30]) (rest := [.int (nI ((9 * r) + 2)), .ref ar]) hK (c_L_low l (x := (yy >>> (11 &&& 31))) (n := 30) (by decide) (by decide)) (gk_gS q_12_9 q_12_10 q_10_12 q_12_11) ⟨by decide +kernel, by decide +kernel, by decide +kernel⟩ ⟨(Nat.le_of_ble_eq_true rfl), (Nat.le_of_ble_eq_true rfl)⟩ hP hS rfl hl.1 rfl (Nat.le_of_ble_eq_true rfl) dL_acts_132 ⟨(Nat.le_of_ble_eq_true rfl), (Nat.le_of_ble_eq_true rfl)⟩ (fun v G1 H locs hw hP hS => ?_)
        obtain ⟨⟨j_18, hj_18, rfl⟩, hG9⟩ := hw
        rw [hG9] at hP
        refine W.eq (g2 := F0 m 135 ls [.int (nI j_18), .int (nI ((9 * r) + 2)), .ref ar]) rfl ?_
        refine lv_goto (tgt := 139) hK.1.1 hK.1.2.1 dL_acts_135 (by decide) ?_
        exact J139 (nI j_18) ls _ _ (rg_m (b := 29) (by have := hj_18; omega) (by decide)) hP hS (lv_sub hl [0, 1, 2, 3, 4, 5, 6, 7, 8, 9, 10, 11] rfl)
    refine lv_if_ne (tgt := 106) hK.1.1 hK.1.2.1 dL_acts_90 (by decide) (fun c90_19 => ?_) (fun c90_19 => ?_)
    · refine lv_iconst (v := (-1)) hK.1.1 hK.1.2.1 dL_acts_106 (by decide) ?_
      exact J107 (-1) ls _ _ ⟨by decide, by decide⟩ hP hS (lv_sub hl [0, 1, 2, 3, 4, 5, 6, 7, 8, 9, 10, 11] rfl)
    · refine lv_iload hK.1.1 hK.1.2.1 dL_acts_93 (lv_at hl 7 rfl) ?_
      refine lv_bipush (v := 6) hK.1.1 hK.1.2.1 dL_acts_95 (by decide) ?_
      refine lv_ishr hK.1.1 hK.1.2.1 dL_acts_97 ?_
      refine lv_bipush (v := 7) hK.1.1 hK.1.2.1 dL_acts_98 (by decide) ?_
      refine gk_callS0 (n := 2) (As := [.int (yy >>> (6 &&& 31)), .int 7]) (rest := [.int (nI ((9 * r) + 1)), .ref ar]) hK (c_L_low l (x := (yy >>> (6 &&& 31))) (n := 7) (by decide) (by decide)) (gk_gS q_12_9 q_12_10 q_10_12 q_12_11) ⟨by decide +kernel, by decide +kernel, by decide +kernel⟩ ⟨(Nat.le_of_ble_eq_true rfl), (Nat.le_of_ble_eq_true rfl)⟩ hP hS rfl hl.1 rfl (Nat.le_of_ble_eq_true rfl) dL_acts_100 ⟨(Nat.le_of_ble_eq_true rfl), (Nat.le_of_ble_eq_true rfl)⟩ (fun v G1 H locs hw hP hS => ?_)
      obtain ⟨⟨j_20, hj_20, rfl⟩, hG9⟩ := hw
      rw [hG9] at hP
      refine W.eq (g2 := F0 m 103 ls [.int (nI j_20), .int (nI ((9 * r) + 1)), .ref ar]) rfl ?_
      refine lv_goto (tgt := 107) hK.1.1 hK.1.2.1 dL_acts_103 (by decide) ?_
      exact J107 (nI j_20) ls _ _ (rg_m (b := 6) (by have := hj_20; omega) (by decide)) hP hS (lv_sub hl [0, 1, 2, 3, 4, 5, 6, 7, 8, 9, 10, 11] rfl)
  refine lv_if_ne (tgt := 67) hK.1.1 hK.1.2.1 dL_acts_60 (by decide) (fun c60_21 => ?_) (fun c60_21 => ?_)
  · refine lv_iload hK.1.1 hK.1.2.1 dL_acts_67 (lv_at hl 7 rfl) ?_
    refine lv_iconst (v := 2) hK.1.1 hK.1.2.1 dL_acts_69 (by decide) ?_
    refine lv_ishr hK.1.1 hK.1.2.1 dL_acts_70 ?_
    refine lv_bipush (v := 60) hK.1.1 hK.1.2.1 dL_acts_71 (by decide) ?_
    refine gk_callS0 (n := 2) (As := [.int (yy >>> (2 &&& 31)), .int 60]) (rest := [.int (nI (9 * r)), .ref ar]) hK (c_L_low l (x := (yy >>> (2 &&& 31))) (n := 60) (by decide) (by decide)) (gk_gS q_12_9 q_12_10 q_10_12 q_12_11) ⟨by decide +kernel, by decide +kernel, by decide +kernel⟩ ⟨(Nat.le_of_ble_eq_true rfl), (Nat.le_of_ble_eq_true rfl)⟩ hP hS rfl hl.1 rfl (Nat.le_of_ble_eq_true rfl) dL_acts_73 ⟨(Nat.le_of_ble_eq_true rfl), (Nat.le_of_ble_eq_true rfl)⟩ (fun v G1 H locs hw hP hS => ?_)
    obtain ⟨⟨j_22, hj_22, rfl⟩, hG9⟩ := hw
    rw [hG9] at hP
    refine W.eq (g2 := F0 m 76 ls [.int (nI j_22), .int (nI (9 * r)), .ref ar]) rfl ?_
    exact J76 (nI j_22) ls _ _ (rg_n (c := 0) (b := 10000) (by have := hj_22; omega) (by decide) (Nat.zero_le _)) hP hS (lv_sub hl [0, 1, 2, 3, 4, 5, 6, 7, 8, 9, 10, 11] rfl)
  · refine lv_iconst (v := 0) hK.1.1 hK.1.2.1 dL_acts_63 (by decide) ?_
    refine lv_goto (tgt := 76) hK.1.1 hK.1.2.1 dL_acts_64 (by decide) ?_
    exact J76 0 ls _ _ ⟨by decide, by decide⟩ hP hS (lv_sub hl [0, 1, 2, 3, 4, 5, 6, 7, 8, 9, 10, 11] rfl)
end AW
