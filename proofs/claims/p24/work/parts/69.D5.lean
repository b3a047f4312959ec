/-! the law: a run and what it did -/
set_option maxHeartbeats 4000000 in
set_option maxRecDepth 100000 in
theorem c_L_runs (l : Launch) {y : ly_T} {A : Nat → Prop} {G : gk_G} {ed N : Nat} {td : Int32} {ru : Nat → Nat → Int32} {fr : Nat → Nat} {hf hp hp2 : Nat → Option Nat} {S S2 : ts_T} {tt rr ff cc : Nat → Int32} {fi fi2 φ : Nat → Nat} {ar af ac : Nat} (hfl : l.stackTraces = false) (hW : lw y G td ru fr hf S hp td ru fr hf S2 hp2 [(ar, 27, rr), (af, 20, ff), (ac, 1, cc)]) (hI : iv ed N td ru fr hf S hp tt fi) (hI2 : iv ed N td ru fr hf S2 hp2 tt fi2) (hrn : rn φ S hp S2 hp2) (hlr : lr rr ru) (hlf : lf ff fr S tt) (hcc : cc 0 = td) (hN : N ≤ 110) : gk_M0 l yL_runs (Cond.code yL_runs cL_runs 14 (some .boolean)) 9 320 42 30100 y A [.ref (ly_a y 0), .ref (ly_a (ly_sw y) 0), .ref ar, .ref af, .ref ac] G (fun v G1 => v = some (.int 1) ∧ lj y G1 ar af ac (N + 1)) := by
  refine gk_of0 (cc := cL_runs) (maxL := 14) (ret := (some .boolean)) (own := RL) (by decide +kernel) rfl rfl (Nat.le_of_ble_eq_true rfl) ?_
  intro p e s m below meth c ls hK hret hlk _ hP hS hl
  have hl : lv_has ls 14 [(0, .ref (ly_a y 0)), (1, .ref (ly_a (ly_sw y) 0)), (2, .ref ar), (3, .ref af), (4, .ref ac)] := hl
  have hN1 : N ≤ 111 := by omega
  have he9 := hI.1.2
  have hfr : ∀ f, f < 5 → fr f < 3 := fun f hf5 => (hI.2.2.1 f hf5).1
  refine lv_iconst (v := 0) hK.1.1 hK.1.2.1 dL_runs_0 (by decide) ?_
  refine lv_istore (lv' := [(5, .int 0), (0, .ref (ly_a y 0)), (1, .ref (ly_a (ly_sw y) 0)), (2, .ref ar), (3, .ref af), (4, .ref ac)]) hK.1.1 hK.1.2.1 dL_runs_1 hl (by decide) rfl (fun ls hl => ?_)
  refine lv_iconst (v := 4) hK.1.1 hK.1.2.1 dL_runs_3 (by decide) ?_
  refine gk_newa hK.1 hK.2.2.1.1 hP hS hK.2.2.2 (atype := .int) q_1_3 rfl 0 (ty := .int) rfl (a0 := (4, .inl (fun _ => 0))) (fun _ => rfl) (by decide) (by decide) (by decide) (Nat.le_of_ble_eq_true rfl) (Nat.le_of_ble_eq_true rfl) dL_runs_4 (fun q_1 H hn_2 hP hS => ?_)
  have hW : lw y (gk_up G q_1 (rp_i (ly_k y 0) 4 (fun _ => 0))) td ru fr hf S hp td ru fr hf S2 hp2 [(q_1, 4, (fun _ => 0)), (ar, 27, rr), (af, 20, ff), (ac, 1, cc)] := lw_new hW hn_2 4 (fun _ => 0)
  obtain ⟨G_3, hG_3⟩ : ∃ z, z = gk_up G q_1 (rp_i (ly_k y 0) 4 (fun _ => 0)) := ⟨_, rfl⟩
  have hP : gk_P (ly_D y) A G_3 H := by rw [hG_3]; exact hP
  have hW : lw y G_3 td ru fr hf S hp td ru fr hf S2 hp2 [(q_1, 4, (fun _ => 0)), (ar, 27, rr), (af, 20, ff), (ac, 1, cc)] := by rw [hG_3]; exact hW
  refine lv_astore (lv' := [(6, .ref q_1), (5, .int 0), (0, .ref (ly_a y 0)), (1, .ref (ly_a (ly_sw y) 0)), (2, .ref ar), (3, .ref af), (4, .ref ac)]) hK.1.1 hK.1.2.1 dL_runs_6 hl (by decide) rfl (fun ls hl => ?_)
  refine lv_iconst (v := 1) hK.1.1 hK.1.2.1 dL_runs_8 (by decide) ?_
  refine gk_newa hK.1 hK.2.2.1.1 hP hS hK.2.2.2 (atype := .int) q_1_3 rfl 0 (ty := .int) rfl (a0 := (1, .inl (fun _ => 0))) (fun _ => rfl) (by decide) (by decide) (by decide) (Nat.le_of_ble_eq_true rfl) (Nat.le_of_ble_eq_true rfl) dL_runs_9 (fun q_4 H hn_5 hP hS => ?_)
  have hW : lw y (gk_up G_3 q_4 (rp_i (ly_k y 0) 1 (fun _ => 0))) td ru fr hf S hp td ru fr hf S2 hp2 [(q_4, 1, (fun _ => 0)), (q_1, 4, (fun _ => 0)), (ar, 27, rr), (af, 20, ff), (ac, 1, cc)] := lw_new hW hn_5 1 (fun _ => 0)
  obtain ⟨G_6, hG_6⟩ : ∃ z, z = gk_up G_3 q_4 (rp_i (ly_k y 0) 1 (fun _ => 0)) := ⟨_, rfl⟩
  have hP : gk_P (ly_D y) A G_6 H := by rw [hG_6]; exact hP
  have hW : lw y G_6 td ru fr hf S hp td ru fr hf S2 hp2 [(q_4, 1, (fun _ => 0)), (q_1, 4, (fun _ => 0)), (ar, 27, rr), (af, 20, ff), (ac, 1, cc)] := by rw [hG_6]; exact hW
  refine lv_astore (lv' := [(7, .ref q_4), (6, .ref q_1), (5, .int 0), (0, .ref (ly_a y 0)), (1, .ref (ly_a (ly_sw y) 0)), (2, .ref ar), (3, .ref af), (4, .ref ac)]) hK.1.1 hK.1.2.1 dL_runs_11 hl (by decide) rfl (fun ls hl => ?_)
  refine lv_aload hK.1.1 hK.1.2.1 dL_runs_13 (lv_at hl 0 rfl) ?_
  refine lv_iconst (v := 0) hK.1.1 hK.1.2.1 dL_runs_15 (by decide) ?_
  refine lv_iconst (v := 1) hK.1.1 hK.1.2.1 dL_runs_16 (by decide) ?_
  refine gk_iast hK.1 hK.2.2.1.1 hP hS 0 (lw_get hW (k := 0) rfl) rfl (i := 0) (vp_in_nI (n := 0) (N := 1) (by omega) (by decide)) dL_runs_17 (fun H locs hP hS => ?_)
  rw [show (0 : Int32).toNatClampNeg = 0 from nI_clamp (n := 0) (by omega)] at hP
  obtain ⟨g_7, hg_7⟩ : ∃ z, z = upd (fun _ => 0) 0 1 := ⟨_, rfl⟩
  have hW : lw y (gk_up G_6 q_4 (rp_i (ly_k y 0) 1 g_7)) td ru fr hf S hp td ru fr hf S2 hp2 [(q_4, 1, g_7), (q_1, 4, (fun _ => 0)), (ar, 27, rr), (af, 20, ff), (ac, 1, cc)] := lw_set hW (k := 0) rfl g_7
  have hP : gk_P (ly_D y) A (gk_up G_6 q_4 (rp_i (ly_k y 0) 1 g_7)) H := by rw [hg_7]; exact hP
  obtain ⟨G_8, hG_8⟩ : ∃ z, z = gk_up G_6 q_4 (rp_i (ly_k y 0) 1 g_7) := ⟨_, rfl⟩
  have hP : gk_P (ly_D y) A G_8 H := by rw [hG_8]; exact hP
  have hW : lw y G_8 td ru fr hf S hp td ru fr hf S2 hp2 [(q_4, 1, g_7), (q_1, 4, (fun _ => 0)), (ar, 27, rr), (af, 20, ff), (ac, 1, cc)] := by rw [hG_8]; exact hW
  have hd1 : g_7 0 = 1 := by rw [hg_7]; exact pk_us
  refine lv_iconst (v := 0) hK.1.1 hK.1.2.1 dL_runs_18 (by decide) ?_
  refine lv_istore (lv' := [(8, .int 0), (7, .ref q_4), (6, .ref q_1), (5, .int 0), (0, .ref (ly_a y 0)), (1, .ref (ly_a (ly_sw y) 0)), (2, .ref ar), (3, .ref af), (4, .ref ac)]) hK.1.1 hK.1.2.1 dL_runs_19 hl (by decide) rfl (fun ls hl => ?_)
  have loopA : ∀ (dd k : Nat) (ls : Array Slot) (H : Heap) (locs : List Loc), 5 - k = dd → k ≤ 5 → gk_P (ly_D y) A G_8 H → va_S A s.heap H locs → lv_has ls 14 [(8, .int (nI k)), (5, .int (sv (t_dueS td ru fr S) k)), (7, .ref q_4), (6, .ref q_1), (0, .ref (ly_a y 0)), (1, .ref (ly_a (ly_sw y) 0)), (2, .ref ar), (3, .ref af), (4, .ref ac)] → W p l e { frames := 9, cells := 42, slots := 30100, locals := 320 } s m [.ref (ly_a y 0), .ref (ly_a (ly_sw y) 0), .ref ar, .ref af, .ref ac].toArray below meth c H locs ((0 + 1) + 1) ((0 + 4) + 1) (MQ below (gk_Q y A (fun v G1 => v = some (.int 1) ∧ lj y G1 ar af ac (N + 1))) [.ref (ly_a y 0), .ref (ly_a (ly_sw y) 0), .ref ar, .ref af, .ref ac].toArray s 42 30100 A) (F0 m 21 ls []) := by
    intro dd
    induction dd using Nat.strongRecOn with
    | _ dd ihA =>
    intro k ls H locs hdd hk hP hS hl
    refine lv_iload hK.1.1 hK.1.2.1 dL_runs_21 (lv_at hl 0 rfl) ?_
    refine lv_iconst (v := 5) hK.1.1 hK.1.2.1 dL_runs_23 (by decide) ?_
    refine lv_icmp_ge (tgt := 61) hK.1.1 hK.1.2.1 dL_runs_24 (by decide) (fun c24_9 => ?_) (fun c24_9 => ?_)
    · have hk5 : k = 5 := Nat.le_antisymm hk ((nI_leI (a := 5) (by omega) (by omega)).mp c24_9)
      subst hk5
      refine lv_iconst (v := 0) hK.1.1 hK.1.2.1 dL_runs_61 (by decide) ?_
      refine lv_istore (lv' := [(8, .int 0), (5, .int (sv (t_dueS td ru fr S) 5)), (7, .ref q_4), (6, .ref q_1), (0, .ref (ly_a y 0)), (1, .ref (ly_a (ly_sw y) 0)), (2, .ref ar), (3, .ref af), (4, .ref ac)]) hK.1.1 hK.1.2.1 dL_runs_62 hl (by decide) rfl (fun ls hl => ?_)
      have loopB : ∀ (dd n : Nat) (gg : Nat → Int32) (ls : Array Slot) (H : Heap) (locs : List Loc) (G : gk_G), 4 - n = dd → n ≤ 4 → (∀ j, j < n → gg j = hz hf hp S.2.2.2.2.1 j) → gk_P (ly_D y) A G H → va_S A s.heap H locs → lw y G td ru fr hf S hp td ru fr hf S2 hp2 [(q_4, 1, g_7), (q_1, 4, gg), (ar, 27, rr), (af, 20, ff), (ac, 1, cc)] → lv_has ls 14 [(8, .int (nI n)), (5, .int (sv (t_dueS td ru fr S) 5)), (7, .ref q_4), (6, .ref q_1), (0, .ref (ly_a y 0)), (1, .ref (ly_a (ly_sw y) 0)), (2, .ref ar), (3, .ref af), (4, .ref ac)] → W p l e { frames := 9, cells := 42, slots := 30100, locals := 320 } s m [.ref (ly_a y 0), .ref (ly_a (ly_sw y) 0), .ref ar, .ref af, .ref ac].toArray below meth c H locs ((0 + 1) + 1) ((0 + 4) + 1) (MQ below (gk_Q y A (fun v G1 => v = some (.int 1) ∧ lj y G1 ar af ac (N + 1))) [.ref (ly_a y 0), .ref (ly_a (ly_sw y) 0), .ref ar, .ref af, .ref ac].toArray s 42 30100 A) (F0 m 64 ls []) := by
        intro dd
        induction dd using Nat.strongRecOn with
        | _ dd ihB =>
        intro n gg ls H locs G hdd hn hgg hP hS hW hl
        refine lv_iload hK.1.1 hK.1.2.1 dL_runs_64 (lv_at hl 0 rfl) ?_
        refine lv_iconst (v := 4) hK.1.1 hK.1.2.1 dL_runs_66 (by decide) ?_
        refine lv_icmp_ge (tgt := 87) hK.1.1 hK.1.2.1 dL_runs_67 (by decide) (fun c67_10 => ?_) (fun c67_10 => ?_)
        · have hn4 : n = 4 := Nat.le_antisymm hn ((nI_leI (a := 4) (by omega) (by omega)).mp c67_10)
          have hgg : ∀ j, j < 4 → gg j = hz hf hp S.2.2.2.2.1 j := fun j hj => hgg j (by omega)
          refine lv_aload_n hK.1.1 hK.1.2.1 dL_runs_87 rfl (lv_at hl 4 rfl) ?_
          refine gk_callV0 (n := 0) (As := []) (rest := []) hK (co_run hW (iv_Ll hI) (iv_in5 hI) (iv_len5 hI hN1)) (gk_gV q_3_23 q_4_0 q_4_1 q_1_2 q_4_2) ⟨rfl, by decide +kernel, by decide +kernel, by decide +kernel⟩ ⟨(Nat.le_of_ble_eq_true rfl), (Nat.le_of_ble_eq_true rfl)⟩ hP hS (gk_recv hK.2.2.1.1 hP (lw_o hW).1 rfl) rfl hl.1 rfl (Nat.le_of_ble_eq_true rfl) dL_runs_88 ⟨(Nat.le_of_ble_eq_true rfl), (Nat.le_of_ble_eq_true rfl)⟩ (fun v G_11 H locs hw hP hS => ?_)
          obtain ⟨T, bo, hro, rfl, hW⟩ := hw
          refine W.eq (g2 := F0 m 91 ls [.int bo]) rfl ?_
          obtain ⟨e1, ⟨fi3, hIT⟩, htu, hsa⟩ := iv_run hI hro
          obtain ⟨hpT, hhpT⟩ : ∃ z, z = t_tls bo ru fr T.1 hf hp 3 := ⟨_, rfl⟩
          have hW : lw y G_11 td ru fr hf T hpT td ru fr hf S2 hp2 [(q_4, 1, g_7), (q_1, 4, gg), (ar, 27, rr), (af, 20, ff), (ac, 1, cc)] := by rw [hhpT]; exact hW
          rw [← hhpT] at hIT
          refine lv_iload hK.1.1 hK.1.2.1 dL_runs_91 (lv_at hl 1 rfl) ?_
          refine lv_icmp_ne (tgt := 109) hK.1.1 hK.1.2.1 dL_runs_93 (by decide) (fun c => absurd e1 c) (fun _ => ?_)
          refine lv_aload_n hK.1.1 hK.1.2.1 dL_runs_96 rfl (lv_at hl 5 rfl) ?_
          refine gk_callV0 (n := 0) (As := []) (rest := []) hK (ct_run hW (iv_Ll hI2) (iv_in5 hI2) (iv_len5 hI2 hN1)) (gk_gV q_3_23 q_4_0 q_4_1 q_1_2 q_4_2) ⟨rfl, by decide +kernel, by decide +kernel, by decide +kernel⟩ ⟨(Nat.le_of_ble_eq_true rfl), (Nat.le_of_ble_eq_true rfl)⟩ hP hS (gk_recv hK.2.2.1.1 hP (lw_t hW).1 rfl) rfl hl.1 rfl (Nat.le_of_ble_eq_true rfl) dL_runs_97 ⟨(Nat.le_of_ble_eq_true rfl), (Nat.le_of_ble_eq_true rfl)⟩ (fun v G_12 H locs hw hP hS => ?_)
          obtain ⟨T2, bt, hrt, rfl, hW⟩ := hw
          refine W.eq (g2 := F0 m 100 ls [.int bt]) rfl ?_
          obtain ⟨e2, ⟨fi4, hI2T⟩, htu2, hsa2⟩ := iv_run hI2 hrt
          obtain ⟨hpT2, hhpT2⟩ : ∃ z, z = t_tls bt ru fr T2.1 hf hp2 3 := ⟨_, rfl⟩
          have hW : lw y G_12 td ru fr hf T hpT td ru fr hf T2 hpT2 [(q_4, 1, g_7), (q_1, 4, gg), (ar, 27, rr), (af, 20, ff), (ac, 1, cc)] := by rw [hhpT2]; exact hW
          rw [← hhpT2] at hI2T
          obtain ⟨eb, φ2, hrnT⟩ := rn_run (iv_z hI) hrn hro hrt
          rw [← hhpT, ← hhpT2] at hrnT
          refine lv_iload hK.1.1 hK.1.2.1 dL_runs_100 (lv_at hl 1 rfl) ?_
          refine lv_icmp_ne (tgt := 109) hK.1.1 hK.1.2.1 dL_runs_102 (by decide) (fun c => absurd (by rw [eb]; exact e1) c) (fun _ => ?_)
          refine lv_iconst (v := 1) hK.1.1 hK.1.2.1 dL_runs_105 (by decide) ?_
          refine lv_goto (tgt := 110) hK.1.1 hK.1.2.1 dL_runs_106 (by decide) ?_
          refine lv_istore (lv' := [(8, .int 1), (5, .int (sv (t_dueS td ru fr S) 5)), (7, .ref q_4), (6, .ref q_1), (0, .ref (ly_a y 0)), (1, .ref (ly_a (ly_sw y) 0)), (2, .ref ar), (3, .ref af), (4, .ref ac)]) hK.1.1 hK.1.2.1 dL_runs_110 hl (by decide) rfl (fun ls hl => ?_)
          refine lv_iconst (v := 0) hK.1.1 hK.1.2.1 dL_runs_112 (by decide) ?_
          refine lv_istore (lv' := [(9, .int 0), (8, .int 1), (5, .int (sv (t_dueS td ru fr S) 5)), (7, .ref q_4), (6, .ref q_1), (0, .ref (ly_a y 0)), (1, .ref (ly_a (ly_sw y) 0)), (2, .ref ar), (3, .ref af), (4, .ref ac)]) hK.1.1 hK.1.2.1 dL_runs_113 hl (by decide) rfl (fun ls hl => ?_)
          have hN2 : N + 1 ≤ 111 := by omega
          rw [e1] at hhpT
          refine lv_iconst (v := 0) hK.1.1 hK.1.2.1 dL_runs_115 (by decide) ?_
          refine lv_istore (lv' := [(10, .int 0), (9, .int 0), (8, .int 1), (5, .int (sv (t_dueS td ru fr S) 5)), (7, .ref q_4), (6, .ref q_1), (0, .ref (ly_a y 0)), (1, .ref (ly_a (ly_sw y) 0)), (2, .ref ar), (3, .ref af), (4, .ref ac)]) hK.1.1 hK.1.2.1 dL_runs_116 hl (by decide) rfl (fun ls hl => ?_)
          have loopC : ∀ (dd k : Nat) (fk : Nat → Int32) (ls : Array Slot) (H : Heap) (locs : List Loc) (G : gk_G), 5 - k = dd → k ≤ 5 → fk = fw ff td (t_dueS td ru fr S) k → gk_P (ly_D y) A G H → va_S A s.heap H locs → lw y G td ru fr hf T hpT td ru fr hf T2 hpT2 [(q_4, 1, g_7), (q_1, 4, gg), (ar, 27, rr), (af, 20, fk), (ac, 1, cc)] → lv_has ls 14 [(10, .int (nI k)), (9, .int (tv ru fr (t_dueS td ru fr S) k)), (8, .int 1), (5, .int (sv (t_dueS td ru fr S) 5)), (7, .ref q_4), (6, .ref q_1), (0, .ref (ly_a y 0)), (1, .ref (ly_a (ly_sw y) 0)), (2, .ref ar), (3, .ref af), (4, .ref ac)] → W p l e { frames := 9, cells := 42, slots := 30100, locals := 320 } s m [.ref (ly_a y 0), .ref (ly_a (ly_sw y) 0), .ref ar, .ref af, .ref ac].toArray below meth c H locs ((((0 + 1) + 1) + 10) + 10) ((((0 + 4) + 1) + 7515) + 7515) (MQ below (gk_Q y A (fun v G1 => v = some (.int 1) ∧ lj y G1 ar af ac (N + 1))) [.ref (ly_a y 0), .ref (ly_a (ly_sw y) 0), .ref ar, .ref af, .ref ac].toArray s 42 30100 A) (F0 m 118 ls []) := by
            intro dd
            induction dd using Nat.strongRecOn with
            | _ dd ihC =>
            intro k fk ls H locs G hdd hk hfk hP hS hW hl
            have hfk0 : ∀ f, f < 5 → fk (4 * f) = nI (fr f) := fun f hf5 => by rw [hfk]; exact (fw_at k).1.trans (hlf f hf5).1
            refine lv_iload hK.1.1 hK.1.2.1 dL_runs_118 (lv_at hl 0 rfl) ?_
            refine lv_iconst (v := 5) hK.1.1 hK.1.2.1 dL_runs_120 (by decide) ?_
            refine lv_icmp_ge (tgt := 231) hK.1.1 hK.1.2.1 dL_runs_121 (by decide) (fun c121_13 => ?_) (fun c121_13 => ?_)
            · have hk5 : k = 5 := Nat.le_antisymm hk ((nI_leI (a := 5) (by omega) (by omega)).mp c121_13)
              subst hk5
              have hlfT : lf fk fr T tt := by rw [hfk]; exact lf_run hlf htu hsa
              refine lv_iconst (v := 0) hK.1.1 hK.1.2.1 dL_runs_231 (by decide) ?_
              refine lv_istore (lv' := [(10, .int 0), (9, .int (tv ru fr (t_dueS td ru fr S) 5)), (8, .int 1), (5, .int (sv (t_dueS td ru fr S) 5)), (7, .ref q_4), (6, .ref q_1), (0, .ref (ly_a y 0)), (1, .ref (ly_a (ly_sw y) 0)), (2, .ref ar), (3, .ref af), (4, .ref ac)]) hK.1.1 hK.1.2.1 dL_runs_232 hl (by decide) rfl (fun ls hl => ?_)
              have loopD : ∀ (dd n2 : Nat) (ls : Array Slot) (H : Heap) (locs : List Loc), 4 - n2 = dd → n2 ≤ 4 → gk_P (ly_D y) A G H → va_S A s.heap H locs → lv_has ls 14 [(10, .int (nI n2)), (9, .int (tv ru fr (t_dueS td ru fr S) 5)), (8, .int 1), (5, .int (sv (t_dueS td ru fr S) 5)), (7, .ref q_4), (6, .ref q_1), (0, .ref (ly_a y 0)), (1, .ref (ly_a (ly_sw y) 0)), (2, .ref ar), (3, .ref af), (4, .ref ac)] → W p l e { frames := 9, cells := 42, slots := 30100, locals := 320 } s m [.ref (ly_a y 0), .ref (ly_a (ly_sw y) 0), .ref ar, .ref af, .ref ac].toArray below meth c H locs ((((0 + 1) + 1) + 10) + 10) ((((0 + 4) + 1) + 7515) + 7515) (MQ below (gk_Q y A (fun v G1 => v = some (.int 1) ∧ lj y G1 ar af ac (N + 1))) [.ref (ly_a y 0), .ref (ly_a (ly_sw y) 0), .ref ar, .ref af, .ref ac].toArray s 42 30100 A) (F0 m 234 ls []) := by
                intro dd
                induction dd using Nat.strongRecOn with
                | _ dd ihD =>
                intro n2 ls H locs hdd2 hn2 hP hS hl
                refine lv_iload hK.1.1 hK.1.2.1 dL_runs_234 (lv_at hl 0 rfl) ?_
                refine lv_iconst (v := 4) hK.1.1 hK.1.2.1 dL_runs_236 (by decide) ?_
                refine lv_icmp_ge (tgt := 409) hK.1.1 hK.1.2.1 dL_runs_237 (by decide) (fun c237_14 => ?_) (fun c237_14 => ?_)
                · refine lv_iload hK.1.1 hK.1.2.1 dL_runs_409 (lv_at hl 2 rfl) ?_
                  refine lv_if_eq (tgt := 432) hK.1.1 hK.1.2.1 dL_runs_411 (by decide) (fun c => absurd c (by decide)) (fun _ => ?_)
                  refine lv_aload_n hK.1.1 hK.1.2.1 dL_runs_414 rfl (lv_at hl 6 rfl) ?_
                  refine gk_callV0 (n := 0) (As := []) (rest := []) hK (co_run hW (iv_Ll hIT) (iv_in5 hIT) (iv_len5 hIT hN2)) (gk_gV q_3_23 q_4_0 q_4_1 q_1_2 q_4_2) ⟨rfl, by decide +kernel, by decide +kernel, by decide +kernel⟩ ⟨(Nat.le_of_ble_eq_true rfl), (Nat.le_of_ble_eq_true rfl)⟩ hP hS (gk_recv hK.2.2.1.1 hP (lw_o hW).1 rfl) rfl hl.1 rfl (Nat.le_of_ble_eq_true rfl) dL_runs_415 ⟨(Nat.le_of_ble_eq_true rfl), (Nat.le_of_ble_eq_true rfl)⟩ (fun v G_15 H locs hw hP hS => ?_)
                  obtain ⟨T9, b9, hr9, rfl, hW⟩ := hw
                  obtain ⟨hT9, rfl⟩ := run_none (run_nodue htu hsa) 5 (Nat.le_refl 5) T9 b9 hr9
                  rw [tls_0, hT9] at hW
                  refine W.eq (g2 := F0 m 418 ls [.int 0]) rfl ?_
                  refine lv_if_ne (tgt := 432) hK.1.1 hK.1.2.1 dL_runs_418 (by decide) (fun c => absurd rfl c) (fun _ => ?_)
                  refine lv_aload_n hK.1.1 hK.1.2.1 dL_runs_421 rfl (lv_at hl 7 rfl) ?_
                  refine gk_callV0 (n := 0) (As := []) (rest := []) hK (ct_run hW (iv_Ll hI2T) (iv_in5 hI2T) (iv_len5 hI2T hN2)) (gk_gV q_3_23 q_4_0 q_4_1 q_1_2 q_4_2) ⟨rfl, by decide +kernel, by decide +kernel, by decide +kernel⟩ ⟨(Nat.le_of_ble_eq_true rfl), (Nat.le_of_ble_eq_true rfl)⟩ hP hS (gk_recv hK.2.2.1.1 hP (lw_t hW).1 rfl) rfl hl.1 rfl (Nat.le_of_ble_eq_true rfl) dL_runs_422 ⟨(Nat.le_of_ble_eq_true rfl), (Nat.le_of_ble_eq_true rfl)⟩ (fun v G_16 H locs hw hP hS => ?_)
                  obtain ⟨T9, b9, hr9, rfl, hW⟩ := hw
                  obtain ⟨hT9, rfl⟩ := run_none (run_nodue htu2 hsa2) 5 (Nat.le_refl 5) T9 b9 hr9
                  rw [tls_0, hT9] at hW
                  refine W.eq (g2 := F0 m 425 ls [.int 0]) rfl ?_
                  refine lv_if_ne (tgt := 432) hK.1.1 hK.1.2.1 dL_runs_425 (by decide) (fun c => absurd rfl c) (fun _ => ?_)
                  obtain ⟨G_17, hW, hsub⟩ := lw_tail hW
                  have hP := gk_P_sub hP hsub
                  obtain ⟨G_18, hW, hsub⟩ := lw_tail hW
                  have hP := gk_P_sub hP hsub
                  refine lv_iconst (v := 1) hK.1.1 hK.1.2.1 dL_runs_428 (by decide) ?_
                  refine lv_goto (tgt := 433) hK.1.1 hK.1.2.1 dL_runs_429 (by decide) ?_
                  exact gk_zret0 hK.1 hret (by first | decide | exact (rp_nz (by first | assumption | (simp; done))).1) hlk hP hS (Nat.le_of_ble_eq_true rfl) (Nat.le_of_ble_eq_true rfl) dL_runs_433 ⟨rfl, ed, td, ru, fr, hf, T, hpT, T2, hpT2, tt, rr, _, cc, hW, ⟨_, hIT⟩, ⟨_, hI2T⟩, ⟨_, hrnT⟩, hlr, hlfT, hcc⟩
                · have hn5 : n2 < 4 := Nat.lt_of_not_le (fun h => c237_14 (nI_le (a := 4) h (by omega)))
                  have hgn := hgg n2 hn5
                  rcases iv_hz hI hN1 hn5 with ⟨z1, z2, z3⟩ | ⟨g, t, r9, g5, q1, q2, z1, z2, z3, z4⟩
                  · refine lv_aload_n hK.1.1 hK.1.2.1 dL_runs_240 rfl (lv_at hl 6 rfl) ?_
                    refine lv_iload hK.1.1 hK.1.2.1 dL_runs_241 (lv_at hl 0 rfl) ?_
                    refine gk_callSW (n := 2) (As := [.ref (ly_a y 0), .int (nI n2)]) (rest := []) hK (c0_L_holds l hfl (lw_o hW) (h := n2) hn5 (iv_Ho hIT)) (gk_gS q_10_10 q_10_11 q_10_12 q_10_13) ⟨by decide +kernel, by decide +kernel, by decide +kernel⟩ ⟨(Nat.le_of_ble_eq_true rfl), (Nat.le_of_ble_eq_true rfl)⟩ hP hS rfl hl.1 rfl (Nat.le_of_ble_eq_true rfl) dL_runs_243 ⟨(Nat.le_of_ble_eq_true rfl), (Nat.le_of_ble_eq_true rfl)⟩ (fun v G1 H locs hw hP hS => ?_)
                    obtain ⟨x9, hx9, rfl, hG9⟩ := hw
                    rw [hG9] at hP
                    obtain rfl := hz_eq hx9
                    refine W.eq (g2 := F0 m 246 ls [.int (hz hf hpT T.2.2.2.2.1 n2)]) rfl ?_
                    refine W.eq (g2 := F0 m 246 ls [.int (-1)]) (by rw [show hz hf hpT T.2.2.2.2.1 n2 = (-1) from (hz_none z1)]) ?_
                    refine lv_istore (lv' := [(11, .int (-1)), (10, .int (nI n2)), (9, .int (tv ru fr (t_dueS td ru fr S) 5)), (8, .int 1), (5, .int (sv (t_dueS td ru fr S) 5)), (7, .ref q_4), (6, .ref q_1), (0, .ref (ly_a y 0)), (1, .ref (ly_a (ly_sw y) 0)), (2, .ref ar), (3, .ref af), (4, .ref ac)]) hK.1.1 hK.1.2.1 dL_runs_246 hl (by decide) rfl (fun ls hl => ?_)
                    refine lv_aload hK.1.1 hK.1.2.1 dL_runs_248 (lv_at hl 6 rfl) ?_
                    refine lv_iload hK.1.1 hK.1.2.1 dL_runs_250 (lv_at hl 1 rfl) ?_
                    refine gk_iald hK.1 hK.2.2.1.1 hP 0 (lw_get hW (k := 1) rfl) rfl (i := nI n2) (vp_in_nI (n := n2) (N := 4) (by omega) (by decide)) dL_runs_252 ?_
                    refine W.eq (g2 := F0 m 253 ls [.int (-1)]) (by rw [show gg (nI n2).toNatClampNeg = (-1) from by rw [show (nI n2 : Int32).toNatClampNeg = n2 from nI_clamp (n := n2) (by omega)]; exact (hgn.trans z3)]) ?_
                    refine lv_if_lt (tgt := 281) hK.1.1 hK.1.2.1 dL_runs_253 (by decide) (fun _ => ?_) (fun c => absurd (by decide) c)
                    refine lv_iconst (v := 0) hK.1.1 hK.1.2.1 dL_runs_281 (by decide) ?_
                    refine lv_istore (lv' := [(12, .int 0), (11, .int (-1)), (10, .int (nI n2)), (9, .int (tv ru fr (t_dueS td ru fr S) 5)), (8, .int 1), (5, .int (sv (t_dueS td ru fr S) 5)), (7, .ref q_4), (6, .ref q_1), (0, .ref (ly_a y 0)), (1, .ref (ly_a (ly_sw y) 0)), (2, .ref ar), (3, .ref af), (4, .ref ac)]) hK.1.1 hK.1.2.1 dL_runs_282 hl (by decide) rfl (fun ls hl => ?_)
                    refine lv_aload hK.1.1 hK.1.2.1 dL_runs_284 (lv_at hl 7 rfl) ?_
                    refine lv_iload hK.1.1 hK.1.2.1 dL_runs_286 (lv_at hl 2 rfl) ?_
                    refine gk_iald hK.1 hK.2.2.1.1 hP 0 (lw_get hW (k := 1) rfl) rfl (i := nI n2) (vp_in_nI (n := n2) (N := 4) (by omega) (by decide)) dL_runs_288 ?_
                    refine W.eq (g2 := F0 m 289 ls [.int (-1)]) (by rw [show gg (nI n2).toNatClampNeg = (-1) from by rw [show (nI n2 : Int32).toNatClampNeg = n2 from nI_clamp (n := n2) (by omega)]; exact (hgn.trans z3)]) ?_
                    refine lv_if_lt (tgt := 313) hK.1.1 hK.1.2.1 dL_runs_289 (by decide) (fun _ => ?_) (fun c => absurd (by decide) c)
                    refine lv_iconst (v := 0) hK.1.1 hK.1.2.1 dL_runs_313 (by decide) ?_
                    refine lv_istore (lv' := [(13, .int 0), (12, .int 0), (11, .int (-1)), (10, .int (nI n2)), (9, .int (tv ru fr (t_dueS td ru fr S) 5)), (8, .int 1), (5, .int (sv (t_dueS td ru fr S) 5)), (7, .ref q_4), (6, .ref q_1), (0, .ref (ly_a y 0)), (1, .ref (ly_a (ly_sw y) 0)), (2, .ref ar), (3, .ref af), (4, .ref ac)]) hK.1.1 hK.1.2.1 dL_runs_314 hl (by decide) rfl (fun ls hl => ?_)
                    refine lv_iload hK.1.1 hK.1.2.1 dL_runs_316 (lv_at hl 5 rfl) ?_
                    refine lv_if_eq (tgt := 400) hK.1.1 hK.1.2.1 dL_runs_318 (by decide) (fun c => absurd c (by decide)) (fun _ => ?_)
                    refine lv_aload hK.1.1 hK.1.2.1 dL_runs_321 (lv_at hl 8 rfl) ?_
                    refine lv_iload hK.1.1 hK.1.2.1 dL_runs_323 (lv_at hl 3 rfl) ?_
                    refine gk_iald hK.1 hK.2.2.1.1 hP 0 (lw_get hW (k := 1) rfl) rfl (i := nI n2) (vp_in_nI (n := n2) (N := 4) (by omega) (by decide)) dL_runs_325 ?_
                    refine W.eq (g2 := F0 m 326 ls [.int (-1)]) (by rw [show gg (nI n2).toNatClampNeg = (-1) from by rw [show (nI n2 : Int32).toNatClampNeg = n2 from nI_clamp (n := n2) (by omega)]; exact (hgn.trans z3)]) ?_
                    refine lv_if_ge (tgt := 338) hK.1.1 hK.1.2.1 dL_runs_326 (by decide) (fun c => absurd c (by decide)) (fun _ => ?_)
                    refine lv_iload hK.1.1 hK.1.2.1 dL_runs_329 (lv_at hl 2 rfl) ?_
                    refine lv_iconst (v := (-1)) hK.1.1 hK.1.2.1 dL_runs_331 (by decide) ?_
                    refine lv_icmp_ne (tgt := 400) hK.1.1 hK.1.2.1 dL_runs_332 (by decide) (fun c => absurd rfl c) (fun _ => ?_)
                    refine lv_goto (tgt := 396) hK.1.1 hK.1.2.1 dL_runs_335 (by decide) ?_
                    refine lv_iconst (v := 1) hK.1.1 hK.1.2.1 dL_runs_396 (by decide) ?_
                    refine lv_goto (tgt := 401) hK.1.1 hK.1.2.1 dL_runs_397 (by decide) ?_
                    refine lv_istore (lv' := [(8, .int 1), (13, .int 0), (12, .int 0), (11, .int (-1)), (10, .int (nI n2)), (9, .int (tv ru fr (t_dueS td ru fr S) 5)), (5, .int (sv (t_dueS td ru fr S) 5)), (7, .ref q_4), (6, .ref q_1), (0, .ref (ly_a y 0)), (1, .ref (ly_a (ly_sw y) 0)), (2, .ref ar), (3, .ref af), (4, .ref ac)]) hK.1.1 hK.1.2.1 dL_runs_401 hl (by decide) rfl (fun ls hl => ?_)
                    refine lv_iinc (v := nI (n2 + 1)) (lv' := [(10, .int (nI (n2 + 1))), (8, .int 1), (13, .int 0), (12, .int 0), (11, .int (-1)), (9, .int (tv ru fr (t_dueS td ru fr S) 5)), (5, .int (sv (t_dueS td ru fr S) 5)), (7, .ref q_4), (6, .ref q_1), (0, .ref (ly_a y 0)), (1, .ref (ly_a (ly_sw y) 0)), (2, .ref ar), (3, .ref af), (4, .ref ac)]) hK.1.1 hK.1.2.1 dL_runs_403 hl (k := 4) rfl (nI_1 n2) (by decide) rfl (fun ls hl => ?_)
                    refine lv_goto (tgt := 234) hK.1.1 hK.1.2.1 dL_runs_406 (by decide) ?_
                    exact ihD (4 - (n2 + 1)) (by omega) (n2 + 1) ls _ _ rfl (by omega) hP hS (lv_sub hl [0, 5, 1, 6, 7, 8, 9, 10, 11, 12, 13] rfl)
                  · have hIT9 := hIT
                    rw [hhpT] at hIT9
                    obtain ⟨pT, pT9, w1, w2, w3, w4⟩ := run_hz hI hIT9 hN2 htu hsa hn5 z1 z2
                    rw [← hhpT] at w1
                    refine lv_aload_n hK.1.1 hK.1.2.1 dL_runs_240 rfl (lv_at hl 6 rfl) ?_
                    refine lv_iload hK.1.1 hK.1.2.1 dL_runs_241 (lv_at hl 0 rfl) ?_
                    refine gk_callSW (n := 2) (As := [.ref (ly_a y 0), .int (nI n2)]) (rest := []) hK (c0_L_holds l hfl (lw_o hW) (h := n2) hn5 (iv_Ho hIT)) (gk_gS q_10_10 q_10_11 q_10_12 q_10_13) ⟨by decide +kernel, by decide +kernel, by decide +kernel⟩ ⟨(Nat.le_of_ble_eq_true rfl), (Nat.le_of_ble_eq_true rfl)⟩ hP hS rfl hl.1 rfl (Nat.le_of_ble_eq_true rfl) dL_runs_243 ⟨(Nat.le_of_ble_eq_true rfl), (Nat.le_of_ble_eq_true rfl)⟩ (fun v G1 H locs hw hP hS => ?_)
                    obtain ⟨x9, hx9, rfl, hG9⟩ := hw
                    rw [hG9] at hP
                    obtain rfl := hz_eq hx9
                    refine W.eq (g2 := F0 m 246 ls [.int (hz hf hpT T.2.2.2.2.1 n2)]) rfl ?_
                    refine W.eq (g2 := F0 m 246 ls [.int (nI (100 * g + pT))]) (by rw [show hz hf hpT T.2.2.2.2.1 n2 = nI (100 * g + pT) from w1]) ?_
                    refine lv_istore (lv' := [(11, .int (nI (100 * g + pT))), (10, .int (nI n2)), (9, .int (tv ru fr (t_dueS td ru fr S) 5)), (8, .int 1), (5, .int (sv (t_dueS td ru fr S) 5)), (7, .ref q_4), (6, .ref q_1), (0, .ref (ly_a y 0)), (1, .ref (ly_a (ly_sw y) 0)), (2, .ref ar), (3, .ref af), (4, .ref ac)]) hK.1.1 hK.1.2.1 dL_runs_246 hl (by decide) rfl (fun ls hl => ?_)
                    refine lv_aload hK.1.1 hK.1.2.1 dL_runs_248 (lv_at hl 6 rfl) ?_
                    refine lv_iload hK.1.1 hK.1.2.1 dL_runs_250 (lv_at hl 1 rfl) ?_
                    refine gk_iald hK.1 hK.2.2.1.1 hP 0 (lw_get hW (k := 1) rfl) rfl (i := nI n2) (vp_in_nI (n := n2) (N := 4) (by omega) (by decide)) dL_runs_252 ?_
                    refine W.eq (g2 := F0 m 253 ls [.int (nI (100 * g + r9))]) (by rw [show gg (nI n2).toNatClampNeg = nI (100 * g + r9) from by rw [show (nI n2 : Int32).toNatClampNeg = n2 from nI_clamp (n := n2) (by omega)]; exact (hgn.trans z3)]) ?_
                    refine lv_if_lt (tgt := 281) hK.1.1 hK.1.2.1 dL_runs_253 (by decide) (fun c => absurd c (nI_pos (by omega))) (fun _ => ?_)
                    refine lv_iload hK.1.1 hK.1.2.1 dL_runs_256 (lv_at hl 2 rfl) ?_
                    refine lv_aload_n hK.1.1 hK.1.2.1 dL_runs_258 rfl (lv_at hl 10 rfl) ?_
                    refine lv_iconst (v := 4) hK.1.1 hK.1.2.1 dL_runs_259 (by decide) ?_
                    refine lv_aload hK.1.1 hK.1.2.1 dL_runs_260 (lv_at hl 6 rfl) ?_
                    refine lv_iload hK.1.1 hK.1.2.1 dL_runs_262 (lv_at hl 1 rfl) ?_
                    refine gk_iald hK.1 hK.2.2.1.1 hP 0 (lw_get hW (k := 1) rfl) rfl (i := nI n2) (vp_in_nI (n := n2) (N := 4) (by omega) (by decide)) dL_runs_264 ?_
                    refine W.eq (g2 := F0 m 265 ls [.int (nI (100 * g + r9)), .int 4, .ref af, .int (tv ru fr (t_dueS td ru fr S) 5)]) (by rw [show gg (nI n2).toNatClampNeg = nI (100 * g + r9) from by rw [show (nI n2 : Int32).toNatClampNeg = n2 from nI_clamp (n := n2) (by omega)]; exact (hgn.trans z3)]) ?_
                    refine lv_bipush (v := 100) hK.1.1 hK.1.2.1 dL_runs_265 (by decide) ?_
                    refine lv_idiv hK.1.1 hK.1.2.1 dL_runs_267 (by decide) ?_
                    refine W.eq (g2 := F0 m 268 ls [.int (nI ((100 * g + r9) / 100)), .int 4, .ref af, .int (tv ru fr (t_dueS td ru fr S) 5)]) (by rw [show (nI (100 * g + r9)) / 100 = nI ((100 * g + r9) / 100) from pk_div (by omega) (by decide) (by decide)]) ?_
                    refine W.eq (g2 := F0 m 268 ls [.int (nI g), .int 4, .ref af, .int (tv ru fr (t_dueS td ru fr S) 5)]) (by rw [show nI ((100 * g + r9) / 100) = nI g from (by congr 1; omega)]) ?_
                    refine lv_imul hK.1.1 hK.1.2.1 dL_runs_268 ?_
                    refine W.eq (g2 := F0 m 269 ls [.int (nI (4 * g)), .ref af, .int (tv ru fr (t_dueS td ru fr S) 5)]) (by rw [show 4 * (nI g) = nI (4 * g) from pk_mul _ _]) ?_
                    refine gk_iald hK.1 hK.2.2.1.1 hP 0 (lw_get hW (k := 3) rfl) rfl (i := nI (4 * g)) (vp_in_nI (n := 4 * g) (N := 20) (by omega) (by decide)) dL_runs_269 ?_
                    refine W.eq (g2 := F0 m 270 ls [.int (nI (fr g)), .int (tv ru fr (t_dueS td ru fr S) 5)]) (by rw [show fk (nI (4 * g)).toNatClampNeg = nI (fr g) from by rw [show (nI (4 * g) : Int32).toNatClampNeg = 4 * g from nI_clamp (n := 4 * g) (by omega)]; exact (hlfT g g5).1]) ?_
                    refine lv_ishr hK.1.1 hK.1.2.1 dL_runs_270 ?_
                    refine lv_iconst (v := 1) hK.1.1 hK.1.2.1 dL_runs_271 (by decide) ?_
                    refine lv_iand hK.1.1 hK.1.2.1 dL_runs_272 ?_
                    refine lv_iconst (v := 1) hK.1.1 hK.1.2.1 dL_runs_273 (by decide) ?_
                    refine lv_icmp_ne (tgt := 281) hK.1.1 hK.1.2.1 dL_runs_274 (by decide) (fun c274_19 => ?_) (fun c274_19 => ?_)
                    · refine lv_iconst (v := 0) hK.1.1 hK.1.2.1 dL_runs_281 (by decide) ?_
                      refine lv_istore (lv' := [(12, .int 0), (11, .int (nI (100 * g + pT))), (10, .int (nI n2)), (9, .int (tv ru fr (t_dueS td ru fr S) 5)), (8, .int 1), (5, .int (sv (t_dueS td ru fr S) 5)), (7, .ref q_4), (6, .ref q_1), (0, .ref (ly_a y 0)), (1, .ref (ly_a (ly_sw y) 0)), (2, .ref ar), (3, .ref af), (4, .ref ac)]) hK.1.1 hK.1.2.1 dL_runs_282 hl (by decide) rfl (fun ls hl => ?_)
                      refine lv_aload hK.1.1 hK.1.2.1 dL_runs_284 (lv_at hl 7 rfl) ?_
                      refine lv_iload hK.1.1 hK.1.2.1 dL_runs_286 (lv_at hl 2 rfl) ?_
                      refine gk_iald hK.1 hK.2.2.1.1 hP 0 (lw_get hW (k := 1) rfl) rfl (i := nI n2) (vp_in_nI (n := n2) (N := 4) (by omega) (by decide)) dL_runs_288 ?_
                      refine W.eq (g2 := F0 m 289 ls [.int (nI (100 * g + r9))]) (by rw [show gg (nI n2).toNatClampNeg = nI (100 * g + r9) from by rw [show (nI n2 : Int32).toNatClampNeg = n2 from nI_clamp (n := n2) (by omega)]; exact (hgn.trans z3)]) ?_
                      refine lv_if_lt (tgt := 313) hK.1.1 hK.1.2.1 dL_runs_289 (by decide) (fun c => absurd c (nI_pos (by omega))) (fun _ => ?_)
                      refine lv_iload hK.1.1 hK.1.2.1 dL_runs_292 (lv_at hl 5 rfl) ?_
                      refine lv_aload hK.1.1 hK.1.2.1 dL_runs_294 (lv_at hl 7 rfl) ?_
                      refine lv_iload hK.1.1 hK.1.2.1 dL_runs_296 (lv_at hl 2 rfl) ?_
                      refine gk_iald hK.1 hK.2.2.1.1 hP 0 (lw_get hW (k := 1) rfl) rfl (i := nI n2) (vp_in_nI (n := n2) (N := 4) (by omega) (by decide)) dL_runs_298 ?_
                      refine W.eq (g2 := F0 m 299 ls [.int (nI (100 * g + r9)), .int (sv (t_dueS td ru fr S) 5)]) (by rw [show gg (nI n2).toNatClampNeg = nI (100 * g + r9) from by rw [show (nI n2 : Int32).toNatClampNeg = n2 from nI_clamp (n := n2) (by omega)]; exact (hgn.trans z3)]) ?_
                      refine lv_bipush (v := 100) hK.1.1 hK.1.2.1 dL_runs_299 (by decide) ?_
                      refine lv_idiv hK.1.1 hK.1.2.1 dL_runs_301 (by decide) ?_
                      refine W.eq (g2 := F0 m 302 ls [.int (nI ((100 * g + r9) / 100)), .int (sv (t_dueS td ru fr S) 5)]) (by rw [show (nI (100 * g + r9)) / 100 = nI ((100 * g + r9) / 100) from pk_div (by omega) (by decide) (by decide)]) ?_
                      refine W.eq (g2 := F0 m 302 ls [.int (nI g), .int (sv (t_dueS td ru fr S) 5)]) (by rw [show nI ((100 * g + r9) / 100) = nI g from (by congr 1; omega)]) ?_
                      refine lv_ishr hK.1.1 hK.1.2.1 dL_runs_302 ?_
                      refine lv_iconst (v := 1) hK.1.1 hK.1.2.1 dL_runs_303 (by decide) ?_
                      refine lv_iand hK.1.1 hK.1.2.1 dL_runs_304 ?_
                      refine lv_iconst (v := 1) hK.1.1 hK.1.2.1 dL_runs_305 (by decide) ?_
                      refine lv_icmp_ne (tgt := 313) hK.1.1 hK.1.2.1 dL_runs_306 (by decide) (fun c306_20 => ?_) (fun c306_20 => ?_)
                      · refine lv_iconst (v := 0) hK.1.1 hK.1.2.1 dL_runs_313 (by decide) ?_
                        refine lv_istore (lv' := [(13, .int 0), (12, .int 0), (11, .int (nI (100 * g + pT))), (10, .int (nI n2)), (9, .int (tv ru fr (t_dueS td ru fr S) 5)), (8, .int 1), (5, .int (sv (t_dueS td ru fr S) 5)), (7, .ref q_4), (6, .ref q_1), (0, .ref (ly_a y 0)), (1, .ref (ly_a (ly_sw y) 0)), (2, .ref ar), (3, .ref af), (4, .ref ac)]) hK.1.1 hK.1.2.1 dL_runs_314 hl (by decide) rfl (fun ls hl => ?_)
                        refine lv_iload hK.1.1 hK.1.2.1 dL_runs_316 (lv_at hl 5 rfl) ?_
                        refine lv_if_eq (tgt := 400) hK.1.1 hK.1.2.1 dL_runs_318 (by decide) (fun c => absurd c (by decide)) (fun _ => ?_)
                        refine lv_aload hK.1.1 hK.1.2.1 dL_runs_321 (lv_at hl 8 rfl) ?_
                        refine lv_iload hK.1.1 hK.1.2.1 dL_runs_323 (lv_at hl 3 rfl) ?_
                        refine gk_iald hK.1 hK.2.2.1.1 hP 0 (lw_get hW (k := 1) rfl) rfl (i := nI n2) (vp_in_nI (n := n2) (N := 4) (by omega) (by decide)) dL_runs_325 ?_
                        refine W.eq (g2 := F0 m 326 ls [.int (nI (100 * g + r9))]) (by rw [show gg (nI n2).toNatClampNeg = nI (100 * g + r9) from by rw [show (nI n2 : Int32).toNatClampNeg = n2 from nI_clamp (n := n2) (by omega)]; exact (hgn.trans z3)]) ?_
                        refine lv_if_ge (tgt := 338) hK.1.1 hK.1.2.1 dL_runs_326 (by decide) (fun _ => ?_) (fun c => absurd (nI_pos' (by omega)) c)
                        refine lv_iload hK.1.1 hK.1.2.1 dL_runs_338 (lv_at hl 2 rfl) ?_
                        refine lv_bipush (v := 100) hK.1.1 hK.1.2.1 dL_runs_340 (by decide) ?_
                        refine lv_idiv hK.1.1 hK.1.2.1 dL_runs_342 (by decide) ?_
                        refine W.eq (g2 := F0 m 343 ls [.int (nI ((100 * g + pT) / 100))]) (by rw [show (nI (100 * g + pT)) / 100 = nI ((100 * g + pT) / 100) from pk_div (by omega) (by decide) (by decide)]) ?_
                        refine W.eq (g2 := F0 m 343 ls [.int (nI g)]) (by rw [show nI ((100 * g + pT) / 100) = nI g from (by congr 1; omega)]) ?_
                        refine lv_aload hK.1.1 hK.1.2.1 dL_runs_343 (lv_at hl 8 rfl) ?_
                        refine lv_iload hK.1.1 hK.1.2.1 dL_runs_345 (lv_at hl 3 rfl) ?_
                        refine gk_iald hK.1 hK.2.2.1.1 hP 0 (lw_get hW (k := 1) rfl) rfl (i := nI n2) (vp_in_nI (n := n2) (N := 4) (by omega) (by decide)) dL_runs_347 ?_
                        refine W.eq (g2 := F0 m 348 ls [.int (nI (100 * g + r9)), .int (nI g)]) (by rw [show gg (nI n2).toNatClampNeg = nI (100 * g + r9) from by rw [show (nI n2 : Int32).toNatClampNeg = n2 from nI_clamp (n := n2) (by omega)]; exact (hgn.trans z3)]) ?_
                        refine lv_bipush (v := 100) hK.1.1 hK.1.2.1 dL_runs_348 (by decide) ?_
                        refine lv_idiv hK.1.1 hK.1.2.1 dL_runs_350 (by decide) ?_
                        refine W.eq (g2 := F0 m 351 ls [.int (nI ((100 * g + r9) / 100)), .int (nI g)]) (by rw [show (nI (100 * g + r9)) / 100 = nI ((100 * g + r9) / 100) from pk_div (by omega) (by decide) (by decide)]) ?_
                        refine W.eq (g2 := F0 m 351 ls [.int (nI g), .int (nI g)]) (by rw [show nI ((100 * g + r9) / 100) = nI g from (by congr 1; omega)]) ?_
                        refine lv_icmp_ne (tgt := 400) hK.1.1 hK.1.2.1 dL_runs_351 (by decide) (fun c => absurd rfl c) (fun _ => ?_)
                        refine lv_iload hK.1.1 hK.1.2.1 dL_runs_354 (lv_at hl 1 rfl) ?_
                        refine lv_if_eq (tgt := 370) hK.1.1 hK.1.2.1 dL_runs_356 (by decide) (fun _ => ?_) (fun c => absurd (by decide) c)
                        refine lv_iload hK.1.1 hK.1.2.1 dL_runs_370 (lv_at hl 0 rfl) ?_
                        refine lv_if_eq (tgt := 386) hK.1.1 hK.1.2.1 dL_runs_372 (by decide) (fun _ => ?_) (fun c => absurd (by decide) c)
                        refine lv_iload hK.1.1 hK.1.2.1 dL_runs_386 (lv_at hl 2 rfl) ?_
                        refine lv_aload hK.1.1 hK.1.2.1 dL_runs_388 (lv_at hl 8 rfl) ?_
                        refine lv_iload hK.1.1 hK.1.2.1 dL_runs_390 (lv_at hl 3 rfl) ?_
                        refine gk_iald hK.1 hK.2.2.1.1 hP 0 (lw_get hW (k := 1) rfl) rfl (i := nI n2) (vp_in_nI (n := n2) (N := 4) (by omega) (by decide)) dL_runs_392 ?_
                        refine W.eq (g2 := F0 m 393 ls [.int (nI (100 * g + r9)), .int (nI (100 * g + pT))]) (by rw [show gg (nI n2).toNatClampNeg = nI (100 * g + r9) from by rw [show (nI n2 : Int32).toNatClampNeg = n2 from nI_clamp (n := n2) (by omega)]; exact (hgn.trans z3)]) ?_
                        refine lv_icmp_ne (tgt := 400) hK.1.1 hK.1.2.1 dL_runs_393 (by decide) (fun c => absurd ((w4 c274_19 (fun z => c306_20 ((sv_c (D := (t_dueS td ru fr S)) g5).mpr z))).trans z3) c) (fun _ => ?_)
                        refine lv_iconst (v := 1) hK.1.1 hK.1.2.1 dL_runs_396 (by decide) ?_
                        refine lv_goto (tgt := 401) hK.1.1 hK.1.2.1 dL_runs_397 (by decide) ?_
                        refine lv_istore (lv' := [(8, .int 1), (13, .int 0), (12, .int 0), (11, .int (nI (100 * g + pT))), (10, .int (nI n2)), (9, .int (tv ru fr (t_dueS td ru fr S) 5)), (5, .int (sv (t_dueS td ru fr S) 5)), (7, .ref q_4), (6, .ref q_1), (0, .ref (ly_a y 0)), (1, .ref (ly_a (ly_sw y) 0)), (2, .ref ar), (3, .ref af), (4, .ref ac)]) hK.1.1 hK.1.2.1 dL_runs_401 hl (by decide) rfl (fun ls hl => ?_)
                        refine lv_iinc (v := nI (n2 + 1)) (lv' := [(10, .int (nI (n2 + 1))), (8, .int 1), (13, .int 0), (12, .int 0), (11, .int (nI (100 * g + pT))), (9, .int (tv ru fr (t_dueS td ru fr S) 5)), (5, .int (sv (t_dueS td ru fr S) 5)), (7, .ref q_4), (6, .ref q_1), (0, .ref (ly_a y 0)), (1, .ref (ly_a (ly_sw y) 0)), (2, .ref ar), (3, .ref af), (4, .ref ac)]) hK.1.1 hK.1.2.1 dL_runs_403 hl (k := 4) rfl (nI_1 n2) (by decide) rfl (fun ls hl => ?_)
                        refine lv_goto (tgt := 234) hK.1.1 hK.1.2.1 dL_runs_406 (by decide) ?_
                        exact ihD (4 - (n2 + 1)) (by omega) (n2 + 1) ls _ _ rfl (by omega) hP hS (lv_sub hl [0, 5, 1, 6, 7, 8, 9, 10, 11, 12, 13] rfl)
                      · refine lv_iconst (v := 1) hK.1.1 hK.1.2.1 dL_runs_309 (by decide) ?_
                        refine lv_goto (tgt := 314) hK.1.1 hK.1.2.1 dL_runs_310 (by decide) ?_
                        refine lv_istore (lv' := [(13, .int 1), (12, .int 0), (11, .int (nI (100 * g + pT))), (10, .int (nI n2)), (9, .int (tv ru fr (t_dueS td ru fr S) 5)), (8, .int 1), (5, .int (sv (t_dueS td ru fr S) 5)), (7, .ref q_4), (6, .ref q_1), (0, .ref (ly_a y 0)), (1, .ref (ly_a (ly_sw y) 0)), (2, .ref ar), (3, .ref af), (4, .ref ac)]) hK.1.1 hK.1.2.1 dL_runs_314 hl (by decide) rfl (fun ls hl => ?_)
                        refine lv_iload hK.1.1 hK.1.2.1 dL_runs_316 (lv_at hl 5 rfl) ?_
                        refine lv_if_eq (tgt := 400) hK.1.1 hK.1.2.1 dL_runs_318 (by decide) (fun c => absurd c (by decide)) (fun _ => ?_)
                        refine lv_aload hK.1.1 hK.1.2.1 dL_runs_321 (lv_at hl 8 rfl) ?_
                        refine lv_iload hK.1.1 hK.1.2.1 dL_runs_323 (lv_at hl 3 rfl) ?_
                        refine gk_iald hK.1 hK.2.2.1.1 hP 0 (lw_get hW (k := 1) rfl) rfl (i := nI n2) (vp_in_nI (n := n2) (N := 4) (by omega) (by decide)) dL_runs_325 ?_
                        refine W.eq (g2 := F0 m 326 ls [.int (nI (100 * g + r9))]) (by rw [show gg (nI n2).toNatClampNeg = nI (100 * g + r9) from by rw [show (nI n2 : Int32).toNatClampNeg = n2 from nI_clamp (n := n2) (by omega)]; exact (hgn.trans z3)]) ?_
                        refine lv_if_ge (tgt := 338) hK.1.1 hK.1.2.1 dL_runs_326 (by decide) (fun _ => ?_) (fun c => absurd (nI_pos' (by omega)) c)
                        refine lv_iload hK.1.1 hK.1.2.1 dL_runs_338 (lv_at hl 2 rfl) ?_
                        refine lv_bipush (v := 100) hK.1.1 hK.1.2.1 dL_runs_340 (by decide) ?_
                        refine lv_idiv hK.1.1 hK.1.2.1 dL_runs_342 (by decide) ?_
                        refine W.eq (g2 := F0 m 343 ls [.int (nI ((100 * g + pT) / 100))]) (by rw [show (nI (100 * g + pT)) / 100 = nI ((100 * g + pT) / 100) from pk_div (by omega) (by decide) (by decide)]) ?_
                        refine W.eq (g2 := F0 m 343 ls [.int (nI g)]) (by rw [show nI ((100 * g + pT) / 100) = nI g from (by congr 1; omega)]) ?_
                        refine lv_aload hK.1.1 hK.1.2.1 dL_runs_343 (lv_at hl 8 rfl) ?_
                        refine lv_iload hK.1.1 hK.1.2.1 dL_runs_345 (lv_at hl 3 rfl) ?_
                        refine gk_iald hK.1 hK.2.2.1.1 hP 0 (lw_get hW (k := 1) rfl) rfl (i := nI n2) (vp_in_nI (n := n2) (N := 4) (by omega) (by decide)) dL_runs_347 ?_
                        refine W.eq (g2 := F0 m 348 ls [.int (nI (100 * g + r9)), .int (nI g)]) (by rw [show gg (nI n2).toNatClampNeg = nI (100 * g + r9) from by rw [show (nI n2 : Int32).toNatClampNeg = n2 from nI_clamp (n := n2) (by omega)]; exact (hgn.trans z3)]) ?_
                        refine lv_bipush (v := 100) hK.1.1 hK.1.2.1 dL_runs_348 (by decide) ?_
                        refine lv_idiv hK.1.1 hK.1.2.1 dL_runs_350 (by decide) ?_
                        refine W.eq (g2 := F0 m 351 ls [.int (nI ((100 * g + r9) / 100)), .int (nI g)]) (by rw [show (nI (100 * g + r9)) / 100 = nI ((100 * g + r9) / 100) from pk_div (by omega) (by decide) (by decide)]) ?_
                        refine W.eq (g2 := F0 m 351 ls [.int (nI g), .int (nI g)]) (by rw [show nI ((100 * g + r9) / 100) = nI g from (by congr 1; omega)]) ?_
                        refine lv_icmp_ne (tgt := 400) hK.1.1 hK.1.2.1 dL_runs_351 (by decide) (fun c => absurd rfl c) (fun _ => ?_)
                        refine lv_iload hK.1.1 hK.1.2.1 dL_runs_354 (lv_at hl 1 rfl) ?_
                        refine lv_if_eq (tgt := 370) hK.1.1 hK.1.2.1 dL_runs_356 (by decide) (fun _ => ?_) (fun c => absurd (by decide) c)
                        refine lv_iload hK.1.1 hK.1.2.1 dL_runs_370 (lv_at hl 0 rfl) ?_
                        refine lv_if_eq (tgt := 386) hK.1.1 hK.1.2.1 dL_runs_372 (by decide) (fun c => absurd c (by decide)) (fun _ => ?_)
                        refine lv_iload hK.1.1 hK.1.2.1 dL_runs_375 (lv_at hl 2 rfl) ?_
                        refine lv_bipush (v := 100) hK.1.1 hK.1.2.1 dL_runs_377 (by decide) ?_
                        refine lv_irem hK.1.1 hK.1.2.1 dL_runs_379 (by decide) ?_
                        refine W.eq (g2 := F0 m 380 ls [.int (nI ((100 * g + pT) % 100))]) (by rw [show (nI (100 * g + pT)) - (nI (100 * g + pT)) / 100 * 100 = nI ((100 * g + pT) % 100) from pk_rem (by omega) (by decide) (by decide)]) ?_
                        refine W.eq (g2 := F0 m 380 ls [.int (nI pT)]) (by rw [show nI ((100 * g + pT) % 100) = nI pT from (by congr 1; omega)]) ?_
                        refine lv_if_le (tgt := 400) hK.1.1 hK.1.2.1 dL_runs_380 (by decide) (fun c => absurd c (nI_nle (w3 c274_19 ((sv_c (D := (t_dueS td ru fr S)) g5).mp c306_20)) (by omega))) (fun _ => ?_)
                        refine lv_goto (tgt := 396) hK.1.1 hK.1.2.1 dL_runs_383 (by decide) ?_
                        refine lv_iconst (v := 1) hK.1.1 hK.1.2.1 dL_runs_396 (by decide) ?_
                        refine lv_goto (tgt := 401) hK.1.1 hK.1.2.1 dL_runs_397 (by decide) ?_
                        refine lv_istore (lv' := [(8, .int 1), (13, .int 1), (12, .int 0), (11, .int (nI (100 * g + pT))), (10, .int (nI n2)), (9, .int (tv ru fr (t_dueS td ru fr S) 5)), (5, .int (sv (t_dueS td ru fr S) 5)), (7, .ref q_4), (6, .ref q_1), (0, .ref (ly_a y 0)), (1, .ref (ly_a (ly_sw y) 0)), (2, .ref ar), (3, .ref af), (4, .ref ac)]) hK.1.1 hK.1.2.1 dL_runs_401 hl (by decide) rfl (fun ls hl => ?_)
                        refine lv_iinc (v := nI (n2 + 1)) (lv' := [(10, .int (nI (n2 + 1))), (8, .int 1), (13, .int 1), (12, .int 0), (11, .int (nI (100 * g + pT))), (9, .int (tv ru fr (t_dueS td ru fr S) 5)), (5, .int (sv (t_dueS td ru fr S) 5)), (7, .ref q_4), (6, .ref q_1), (0, .ref (ly_a y 0)), (1, .ref (ly_a (ly_sw y) 0)), (2, .ref ar), (3, .ref af), (4, .ref ac)]) hK.1.1 hK.1.2.1 dL_runs_403 hl (k := 4) rfl (nI_1 n2) (by decide) rfl (fun ls hl => ?_)
                        refine lv_goto (tgt := 234) hK.1.1 hK.1.2.1 dL_runs_406 (by decide) ?_
                        exact ihD (4 - (n2 + 1)) (by omega) (n2 + 1) ls _ _ rfl (by omega) hP hS (lv_sub hl [0, 5, 1, 6, 7, 8, 9, 10, 11, 12, 13] rfl)
                    · refine lv_iconst (v := 1) hK.1.1 hK.1.2.1 dL_runs_277 (by decide) ?_
                      refine lv_goto (tgt := 282) hK.1.1 hK.1.2.1 dL_runs_278 (by decide) ?_
                      refine lv_istore (lv' := [(12, .int 1), (11, .int (nI (100 * g + pT))), (10, .int (nI n2)), (9, .int (tv ru fr (t_dueS td ru fr S) 5)), (8, .int 1), (5, .int (sv (t_dueS td ru fr S) 5)), (7, .ref q_4), (6, .ref q_1), (0, .ref (ly_a y 0)), (1, .ref (ly_a (ly_sw y) 0)), (2, .ref ar), (3, .ref af), (4, .ref ac)]) hK.1.1 hK.1.2.1 dL_runs_282 hl (by decide) rfl (fun ls hl => ?_)
                      refine lv_aload hK.1.1 hK.1.2.1 dL_runs_284 (lv_at hl 7 rfl) ?_
                      refine lv_iload hK.1.1 hK.1.2.1 dL_runs_286 (lv_at hl 2 rfl) ?_
                      refine gk_iald hK.1 hK.2.2.1.1 hP 0 (lw_get hW (k := 1) rfl) rfl (i := nI n2) (vp_in_nI (n := n2) (N := 4) (by omega) (by decide)) dL_runs_288 ?_
                      refine W.eq (g2 := F0 m 289 ls [.int (nI (100 * g + r9))]) (by rw [show gg (nI n2).toNatClampNeg = nI (100 * g + r9) from by rw [show (nI n2 : Int32).toNatClampNeg = n2 from nI_clamp (n := n2) (by omega)]; exact (hgn.trans z3)]) ?_
                      refine lv_if_lt (tgt := 313) hK.1.1 hK.1.2.1 dL_runs_289 (by decide) (fun c => absurd c (nI_pos (by omega))) (fun _ => ?_)
                      refine lv_iload hK.1.1 hK.1.2.1 dL_runs_292 (lv_at hl 5 rfl) ?_
                      refine lv_aload hK.1.1 hK.1.2.1 dL_runs_294 (lv_at hl 7 rfl) ?_
                      refine lv_iload hK.1.1 hK.1.2.1 dL_runs_296 (lv_at hl 2 rfl) ?_
                      refine gk_iald hK.1 hK.2.2.1.1 hP 0 (lw_get hW (k := 1) rfl) rfl (i := nI n2) (vp_in_nI (n := n2) (N := 4) (by omega) (by decide)) dL_runs_298 ?_
                      refine W.eq (g2 := F0 m 299 ls [.int (nI (100 * g + r9)), .int (sv (t_dueS td ru fr S) 5)]) (by rw [show gg (nI n2).toNatClampNeg = nI (100 * g + r9) from by rw [show (nI n2 : Int32).toNatClampNeg = n2 from nI_clamp (n := n2) (by omega)]; exact (hgn.trans z3)]) ?_
                      refine lv_bipush (v := 100) hK.1.1 hK.1.2.1 dL_runs_299 (by decide) ?_
                      refine lv_idiv hK.1.1 hK.1.2.1 dL_runs_301 (by decide) ?_
                      refine W.eq (g2 := F0 m 302 ls [.int (nI ((100 * g + r9) / 100)), .int (sv (t_dueS td ru fr S) 5)]) (by rw [show (nI (100 * g + r9)) / 100 = nI ((100 * g + r9) / 100) from pk_div (by omega) (by decide) (by decide)]) ?_
                      refine W.eq (g2 := F0 m 302 ls [.int (nI g), .int (sv (t_dueS td ru fr S) 5)]) (by rw [show nI ((100 * g + r9) / 100) = nI g from (by congr 1; omega)]) ?_
                      refine lv_ishr hK.1.1 hK.1.2.1 dL_runs_302 ?_
                      refine lv_iconst (v := 1) hK.1.1 hK.1.2.1 dL_runs_303 (by decide) ?_
                      refine lv_iand hK.1.1 hK.1.2.1 dL_runs_304 ?_
                      refine lv_iconst (v := 1) hK.1.1 hK.1.2.1 dL_runs_305 (by decide) ?_
                      refine lv_icmp_ne (tgt := 313) hK.1.1 hK.1.2.1 dL_runs_306 (by decide) (fun c306_21 => ?_) (fun c306_21 => ?_)
                      · refine lv_iconst (v := 0) hK.1.1 hK.1.2.1 dL_runs_313 (by decide) ?_
                        refine lv_istore (lv' := [(13, .int 0), (12, .int 1), (11, .int (nI (100 * g + pT))), (10, .int (nI n2)), (9, .int (tv ru fr (t_dueS td ru fr S) 5)), (8, .int 1), (5, .int (sv (t_dueS td ru fr S) 5)), (7, .ref q_4), (6, .ref q_1), (0, .ref (ly_a y 0)), (1, .ref (ly_a (ly_sw y) 0)), (2, .ref ar), (3, .ref af), (4, .ref ac)]) hK.1.1 hK.1.2.1 dL_runs_314 hl (by decide) rfl (fun ls hl => ?_)
                        refine lv_iload hK.1.1 hK.1.2.1 dL_runs_316 (lv_at hl 5 rfl) ?_
                        refine lv_if_eq (tgt := 400) hK.1.1 hK.1.2.1 dL_runs_318 (by decide) (fun c => absurd c (by decide)) (fun _ => ?_)
                        refine lv_aload hK.1.1 hK.1.2.1 dL_runs_321 (lv_at hl 8 rfl) ?_
                        refine lv_iload hK.1.1 hK.1.2.1 dL_runs_323 (lv_at hl 3 rfl) ?_
                        refine gk_iald hK.1 hK.2.2.1.1 hP 0 (lw_get hW (k := 1) rfl) rfl (i := nI n2) (vp_in_nI (n := n2) (N := 4) (by omega) (by decide)) dL_runs_325 ?_
                        refine W.eq (g2 := F0 m 326 ls [.int (nI (100 * g + r9))]) (by rw [show gg (nI n2).toNatClampNeg = nI (100 * g + r9) from by rw [show (nI n2 : Int32).toNatClampNeg = n2 from nI_clamp (n := n2) (by omega)]; exact (hgn.trans z3)]) ?_
                        refine lv_if_ge (tgt := 338) hK.1.1 hK.1.2.1 dL_runs_326 (by decide) (fun _ => ?_) (fun c => absurd (nI_pos' (by omega)) c)
                        refine lv_iload hK.1.1 hK.1.2.1 dL_runs_338 (lv_at hl 2 rfl) ?_
                        refine lv_bipush (v := 100) hK.1.1 hK.1.2.1 dL_runs_340 (by decide) ?_
                        refine lv_idiv hK.1.1 hK.1.2.1 dL_runs_342 (by decide) ?_
                        refine W.eq (g2 := F0 m 343 ls [.int (nI ((100 * g + pT) / 100))]) (by rw [show (nI (100 * g + pT)) / 100 = nI ((100 * g + pT) / 100) from pk_div (by omega) (by decide) (by decide)]) ?_
                        refine W.eq (g2 := F0 m 343 ls [.int (nI g)]) (by rw [show nI ((100 * g + pT) / 100) = nI g from (by congr 1; omega)]) ?_
                        refine lv_aload hK.1.1 hK.1.2.1 dL_runs_343 (lv_at hl 8 rfl) ?_
                        refine lv_iload hK.1.1 hK.1.2.1 dL_runs_345 (lv_at hl 3 rfl) ?_
                        refine gk_iald hK.1 hK.2.2.1.1 hP 0 (lw_get hW (k := 1) rfl) rfl (i := nI n2) (vp_in_nI (n := n2) (N := 4) (by omega) (by decide)) dL_runs_347 ?_
                        refine W.eq (g2 := F0 m 348 ls [.int (nI (100 * g + r9)), .int (nI g)]) (by rw [show gg (nI n2).toNatClampNeg = nI (100 * g + r9) from by rw [show (nI n2 : Int32).toNatClampNeg = n2 from nI_clamp (n := n2) (by omega)]; exact (hgn.trans z3)]) ?_
                        refine lv_bipush (v := 100) hK.1.1 hK.1.2.1 dL_runs_348 (by decide) ?_
                        refine lv_idiv hK.1.1 hK.1.2.1 dL_runs_350 (by decide) ?_
                        refine W.eq (g2 := F0 m 351 ls [.int (nI ((100 * g + r9) / 100)), .int (nI g)]) (by rw [show (nI (100 * g + r9)) / 100 = nI ((100 * g + r9) / 100) from pk_div (by omega) (by decide) (by decide)]) ?_
                        refine W.eq (g2 := F0 m 351 ls [.int (nI g), .int (nI g)]) (by rw [show nI ((100 * g + r9) / 100) = nI g from (by congr 1; omega)]) ?_
                        refine lv_icmp_ne (tgt := 400) hK.1.1 hK.1.2.1 dL_runs_351 (by decide) (fun c => absurd rfl c) (fun _ => ?_)
                        refine lv_iload hK.1.1 hK.1.2.1 dL_runs_354 (lv_at hl 1 rfl) ?_
                        refine lv_if_eq (tgt := 370) hK.1.1 hK.1.2.1 dL_runs_356 (by decide) (fun c => absurd c (by decide)) (fun _ => ?_)
                        refine lv_iload hK.1.1 hK.1.2.1 dL_runs_359 (lv_at hl 2 rfl) ?_
                        refine lv_bipush (v := 100) hK.1.1 hK.1.2.1 dL_runs_361 (by decide) ?_
                        refine lv_irem hK.1.1 hK.1.2.1 dL_runs_363 (by decide) ?_
                        refine W.eq (g2 := F0 m 364 ls [.int (nI ((100 * g + pT) % 100))]) (by rw [show (nI (100 * g + pT)) - (nI (100 * g + pT)) / 100 * 100 = nI ((100 * g + pT) % 100) from pk_rem (by omega) (by decide) (by decide)]) ?_
                        refine W.eq (g2 := F0 m 364 ls [.int (nI pT)]) (by rw [show nI ((100 * g + pT) % 100) = nI pT from (by congr 1; omega)]) ?_
                        refine lv_if_ne (tgt := 400) hK.1.1 hK.1.2.1 dL_runs_364 (by decide) (fun c => absurd (by rw [w2 c274_19]; rfl) c) (fun _ => ?_)
                        refine lv_goto (tgt := 396) hK.1.1 hK.1.2.1 dL_runs_367 (by decide) ?_
                        refine lv_iconst (v := 1) hK.1.1 hK.1.2.1 dL_runs_396 (by decide) ?_
                        refine lv_goto (tgt := 401) hK.1.1 hK.1.2.1 dL_runs_397 (by decide) ?_
                        refine lv_istore (lv' := [(8, .int 1), (13, .int 0), (12, .int 1), (11, .int (nI (100 * g + pT))), (10, .int (nI n2)), (9, .int (tv ru fr (t_dueS td ru fr S) 5)), (5, .int (sv (t_dueS td ru fr S) 5)), (7, .ref q_4), (6, .ref q_1), (0, .ref (ly_a y 0)), (1, .ref (ly_a (ly_sw y) 0)), (2, .ref ar), (3, .ref af), (4, .ref ac)]) hK.1.1 hK.1.2.1 dL_runs_401 hl (by decide) rfl (fun ls hl => ?_)
                        refine lv_iinc (v := nI (n2 + 1)) (lv' := [(10, .int (nI (n2 + 1))), (8, .int 1), (13, .int 0), (12, .int 1), (11, .int (nI (100 * g + pT))), (9, .int (tv ru fr (t_dueS td ru fr S) 5)), (5, .int (sv (t_dueS td ru fr S) 5)), (7, .ref q_4), (6, .ref q_1), (0, .ref (ly_a y 0)), (1, .ref (ly_a (ly_sw y) 0)), (2, .ref ar), (3, .ref af), (4, .ref ac)]) hK.1.1 hK.1.2.1 dL_runs_403 hl (k := 4) rfl (nI_1 n2) (by decide) rfl (fun ls hl => ?_)
                        refine lv_goto (tgt := 234) hK.1.1 hK.1.2.1 dL_runs_406 (by decide) ?_
                        exact ihD (4 - (n2 + 1)) (by omega) (n2 + 1) ls _ _ rfl (by omega) hP hS (lv_sub hl [0, 5, 1, 6, 7, 8, 9, 10, 11, 12, 13] rfl)
                      · refine lv_iconst (v := 1) hK.1.1 hK.1.2.1 dL_runs_309 (by decide) ?_
                        refine lv_goto (tgt := 314) hK.1.1 hK.1.2.1 dL_runs_310 (by decide) ?_
                        refine lv_istore (lv' := [(13, .int 1), (12, .int 1), (11, .int (nI (100 * g + pT))), (10, .int (nI n2)), (9, .int (tv ru fr (t_dueS td ru fr S) 5)), (8, .int 1), (5, .int (sv (t_dueS td ru fr S) 5)), (7, .ref q_4), (6, .ref q_1), (0, .ref (ly_a y 0)), (1, .ref (ly_a (ly_sw y) 0)), (2, .ref ar), (3, .ref af), (4, .ref ac)]) hK.1.1 hK.1.2.1 dL_runs_314 hl (by decide) rfl (fun ls hl => ?_)
                        refine lv_iload hK.1.1 hK.1.2.1 dL_runs_316 (lv_at hl 5 rfl) ?_
                        refine lv_if_eq (tgt := 400) hK.1.1 hK.1.2.1 dL_runs_318 (by decide) (fun c => absurd c (by decide)) (fun _ => ?_)
                        refine lv_aload hK.1.1 hK.1.2.1 dL_runs_321 (lv_at hl 8 rfl) ?_
                        refine lv_iload hK.1.1 hK.1.2.1 dL_runs_323 (lv_at hl 3 rfl) ?_
                        refine gk_iald hK.1 hK.2.2.1.1 hP 0 (lw_get hW (k := 1) rfl) rfl (i := nI n2) (vp_in_nI (n := n2) (N := 4) (by omega) (by decide)) dL_runs_325 ?_
                        refine W.eq (g2 := F0 m 326 ls [.int (nI (100 * g + r9))]) (by rw [show gg (nI n2).toNatClampNeg = nI (100 * g + r9) from by rw [show (nI n2 : Int32).toNatClampNeg = n2 from nI_clamp (n := n2) (by omega)]; exact (hgn.trans z3)]) ?_
                        refine lv_if_ge (tgt := 338) hK.1.1 hK.1.2.1 dL_runs_326 (by decide) (fun _ => ?_) (fun c => absurd (nI_pos' (by omega)) c)
                        refine lv_iload hK.1.1 hK.1.2.1 dL_runs_338 (lv_at hl 2 rfl) ?_
                        refine lv_bipush (v := 100) hK.1.1 hK.1.2.1 dL_runs_340 (by decide) ?_
                        refine lv_idiv hK.1.1 hK.1.2.1 dL_runs_342 (by decide) ?_
                        refine W.eq (g2 := F0 m 343 ls [.int (nI ((100 * g + pT) / 100))]) (by rw [show (nI (100 * g + pT)) / 100 = nI ((100 * g + pT) / 100) from pk_div (by omega) (by decide) (by decide)]) ?_
                        refine W.eq (g2 := F0 m 343 ls [.int (nI g)]) (by rw [show nI ((100 * g + pT) / 100) = nI g from (by congr 1; omega)]) ?_
                        refine lv_aload hK.1.1 hK.1.2.1 dL_runs_343 (lv_at hl 8 rfl) ?_
                        refine lv_iload hK.1.1 hK.1.2.1 dL_runs_345 (lv_at hl 3 rfl) ?_
                        refine gk_iald hK.1 hK.2.2.1.1 hP 0 (lw_get hW (k := 1) rfl) rfl (i := nI n2) (vp_in_nI (n := n2) (N := 4) (by omega) (by decide)) dL_runs_347 ?_
                        refine W.eq (g2 := F0 m 348 ls [.int (nI (100 * g + r9)), .int (nI g)]) (by rw [show gg (nI n2).toNatClampNeg = nI (100 * g + r9) from by rw [show (nI n2 : Int32).toNatClampNeg = n2 from nI_clamp (n := n2) (by omega)]; exact (hgn.trans z3)]) ?_
                        refine lv_bipush (v := 100) hK.1.1 hK.1.2.1 dL_runs_348 (by decide) ?_
                        refine lv_idiv hK.1.1 hK.1.2.1 dL_runs_350 (by decide) ?_
                        refine W.eq (g2 := F0 m 351 ls [.int (nI ((100 * g + r9) / 100)), .int (nI g)]) (by rw [show (nI (100 * g + r9)) / 100 = nI ((100 * g + r9) / 100) from pk_div (by omega) (by decide) (by decide)]) ?_
                        refine W.eq (g2 := F0 m 351 ls [.int (nI g), .int (nI g)]) (by rw [show nI ((100 * g + r9) / 100) = nI g from (by congr 1; omega)]) ?_
                        refine lv_icmp_ne (tgt := 400) hK.1.1 hK.1.2.1 dL_runs_351 (by decide) (fun c => absurd rfl c) (fun _ => ?_)
                        refine lv_iload hK.1.1 hK.1.2.1 dL_runs_354 (lv_at hl 1 rfl) ?_
                        refine lv_if_eq (tgt := 370) hK.1.1 hK.1.2.1 dL_runs_356 (by decide) (fun c => absurd c (by decide)) (fun _ => ?_)
                        refine lv_iload hK.1.1 hK.1.2.1 dL_runs_359 (lv_at hl 2 rfl) ?_
                        refine lv_bipush (v := 100) hK.1.1 hK.1.2.1 dL_runs_361 (by decide) ?_
                        refine lv_irem hK.1.1 hK.1.2.1 dL_runs_363 (by decide) ?_
                        refine W.eq (g2 := F0 m 364 ls [.int (nI ((100 * g + pT) % 100))]) (by rw [show (nI (100 * g + pT)) - (nI (100 * g + pT)) / 100 * 100 = nI ((100 * g + pT) % 100) from pk_rem (by omega) (by decide) (by decide)]) ?_
                        refine W.eq (g2 := F0 m 364 ls [.int (nI pT)]) (by rw [show nI ((100 * g + pT) % 100) = nI pT from (by congr 1; omega)]) ?_
                        refine lv_if_ne (tgt := 400) hK.1.1 hK.1.2.1 dL_runs_364 (by decide) (fun c => absurd (by rw [w2 c274_19]; rfl) c) (fun _ => ?_)
                        refine lv_goto (tgt := 396) hK.1.1 hK.1.2.1 dL_runs_367 (by decide) ?_
                        refine lv_iconst (v := 1) hK.1.1 hK.1.2.1 dL_runs_396 (by decide) ?_
                        refine lv_goto (tgt := 401) hK.1.1 hK.1.2.1 dL_runs_397 (by decide) ?_
                        refine lv_istore (lv' := [(8, .int 1), (13, .int 1), (12, .int 1), (11, .int (nI (100 * g + pT))), (10, .int (nI n2)), (9, .int (tv ru fr (t_dueS td ru fr S) 5)), (5, .int (sv (t_dueS td ru fr S) 5)), (7, .ref q_4), (6, .ref q_1), (0, .ref (ly_a y 0)), (1, .ref (ly_a (ly_sw y) 0)), (2, .ref ar), (3, .ref af), (4, .ref ac)]) hK.1.1 hK.1.2.1 dL_runs_401 hl (by decide) rfl (fun ls hl => ?_)
                        refine lv_iinc (v := nI (n2 + 1)) (lv' := [(10, .int (nI (n2 + 1))), (8, .int 1), (13, .int 1), (12, .int 1), (11, .int (nI (100 * g + pT))), (9, .int (tv ru fr (t_dueS td ru fr S) 5)), (5, .int (sv (t_dueS td ru fr S) 5)), (7, .ref q_4), (6, .ref q_1), (0, .ref (ly_a y 0)), (1, .ref (ly_a (ly_sw y) 0)), (2, .ref ar), (3, .ref af), (4, .ref ac)]) hK.1.1 hK.1.2.1 dL_runs_403 hl (k := 4) rfl (nI_1 n2) (by decide) rfl (fun ls hl => ?_)
                        refine lv_goto (tgt := 234) hK.1.1 hK.1.2.1 dL_runs_406 (by decide) ?_
                        exact ihD (4 - (n2 + 1)) (by omega) (n2 + 1) ls _ _ rfl (by omega) hP hS (lv_sub hl [0, 5, 1, 6, 7, 8, 9, 10, 11, 12, 13] rfl)
              exact loopD _ 0 ls _ _ rfl (by omega) hP hS (lv_sub hl [0, 1, 2, 3, 4, 5, 6, 7, 8, 9, 10] rfl)
            · have hk5 : k < 5 := Nat.lt_of_not_le (fun h => c121_13 (nI_le (a := 5) h (by omega)))
              have hfk3 := hfr k hk5
              refine lv_iload hK.1.1 hK.1.2.1 dL_runs_124 (lv_at hl 3 rfl) ?_
              refine lv_iload hK.1.1 hK.1.2.1 dL_runs_126 (lv_at hl 0 rfl) ?_
              refine lv_ishr hK.1.1 hK.1.2.1 dL_runs_128 ?_
              refine lv_iconst (v := 1) hK.1.1 hK.1.2.1 dL_runs_129 (by decide) ?_
              refine lv_iand hK.1.1 hK.1.2.1 dL_runs_130 ?_
              refine lv_iconst (v := 1) hK.1.1 hK.1.2.1 dL_runs_131 (by decide) ?_
              refine lv_icmp_ne (tgt := 225) hK.1.1 hK.1.2.1 dL_runs_132 (by decide) (fun c132_22 => ?_) (fun c132_22 => ?_)
              · have hD : t_dueS td ru fr S k = false := by cases hz9 : t_dueS td ru fr S k with | true => exact absurd ((sv_c (D := (t_dueS td ru fr S)) hk5).mpr hz9) c132_22 | false => rfl
                have hl : lv_has ls 14 [(10, .int (nI k)), (9, .int (tv ru fr (t_dueS td ru fr S) (k + 1))), (8, .int 1), (5, .int (sv (t_dueS td ru fr S) 5)), (7, .ref q_4), (6, .ref q_1), (0, .ref (ly_a y 0)), (1, .ref (ly_a (ly_sw y) 0)), (2, .ref ar), (3, .ref af), (4, .ref ac)] := by rw [tv, if_neg (by rw [hD]; decide)]; exact hl
                refine lv_iinc (v := nI (k + 1)) (lv' := [(10, .int (nI (k + 1))), (9, .int (tv ru fr (t_dueS td ru fr S) (k + 1))), (8, .int 1), (5, .int (sv (t_dueS td ru fr S) 5)), (7, .ref q_4), (6, .ref q_1), (0, .ref (ly_a y 0)), (1, .ref (ly_a (ly_sw y) 0)), (2, .ref ar), (3, .ref af), (4, .ref ac)]) hK.1.1 hK.1.2.1 dL_runs_225 hl (k := 0) rfl (nI_1 k) (by decide) rfl (fun ls hl => ?_)
                refine lv_goto (tgt := 118) hK.1.1 hK.1.2.1 dL_runs_228 (by decide) ?_
                exact ihC (5 - (k + 1)) (by omega) (k + 1) fk ls _ _ G rfl (by omega) (by rw [fw, if_neg (by rw [hD]; decide)]; exact hfk) hP hS hW (lv_sub hl [0, 1, 2, 3, 4, 5, 6, 7, 8, 9, 10] rfl)
              · have hD : t_dueS td ru fr S k = true := (sv_c (D := (t_dueS td ru fr S)) hk5).mp c132_22
                refine lv_aload_n hK.1.1 hK.1.2.1 dL_runs_135 rfl (lv_at hl 9 rfl) ?_
                refine lv_iconst (v := 4) hK.1.1 hK.1.2.1 dL_runs_136 (by decide) ?_
                refine lv_iload hK.1.1 hK.1.2.1 dL_runs_137 (lv_at hl 0 rfl) ?_
                refine lv_imul hK.1.1 hK.1.2.1 dL_runs_139 ?_
                refine W.eq (g2 := F0 m 140 ls [.int (nI (4 * k)), .ref af]) (by rw [show 4 * (nI k) = nI (4 * k) from pk_mul _ _]) ?_
                refine lv_iconst (v := 1) hK.1.1 hK.1.2.1 dL_runs_140 (by decide) ?_
                refine lv_iadd hK.1.1 hK.1.2.1 dL_runs_141 ?_
                refine W.eq (g2 := F0 m 142 ls [.int (nI ((4 * k) + 1)), .ref af]) (by rw [show (nI (4 * k)) + 1 = nI ((4 * k) + 1) from nI_add _ _]) ?_
                refine lv_aload hK.1.1 hK.1.2.1 dL_runs_142 (lv_at hl 10 rfl) ?_
                refine lv_iconst (v := 0) hK.1.1 hK.1.2.1 dL_runs_144 (by decide) ?_
                refine gk_iald hK.1 hK.2.2.1.1 hP 0 (lw_get hW (k := 4) rfl) rfl (i := 0) (vp_in_nI (n := 0) (N := 1) (by omega) (by decide)) dL_runs_145 ?_
                refine W.eq (g2 := F0 m 146 ls [.int td, .int (nI ((4 * k) + 1)), .ref af]) (by rw [show cc (0 : Int32).toNatClampNeg = td from by rw [show (0 : Int32).toNatClampNeg = 0 from nI_clamp (n := 0) (by omega)]; exact hcc]) ?_
                refine gk_iast hK.1 hK.2.2.1.1 hP hS 0 (lw_get hW (k := 3) rfl) rfl (i := nI ((4 * k) + 1)) (vp_in_nI (n := (4 * k) + 1) (N := 20) (by omega) (by decide)) dL_runs_146 (fun H locs hP hS => ?_)
                rw [show (nI ((4 * k) + 1) : Int32).toNatClampNeg = (4 * k) + 1 from nI_clamp (n := (4 * k) + 1) (by omega)] at hP
                obtain ⟨g_23, hg_23⟩ : ∃ z, z = upd fk ((4 * k) + 1) td := ⟨_, rfl⟩
                have hW : lw y (gk_up G af (rp_i (ly_k y 0) 20 g_23)) td ru fr hf T hpT td ru fr hf T2 hpT2 [(q_4, 1, g_7), (q_1, 4, gg), (ar, 27, rr), (af, 20, g_23), (ac, 1, cc)] := lw_set hW (k := 3) rfl g_23
                have hP : gk_P (ly_D y) A (gk_up G af (rp_i (ly_k y 0) 20 g_23)) H := by rw [hg_23]; exact hP
                obtain ⟨G_24, hG_24⟩ : ∃ z, z = gk_up G af (rp_i (ly_k y 0) 20 g_23) := ⟨_, rfl⟩
                have hP : gk_P (ly_D y) A G_24 H := by rw [hG_24]; exact hP
                have hW : lw y G_24 td ru fr hf T hpT td ru fr hf T2 hpT2 [(q_4, 1, g_7), (q_1, 4, gg), (ar, 27, rr), (af, 20, g_23), (ac, 1, cc)] := by rw [hG_24]; exact hW
                refine lv_aload_n hK.1.1 hK.1.2.1 dL_runs_147 rfl (lv_at hl 9 rfl) ?_
                refine lv_iconst (v := 4) hK.1.1 hK.1.2.1 dL_runs_148 (by decide) ?_
                refine lv_iload hK.1.1 hK.1.2.1 dL_runs_149 (lv_at hl 0 rfl) ?_
                refine lv_imul hK.1.1 hK.1.2.1 dL_runs_151 ?_
                refine W.eq (g2 := F0 m 152 ls [.int (nI (4 * k)), .ref af]) (by rw [show 4 * (nI k) = nI (4 * k) from pk_mul _ _]) ?_
                refine lv_iconst (v := 2) hK.1.1 hK.1.2.1 dL_runs_152 (by decide) ?_
                refine lv_iadd hK.1.1 hK.1.2.1 dL_runs_153 ?_
                refine W.eq (g2 := F0 m 154 ls [.int (nI ((4 * k) + 2)), .ref af]) (by rw [show (nI (4 * k)) + 2 = nI ((4 * k) + 2) from nI_add _ _]) ?_
                refine lv_iconst (v := 1) hK.1.1 hK.1.2.1 dL_runs_154 (by decide) ?_
                refine gk_iast hK.1 hK.2.2.1.1 hP hS 0 (lw_get hW (k := 3) rfl) rfl (i := nI ((4 * k) + 2)) (vp_in_nI (n := (4 * k) + 2) (N := 20) (by omega) (by decide)) dL_runs_155 (fun H locs hP hS => ?_)
                rw [show (nI ((4 * k) + 2) : Int32).toNatClampNeg = (4 * k) + 2 from nI_clamp (n := (4 * k) + 2) (by omega)] at hP
                obtain ⟨g_25, hg_25⟩ : ∃ z, z = upd g_23 ((4 * k) + 2) 1 := ⟨_, rfl⟩
                have hW : lw y (gk_up G_24 af (rp_i (ly_k y 0) 20 g_25)) td ru fr hf T hpT td ru fr hf T2 hpT2 [(q_4, 1, g_7), (q_1, 4, gg), (ar, 27, rr), (af, 20, g_25), (ac, 1, cc)] := lw_set hW (k := 3) rfl g_25
                have hP : gk_P (ly_D y) A (gk_up G_24 af (rp_i (ly_k y 0) 20 g_25)) H := by rw [hg_25]; exact hP
                obtain ⟨G_26, hG_26⟩ : ∃ z, z = gk_up G_24 af (rp_i (ly_k y 0) 20 g_25) := ⟨_, rfl⟩
                have hP : gk_P (ly_D y) A G_26 H := by rw [hG_26]; exact hP
                have hW : lw y G_26 td ru fr hf T hpT td ru fr hf T2 hpT2 [(q_4, 1, g_7), (q_1, 4, gg), (ar, 27, rr), (af, 20, g_25), (ac, 1, cc)] := by rw [hG_26]; exact hW
                refine lv_iload hK.1.1 hK.1.2.1 dL_runs_156 (lv_at hl 1 rfl) ?_
                refine lv_aload_n hK.1.1 hK.1.2.1 dL_runs_158 rfl (lv_at hl 8 rfl) ?_
                refine lv_bipush (v := 9) hK.1.1 hK.1.2.1 dL_runs_159 (by decide) ?_
                refine lv_aload_n hK.1.1 hK.1.2.1 dL_runs_161 rfl (lv_at hl 9 rfl) ?_
                refine lv_iconst (v := 4) hK.1.1 hK.1.2.1 dL_runs_162 (by decide) ?_
                refine lv_iload hK.1.1 hK.1.2.1 dL_runs_163 (lv_at hl 0 rfl) ?_
                refine lv_imul hK.1.1 hK.1.2.1 dL_runs_165 ?_
                refine W.eq (g2 := F0 m 166 ls [.int (nI (4 * k)), .ref af, .int 9, .ref ar, .int (tv ru fr (t_dueS td ru fr S) k)]) (by rw [show 4 * (nI k) = nI (4 * k) from pk_mul _ _]) ?_
                refine gk_iald hK.1 hK.2.2.1.1 hP 0 (lw_get hW (k := 3) rfl) rfl (i := nI (4 * k)) (vp_in_nI (n := 4 * k) (N := 20) (by omega) (by decide)) dL_runs_166 ?_
                refine W.eq (g2 := F0 m 167 ls [.int (nI (fr k)), .int 9, .ref ar, .int (tv ru fr (t_dueS td ru fr S) k)]) (by rw [show g_25 (nI (4 * k)).toNatClampNeg = nI (fr k) from by rw [show (nI (4 * k) : Int32).toNatClampNeg = 4 * k from nI_clamp (n := 4 * k) (by omega)]; exact (by rw [hg_25, pk_un (by omega), hg_23, pk_un (by omega)]; exact hfk0 k hk5)]) ?_
                refine lv_imul hK.1.1 hK.1.2.1 dL_runs_167 ?_
                refine W.eq (g2 := F0 m 168 ls [.int (nI (9 * (fr k))), .ref ar, .int (tv ru fr (t_dueS td ru fr S) k)]) (by rw [show 9 * (nI (fr k)) = nI (9 * (fr k)) from pk_mul _ _]) ?_
                refine lv_bipush (v := 8) hK.1.1 hK.1.2.1 dL_runs_168 (by decide) ?_
                refine lv_iadd hK.1.1 hK.1.2.1 dL_runs_170 ?_
                refine W.eq (g2 := F0 m 171 ls [.int (nI ((9 * (fr k)) + 8)), .ref ar, .int (tv ru fr (t_dueS td ru fr S) k)]) (by rw [show (nI (9 * (fr k))) + 8 = nI ((9 * (fr k)) + 8) from nI_add _ _]) ?_
                refine gk_iald hK.1 hK.2.2.1.1 hP 0 (lw_get hW (k := 2) rfl) rfl (i := nI ((9 * (fr k)) + 8)) (vp_in_nI (n := (9 * (fr k)) + 8) (N := 27) (by omega) (by decide)) dL_runs_171 ?_
                refine W.eq (g2 := F0 m 172 ls [.int (ru (fr k) 9), .int (tv ru fr (t_dueS td ru fr S) k)]) (by rw [show rr (nI ((9 * (fr k)) + 8)).toNatClampNeg = ru (fr k) 9 from by rw [show (nI ((9 * (fr k)) + 8) : Int32).toNatClampNeg = (9 * (fr k)) + 8 from nI_clamp (n := (9 * (fr k)) + 8) (by omega)]; exact (show rr ((9 * (fr k)) + 8) = ru (fr k) 9 from hlr _ (hI.2.2.1 k hk5).1 8 (by decide))]) ?_
                refine lv_iconst (v := 1) hK.1.1 hK.1.2.1 dL_runs_172 (by decide) ?_
                refine lv_icmp_ne (tgt := 187) hK.1.1 hK.1.2.1 dL_runs_173 (by decide) (fun c173_27 => ?_) (fun c173_27 => ?_)
                · refine lv_iconst (v := 0) hK.1.1 hK.1.2.1 dL_runs_187 (by decide) ?_
                  refine lv_ior hK.1.1 hK.1.2.1 dL_runs_188 ?_
                  refine W.eq (g2 := F0 m 189 ls [.int (tv ru fr (t_dueS td ru fr S) (k + 1))]) (by rw [show (tv ru fr (t_dueS td ru fr S) k) ||| 0 = tv ru fr (t_dueS td ru fr S) (k + 1) from (by rw [tv, if_pos hD, if_neg c173_27])]) ?_
                  refine lv_istore (lv' := [(9, .int (tv ru fr (t_dueS td ru fr S) (k + 1))), (10, .int (nI k)), (8, .int 1), (5, .int (sv (t_dueS td ru fr S) 5)), (7, .ref q_4), (6, .ref q_1), (0, .ref (ly_a y 0)), (1, .ref (ly_a (ly_sw y) 0)), (2, .ref ar), (3, .ref af), (4, .ref ac)]) hK.1.1 hK.1.2.1 dL_runs_189 hl (by decide) rfl (fun ls hl => ?_)
                  refine lv_iload hK.1.1 hK.1.2.1 dL_runs_191 (lv_at hl 2 rfl) ?_
                  refine lv_if_eq (tgt := 222) hK.1.1 hK.1.2.1 dL_runs_193 (by decide) (fun c => absurd c (by decide)) (fun _ => ?_)
                  refine lv_aload_n hK.1.1 hK.1.2.1 dL_runs_196 rfl (lv_at hl 6 rfl) ?_
                  refine lv_aload_n hK.1.1 hK.1.2.1 dL_runs_197 rfl (lv_at hl 8 rfl) ?_
                  refine lv_aload_n hK.1.1 hK.1.2.1 dL_runs_198 rfl (lv_at hl 9 rfl) ?_
                  refine lv_iload hK.1.1 hK.1.2.1 dL_runs_199 (lv_at hl 1 rfl) ?_
                  refine lv_aload hK.1.1 hK.1.2.1 dL_runs_201 (lv_at hl 4 rfl) ?_
                  refine gk_callS0 (n := 5) (As := [.ref (ly_a y 0), .ref ar, .ref af, .int (nI k), .ref q_4]) (rest := []) hK (c_L_isTurned l hfl (lw_o hW) hIT hN2 (lw_get hW (k := 2) rfl) (lw_get hW (k := 3) rfl) hlr (lw_get hW (k := 0) rfl) (f := k) hk5 (by rw [hg_25, pk_un (by omega), hg_23, pk_un (by omega)]; exact hfk0 k hk5) (htu k hk5 hD).1 (fun q => absurd (q.symm.trans hd1) (by decide)) (fun q => absurd (q.symm.trans hd1) (by decide)) (Or.inr hd1)) (gk_gS q_16_7 q_16_8 q_10_12 q_16_9) ⟨by decide +kernel, by decide +kernel, by decide +kernel⟩ ⟨(Nat.le_of_ble_eq_true rfl), (Nat.le_of_ble_eq_true rfl)⟩ hP hS rfl hl.1 rfl (Nat.le_of_ble_eq_true rfl) dL_runs_203 ⟨(Nat.le_of_ble_eq_true rfl), (Nat.le_of_ble_eq_true rfl)⟩ (fun v G1 H locs hw hP hS => ?_)
                  obtain ⟨rfl, hG9⟩ := hw
                  rw [hG9] at hP
                  refine W.eq (g2 := F0 m 206 ls [.int 1]) rfl ?_
                  refine lv_if_eq (tgt := 222) hK.1.1 hK.1.2.1 dL_runs_206 (by decide) (fun c => absurd c (by decide)) (fun _ => ?_)
                  refine lv_aload_n hK.1.1 hK.1.2.1 dL_runs_209 rfl (lv_at hl 6 rfl) ?_
                  refine lv_iload hK.1.1 hK.1.2.1 dL_runs_210 (lv_at hl 1 rfl) ?_
                  refine gk_callSW (n := 2) (As := [.ref (ly_a y 0), .int (nI k)]) (rest := []) hK (c0_L_isDue l hfl (lw_o hW) (f := k) hk5 (iv_Ll hIT)) (gk_gS q_17_3 q_17_4 q_10_12 q_17_5) ⟨by decide +kernel, by decide +kernel, by decide +kernel⟩ ⟨(Nat.le_of_ble_eq_true rfl), (Nat.le_of_ble_eq_true rfl)⟩ hP hS rfl hl.1 rfl (Nat.le_of_ble_eq_true rfl) dL_runs_212 ⟨(Nat.le_of_ble_eq_true rfl), (Nat.le_of_ble_eq_true rfl)⟩ (fun v G1 H locs hw hP hS => ?_)
                  obtain ⟨rfl, hG9⟩ := hw
                  rw [hG9] at hP
                  refine W.eq (g2 := F0 m 215 ls [.int (rg_b (t_dueS td ru fr T k))]) rfl ?_
                  refine lv_if_ne (tgt := 222) hK.1.1 hK.1.2.1 dL_runs_215 (by decide) (fun c => absurd (by rw [run_nodue htu hsa k hk5]; rfl) c) (fun _ => ?_)
                  refine lv_iconst (v := 1) hK.1.1 hK.1.2.1 dL_runs_218 (by decide) ?_
                  refine lv_goto (tgt := 223) hK.1.1 hK.1.2.1 dL_runs_219 (by decide) ?_
                  refine lv_istore (lv' := [(8, .int 1), (9, .int (tv ru fr (t_dueS td ru fr S) (k + 1))), (10, .int (nI k)), (5, .int (sv (t_dueS td ru fr S) 5)), (7, .ref q_4), (6, .ref q_1), (0, .ref (ly_a y 0)), (1, .ref (ly_a (ly_sw y) 0)), (2, .ref ar), (3, .ref af), (4, .ref ac)]) hK.1.1 hK.1.2.1 dL_runs_223 hl (by decide) rfl (fun ls hl => ?_)
                  refine lv_iinc (v := nI (k + 1)) (lv' := [(10, .int (nI (k + 1))), (8, .int 1), (9, .int (tv ru fr (t_dueS td ru fr S) (k + 1))), (5, .int (sv (t_dueS td ru fr S) 5)), (7, .ref q_4), (6, .ref q_1), (0, .ref (ly_a y 0)), (1, .ref (ly_a (ly_sw y) 0)), (2, .ref ar), (3, .ref af), (4, .ref ac)]) hK.1.1 hK.1.2.1 dL_runs_225 hl (k := 2) rfl (nI_1 k) (by decide) rfl (fun ls hl => ?_)
                  refine lv_goto (tgt := 118) hK.1.1 hK.1.2.1 dL_runs_228 (by decide) ?_
                  exact ihC (5 - (k + 1)) (by omega) (k + 1) g_25 ls _ _ G_26 rfl (by omega) (by rw [fw, if_pos hD, hg_25, hg_23, hfk]) hP hS hW (lv_sub hl [0, 2, 1, 3, 4, 5, 6, 7, 8, 9, 10] rfl)
                · refine lv_iconst (v := 1) hK.1.1 hK.1.2.1 dL_runs_176 (by decide) ?_
                  refine lv_aload_n hK.1.1 hK.1.2.1 dL_runs_177 rfl (lv_at hl 9 rfl) ?_
                  refine lv_iconst (v := 4) hK.1.1 hK.1.2.1 dL_runs_178 (by decide) ?_
                  refine lv_iload hK.1.1 hK.1.2.1 dL_runs_179 (lv_at hl 0 rfl) ?_
                  refine lv_imul hK.1.1 hK.1.2.1 dL_runs_181 ?_
                  refine W.eq (g2 := F0 m 182 ls [.int (nI (4 * k)), .ref af, .int 1, .int (tv ru fr (t_dueS td ru fr S) k)]) (by rw [show 4 * (nI k) = nI (4 * k) from pk_mul _ _]) ?_
                  refine gk_iald hK.1 hK.2.2.1.1 hP 0 (lw_get hW (k := 3) rfl) rfl (i := nI (4 * k)) (vp_in_nI (n := 4 * k) (N := 20) (by omega) (by decide)) dL_runs_182 ?_
                  refine W.eq (g2 := F0 m 183 ls [.int (nI (fr k)), .int 1, .int (tv ru fr (t_dueS td ru fr S) k)]) (by rw [show g_25 (nI (4 * k)).toNatClampNeg = nI (fr k) from by rw [show (nI (4 * k) : Int32).toNatClampNeg = 4 * k from nI_clamp (n := 4 * k) (by omega)]; exact (by rw [hg_25, pk_un (by omega), hg_23, pk_un (by omega)]; exact hfk0 k hk5)]) ?_
                  refine lv_ishl hK.1.1 hK.1.2.1 dL_runs_183 ?_
                  refine lv_goto (tgt := 188) hK.1.1 hK.1.2.1 dL_runs_184 (by decide) ?_
                  refine lv_ior hK.1.1 hK.1.2.1 dL_runs_188 ?_
                  refine W.eq (g2 := F0 m 189 ls [.int (tv ru fr (t_dueS td ru fr S) (k + 1))]) (by rw [show (tv ru fr (t_dueS td ru fr S) k) ||| (1 <<< ((nI (fr k)) &&& 31)) = tv ru fr (t_dueS td ru fr S) (k + 1) from (by rw [tv, if_pos hD, if_pos c173_27])]) ?_
                  refine lv_istore (lv' := [(9, .int (tv ru fr (t_dueS td ru fr S) (k + 1))), (10, .int (nI k)), (8, .int 1), (5, .int (sv (t_dueS td ru fr S) 5)), (7, .ref q_4), (6, .ref q_1), (0, .ref (ly_a y 0)), (1, .ref (ly_a (ly_sw y) 0)), (2, .ref ar), (3, .ref af), (4, .ref ac)]) hK.1.1 hK.1.2.1 dL_runs_189 hl (by decide) rfl (fun ls hl => ?_)
                  refine lv_iload hK.1.1 hK.1.2.1 dL_runs_191 (lv_at hl 2 rfl) ?_
                  refine lv_if_eq (tgt := 222) hK.1.1 hK.1.2.1 dL_runs_193 (by decide) (fun c => absurd c (by decide)) (fun _ => ?_)
                  refine lv_aload_n hK.1.1 hK.1.2.1 dL_runs_196 rfl (lv_at hl 6 rfl) ?_
                  refine lv_aload_n hK.1.1 hK.1.2.1 dL_runs_197 rfl (lv_at hl 8 rfl) ?_
                  refine lv_aload_n hK.1.1 hK.1.2.1 dL_runs_198 rfl (lv_at hl 9 rfl) ?_
                  refine lv_iload hK.1.1 hK.1.2.1 dL_runs_199 (lv_at hl 1 rfl) ?_
                  refine lv_aload hK.1.1 hK.1.2.1 dL_runs_201 (lv_at hl 4 rfl) ?_
                  refine gk_callS0 (n := 5) (As := [.ref (ly_a y 0), .ref ar, .ref af, .int (nI k), .ref q_4]) (rest := []) hK (c_L_isTurned l hfl (lw_o hW) hIT hN2 (lw_get hW (k := 2) rfl) (lw_get hW (k := 3) rfl) hlr (lw_get hW (k := 0) rfl) (f := k) hk5 (by rw [hg_25, pk_un (by omega), hg_23, pk_un (by omega)]; exact hfk0 k hk5) (htu k hk5 hD).1 (fun q => absurd (q.symm.trans hd1) (by decide)) (fun q => absurd (q.symm.trans hd1) (by decide)) (Or.inr hd1)) (gk_gS q_16_7 q_16_8 q_10_12 q_16_9) ⟨by decide +kernel, by decide +kernel, by decide +kernel⟩ ⟨(Nat.le_of_ble_eq_true rfl), (Nat.le_of_ble_eq_true rfl)⟩ hP hS rfl hl.1 rfl (Nat.le_of_ble_eq_true rfl) dL_runs_203 ⟨(Nat.le_of_ble_eq_true rfl), (Nat.le_of_ble_eq_true rfl)⟩ (fun v G1 H locs hw hP hS => ?_)
                  obtain ⟨rfl, hG9⟩ := hw
                  rw [hG9] at hP
                  refine W.eq (g2 := F0 m 206 ls [.int 1]) rfl ?_
                  refine lv_if_eq (tgt := 222) hK.1.1 hK.1.2.1 dL_runs_206 (by decide) (fun c => absurd c (by decide)) (fun _ => ?_)
                  refine lv_aload_n hK.1.1 hK.1.2.1 dL_runs_209 rfl (lv_at hl 6 rfl) ?_
                  refine lv_iload hK.1.1 hK.1.2.1 dL_runs_210 (lv_at hl 1 rfl) ?_
                  refine gk_callSW (n := 2) (As := [.ref (ly_a y 0), .int (nI k)]) (rest := []) hK (c0_L_isDue l hfl (lw_o hW) (f := k) hk5 (iv_Ll hIT)) (gk_gS q_17_3 q_17_4 q_10_12 q_17_5) ⟨by decide +kernel, by decide +kernel, by decide +kernel⟩ ⟨(Nat.le_of_ble_eq_true rfl), (Nat.le_of_ble_eq_true rfl)⟩ hP hS rfl hl.1 rfl (Nat.le_of_ble_eq_true rfl) dL_runs_212 ⟨(Nat.le_of_ble_eq_true rfl), (Nat.le_of_ble_eq_true rfl)⟩ (fun v G1 H locs hw hP hS => ?_)
                  obtain ⟨rfl, hG9⟩ := hw
                  rw [hG9] at hP
                  refine W.eq (g2 := F0 m 215 ls [.int (rg_b (t_dueS td ru fr T k))]) rfl ?_
                  refine lv_if_ne (tgt := 222) hK.1.1 hK.1.2.1 dL_runs_215 (by decide) (fun c => absurd (by rw [run_nodue htu hsa k hk5]; rfl) c) (fun _ => ?_)
                  refine lv_iconst (v := 1) hK.1.1 hK.1.2.1 dL_runs_218 (by decide) ?_
                  refine lv_goto (tgt := 223) hK.1.1 hK.1.2.1 dL_runs_219 (by decide) ?_
                  refine lv_istore (lv' := [(8, .int 1), (9, .int (tv ru fr (t_dueS td ru fr S) (k + 1))), (10, .int (nI k)), (5, .int (sv (t_dueS td ru fr S) 5)), (7, .ref q_4), (6, .ref q_1), (0, .ref (ly_a y 0)), (1, .ref (ly_a (ly_sw y) 0)), (2, .ref ar), (3, .ref af), (4, .ref ac)]) hK.1.1 hK.1.2.1 dL_runs_223 hl (by decide) rfl (fun ls hl => ?_)
                  refine lv_iinc (v := nI (k + 1)) (lv' := [(10, .int (nI (k + 1))), (8, .int 1), (9, .int (tv ru fr (t_dueS td ru fr S) (k + 1))), (5, .int (sv (t_dueS td ru fr S) 5)), (7, .ref q_4), (6, .ref q_1), (0, .ref (ly_a y 0)), (1, .ref (ly_a (ly_sw y) 0)), (2, .ref ar), (3, .ref af), (4, .ref ac)]) hK.1.1 hK.1.2.1 dL_runs_225 hl (k := 2) rfl (nI_1 k) (by decide) rfl (fun ls hl => ?_)
                  refine lv_goto (tgt := 118) hK.1.1 hK.1.2.1 dL_runs_228 (by decide) ?_
                  exact ihC (5 - (k + 1)) (by omega) (k + 1) g_25 ls _ _ G_26 rfl (by omega) (by rw [fw, if_pos hD, hg_25, hg_23, hfk]) hP hS hW (lv_sub hl [0, 2, 1, 3, 4, 5, 6, 7, 8, 9, 10] rfl)
          exact loopC _ 0 ff ls _ _ G_12 rfl (by omega) rfl hP hS hW (lv_sub hl [0, 1, 2, 3, 4, 5, 6, 7, 8, 9, 10] rfl)
        · have hn4 : n < 4 := Nat.lt_of_not_le (fun h => c67_10 (nI_le (a := 4) h (by omega)))
          refine lv_aload hK.1.1 hK.1.2.1 dL_runs_70 (lv_at hl 3 rfl) ?_
          refine lv_iload hK.1.1 hK.1.2.1 dL_runs_72 (lv_at hl 0 rfl) ?_
          refine lv_aload_n hK.1.1 hK.1.2.1 dL_runs_74 rfl (lv_at hl 4 rfl) ?_
          refine lv_iload hK.1.1 hK.1.2.1 dL_runs_75 (lv_at hl 0 rfl) ?_
          refine gk_callSW (n := 2) (As := [.ref (ly_a y 0), .int (nI n)]) (rest := [.int (nI n), .ref q_1]) hK (c0_L_holds l hfl (lw_o hW) (h := n) hn4 (iv_Ho hI)) (gk_gS q_10_10 q_10_11 q_10_12 q_10_13) ⟨by decide +kernel, by decide +kernel, by decide +kernel⟩ ⟨(Nat.le_of_ble_eq_true rfl), (Nat.le_of_ble_eq_true rfl)⟩ hP hS rfl hl.1 rfl (Nat.le_of_ble_eq_true rfl) dL_runs_77 ⟨(Nat.le_of_ble_eq_true rfl), (Nat.le_of_ble_eq_true rfl)⟩ (fun v G1 H locs hw hP hS => ?_)
          obtain ⟨x9, hx9, rfl, hG9⟩ := hw
          rw [hG9] at hP
          obtain rfl := hz_eq hx9
          refine W.eq (g2 := F0 m 80 ls [.int (hz hf hp S.2.2.2.2.1 n), .int (nI n), .ref q_1]) rfl ?_
          refine gk_iast hK.1 hK.2.2.1.1 hP hS 0 (lw_get hW (k := 1) rfl) rfl (i := nI n) (vp_in_nI (n := n) (N := 4) (by omega) (by decide)) dL_runs_80 (fun H locs hP hS => ?_)
          rw [show (nI n : Int32).toNatClampNeg = n from nI_clamp (n := n) (by omega)] at hP
          obtain ⟨g_28, hg_28⟩ : ∃ z, z = upd gg n (hz hf hp S.2.2.2.2.1 n) := ⟨_, rfl⟩
          have hW : lw y (gk_up G q_1 (rp_i (ly_k y 0) 4 g_28)) td ru fr hf S hp td ru fr hf S2 hp2 [(q_4, 1, g_7), (q_1, 4, g_28), (ar, 27, rr), (af, 20, ff), (ac, 1, cc)] := lw_set hW (k := 1) rfl g_28
          have hP : gk_P (ly_D y) A (gk_up G q_1 (rp_i (ly_k y 0) 4 g_28)) H := by rw [hg_28]; exact hP
          obtain ⟨G_29, hG_29⟩ : ∃ z, z = gk_up G q_1 (rp_i (ly_k y 0) 4 g_28) := ⟨_, rfl⟩
          have hP : gk_P (ly_D y) A G_29 H := by rw [hG_29]; exact hP
          have hW : lw y G_29 td ru fr hf S hp td ru fr hf S2 hp2 [(q_4, 1, g_7), (q_1, 4, g_28), (ar, 27, rr), (af, 20, ff), (ac, 1, cc)] := by rw [hG_29]; exact hW
          refine lv_iinc (v := nI (n + 1)) (lv' := [(8, .int (nI (n + 1))), (5, .int (sv (t_dueS td ru fr S) 5)), (7, .ref q_4), (6, .ref q_1), (0, .ref (ly_a y 0)), (1, .ref (ly_a (ly_sw y) 0)), (2, .ref ar), (3, .ref af), (4, .ref ac)]) hK.1.1 hK.1.2.1 dL_runs_81 hl (k := 0) rfl (nI_1 n) (by decide) rfl (fun ls hl => ?_)
          refine lv_goto (tgt := 64) hK.1.1 hK.1.2.1 dL_runs_84 (by decide) ?_
          exact ihB (4 - (n + 1)) (by omega) (n + 1) g_28 ls _ _ G_29 rfl (by omega) (fun j hj => by rw [hg_28]; by_cases hjn : j = n; (rw [hjn, pk_us]); (rw [pk_un hjn]; exact hgg j (by omega))) hP hS hW (lv_sub hl [0, 1, 2, 3, 4, 5, 6, 7, 8] rfl)
      exact loopB _ 0 (fun _ => 0) ls _ _ G_8 rfl (by omega) (fun j hj => absurd hj (Nat.not_lt_zero j)) hP hS hW (lv_sub hl [0, 1, 2, 3, 4, 5, 6, 7, 8] rfl)
    · have hk5 : k < 5 := Nat.lt_of_not_le (fun h => c24_9 (nI_le (a := 5) h (by omega)))
      refine lv_iload hK.1.1 hK.1.2.1 dL_runs_27 (lv_at hl 1 rfl) ?_
      refine lv_aload_n hK.1.1 hK.1.2.1 dL_runs_29 rfl (lv_at hl 4 rfl) ?_
      refine lv_aload_n hK.1.1 hK.1.2.1 dL_runs_30 rfl (lv_at hl 6 rfl) ?_
      refine lv_aload_n hK.1.1 hK.1.2.1 dL_runs_31 rfl (lv_at hl 7 rfl) ?_
      refine lv_iload hK.1.1 hK.1.2.1 dL_runs_32 (lv_at hl 0 rfl) ?_
      refine lv_aload hK.1.1 hK.1.2.1 dL_runs_34 (lv_at hl 8 rfl) ?_
      refine lv_iconst (v := 0) hK.1.1 hK.1.2.1 dL_runs_36 (by decide) ?_
      refine gk_iald hK.1 hK.2.2.1.1 hP 0 (lw_get hW (k := 4) rfl) rfl (i := 0) (vp_in_nI (n := 0) (N := 1) (by omega) (by decide)) dL_runs_37 ?_
      refine W.eq (g2 := F0 m 38 ls [.int (nI ed), .int (nI k), .ref af, .ref ar, .ref (ly_a y 0), .int (sv (t_dueS td ru fr S) k)]) (by rw [show cc (0 : Int32).toNatClampNeg = nI ed from by rw [show (0 : Int32).toNatClampNeg = 0 from nI_clamp (n := 0) (by omega)]; exact (hcc.trans hI.1.1)]) ?_
      refine gk_callS0 (n := 5) (As := [.ref (ly_a y 0), .ref ar, .ref af, .int (nI k), .int (nI ed)]) (rest := [.int (sv (t_dueS td ru fr S) k)]) hK (c_L_due l hfl (lw_o hW) hI hN1 (lw_get hW (k := 2) rfl) (lw_get hW (k := 3) rfl) hlr hlf (f := k) (d := ed) hk5 (by omega)) (gk_gS q_16_4 q_16_5 q_10_12 q_16_6) ⟨by decide +kernel, by decide +kernel, by decide +kernel⟩ ⟨(Nat.le_of_ble_eq_true rfl), (Nat.le_of_ble_eq_true rfl)⟩ hP hS rfl hl.1 rfl (Nat.le_of_ble_eq_true rfl) dL_runs_38 ⟨(Nat.le_of_ble_eq_true rfl), (Nat.le_of_ble_eq_true rfl)⟩ (fun v G1 H locs hw hP hS => ?_)
      obtain ⟨rfl, hG9⟩ := hw
      rw [hG9] at hP
      refine W.eq (g2 := F0 m 41 ls [.int (rg_b (t_dueS (nI ed) ru fr S k)), .int (sv (t_dueS td ru fr S) k)]) rfl ?_
      refine lv_if_eq (tgt := 51) hK.1.1 hK.1.2.1 dL_runs_41 (by decide) (fun c41_30 => ?_) (fun c41_30 => ?_)
      · have hD : t_dueS td ru fr S k = false := by rw [hI.1.1]; exact rg_b0.mp c41_30
        refine lv_iconst (v := 0) hK.1.1 hK.1.2.1 dL_runs_51 (by decide) ?_
        refine lv_ior hK.1.1 hK.1.2.1 dL_runs_52 ?_
        refine W.eq (g2 := F0 m 53 ls [.int (sv (t_dueS td ru fr S) (k + 1))]) (by rw [show (sv (t_dueS td ru fr S) k) ||| 0 = sv (t_dueS td ru fr S) (k + 1) from (sv_f (D := (t_dueS td ru fr S)) hD)]) ?_
        refine lv_istore (lv' := [(5, .int (sv (t_dueS td ru fr S) (k + 1))), (8, .int (nI k)), (7, .ref q_4), (6, .ref q_1), (0, .ref (ly_a y 0)), (1, .ref (ly_a (ly_sw y) 0)), (2, .ref ar), (3, .ref af), (4, .ref ac)]) hK.1.1 hK.1.2.1 dL_runs_53 hl (by decide) rfl (fun ls hl => ?_)
        refine lv_iinc (v := nI (k + 1)) (lv' := [(8, .int (nI (k + 1))), (5, .int (sv (t_dueS td ru fr S) (k + 1))), (7, .ref q_4), (6, .ref q_1), (0, .ref (ly_a y 0)), (1, .ref (ly_a (ly_sw y) 0)), (2, .ref ar), (3, .ref af), (4, .ref ac)]) hK.1.1 hK.1.2.1 dL_runs_55 hl (k := 1) rfl (nI_1 k) (by decide) rfl (fun ls hl => ?_)
        refine lv_goto (tgt := 21) hK.1.1 hK.1.2.1 dL_runs_58 (by decide) ?_
        exact ihA (5 - (k + 1)) (by omega) (k + 1) ls _ _ rfl (by omega) hP hS (lv_sub hl [0, 1, 2, 3, 4, 5, 6, 7, 8] rfl)
      · have hD : t_dueS td ru fr S k = true := by rw [hI.1.1]; cases hz9 : t_dueS (nI ed) ru fr S k with | true => rfl | false => exact absurd (rg_b0.mpr hz9) c41_30
        refine lv_iconst (v := 1) hK.1.1 hK.1.2.1 dL_runs_44 (by decide) ?_
        refine lv_iload hK.1.1 hK.1.2.1 dL_runs_45 (lv_at hl 0 rfl) ?_
        refine lv_ishl hK.1.1 hK.1.2.1 dL_runs_47 ?_
        refine lv_goto (tgt := 52) hK.1.1 hK.1.2.1 dL_runs_48 (by decide) ?_
        refine lv_ior hK.1.1 hK.1.2.1 dL_runs_52 ?_
        refine W.eq (g2 := F0 m 53 ls [.int (sv (t_dueS td ru fr S) (k + 1))]) (by rw [show (sv (t_dueS td ru fr S) k) ||| (1 <<< ((nI k) &&& 31)) = sv (t_dueS td ru fr S) (k + 1) from (sv_t (D := (t_dueS td ru fr S)) hD)]) ?_
        refine lv_istore (lv' := [(5, .int (sv (t_dueS td ru fr S) (k + 1))), (8, .int (nI k)), (7, .ref q_4), (6, .ref q_1), (0, .ref (ly_a y 0)), (1, .ref (ly_a (ly_sw y) 0)), (2, .ref ar), (3, .ref af), (4, .ref ac)]) hK.1.1 hK.1.2.1 dL_runs_53 hl (by decide) rfl (fun ls hl => ?_)
        refine lv_iinc (v := nI (k + 1)) (lv' := [(8, .int (nI (k + 1))), (5, .int (sv (t_dueS td ru fr S) (k + 1))), (7, .ref q_4), (6, .ref q_1), (0, .ref (ly_a y 0)), (1, .ref (ly_a (ly_sw y) 0)), (2, .ref ar), (3, .ref af), (4, .ref ac)]) hK.1.1 hK.1.2.1 dL_runs_55 hl (k := 1) rfl (nI_1 k) (by decide) rfl (fun ls hl => ?_)
        refine lv_goto (tgt := 21) hK.1.1 hK.1.2.1 dL_runs_58 (by decide) ?_
        exact ihA (5 - (k + 1)) (by omega) (k + 1) ls _ _ rfl (by omega) hP hS (lv_sub hl [0, 1, 2, 3, 4, 5, 6, 7, 8] rfl)
  exact loopA _ 0 ls _ _ rfl (by omega) hP hS (lv_sub hl [0, 3, 1, 2, 4, 5, 6, 7, 8] rfl)
