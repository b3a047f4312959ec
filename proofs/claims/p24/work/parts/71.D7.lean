/-! the law: acts, the other kinds, and an act of any kind -/
section AW
variable {l : Launch} {y : ly_T} {A : Nat → Prop} {p : Program} {e : Env} {s : State} {m : MethodId} {below : List Frame} {meth : Method} {c : Code} {ls : Array Slot} {H : Heap} {locs : List Loc} {G : gk_G}
set_option maxHeartbeats 4000000 in
set_option maxRecDepth 100000 in
theorem aw_advance {ed N : Nat} {td : Int32} {ru : Nat → Nat → Int32} {fr : Nat → Nat} {hf hp hp2 : Nat → Option Nat} {S S2 : ts_T} {tt rr ff cc : Nat → Int32} {fi fi2 φ : Nat → Nat} {ar af ac : Nat} (hfl : l.stackTraces = false) (hW : lw y G td ru fr hf S hp td ru fr hf S2 hp2 [(ar, 27, rr), (af, 20, ff), (ac, 1, cc)]) (hI : iv ed N td ru fr hf S hp tt fi) (hI2 : iv ed N td ru fr hf S2 hp2 tt fi2) (hrn : rn φ S hp S2 hp2) (hlr : lr rr ru) (hlf : lf ff fr S tt) (hcc : cc 0 = td) (hN : N ≤ 110) {xx yy : Int32} {kd f h r : Nat} (f5 : f < 5) (hh : h < 4) (hr : r < 3) (hK : gk_K p s m c [.ref (ly_a y 0), .ref (ly_a (ly_sw y) 0), .ref ar, .ref af, .ref ac, .int xx, .int yy].toArray cL_acts RL 14 y A) (hret : meth.sig.returnType = some .boolean) (hlk : meth.locks = false) (hP : gk_P (ly_D y) A G H) (hS : va_S A s.heap H locs) (hl : lv_has ls 14 [(0, .ref (ly_a y 0)), (1, .ref (ly_a (ly_sw y) 0)), (2, .ref ar), (3, .ref af), (4, .ref ac), (5, .int xx), (6, .int yy), (7, .int (nI kd)), (8, .int (nI f)), (9, .int (nI h)), (10, .int (nI r))]) : W p l e { frames := 11, cells := 112, slots := 30100, locals := 400 } s m [.ref (ly_a y 0), .ref (ly_a (ly_sw y) 0), .ref ar, .ref af, .ref ac, .int xx, .int yy].toArray below meth c H locs 0 0 (MQ below (gk_Q y A (fun v G1 => v = some (.int 1) ∧ lj y G1 ar af ac (N + 1))) [.ref (ly_a y 0), .ref (ly_a (ly_sw y) 0), .ref ar, .ref af, .ref ac, .int xx, .int yy].toArray s 112 30100 A) (F0 m 1166 ls []) := by
  have hN1 : N ≤ 111 := by omega
  have he9 := hI.1.2
  have htd := hI.1.1
  refine lv_iconst (v := 1) hK.1.1 hK.1.2.1 dL_acts_1166 (by decide) ?_
  refine lv_iload hK.1.1 hK.1.2.1 dL_acts_1167 (lv_at hl 6 rfl) ?_
  refine lv_iload hK.1.1 hK.1.2.1 dL_acts_1169 (lv_at hl 5 rfl) ?_
  refine lv_bipush (v := 7) hK.1.1 hK.1.2.1 dL_acts_1171 (by decide) ?_
  refine lv_ishr hK.1.1 hK.1.2.1 dL_acts_1173 ?_
  refine lv_iconst (v := 4) hK.1.1 hK.1.2.1 dL_acts_1174 (by decide) ?_
  refine gk_callS0 (n := 2) (As := [.int (xx >>> (7 &&& 31)), .int 4]) (rest := [.int yy, .int 1]) hK (c_L_low l (x := (xx >>> (7 &&& 31))) (n := 4) (by decide) (by decide)) (gk_gS q_12_9 q_12_10 q_10_12 q_12_11) ⟨by decide +kernel, by decide +kernel, by decide +kernel⟩ ⟨(Nat.le_of_ble_eq_true rfl), (Nat.le_of_ble_eq_true rfl)⟩ hP hS rfl hl.1 rfl (Nat.le_of_ble_eq_true rfl) dL_acts_1175 ⟨(Nat.le_of_ble_eq_true rfl), (Nat.le_of_ble_eq_true rfl)⟩ (fun v G1 H locs hw hP hS => ?_)
  obtain ⟨⟨j_1, hj_1, rfl⟩, hG9⟩ := hw
  rw [hG9] at hP
  refine W.eq (g2 := F0 m 1178 ls [.int (nI j_1), .int yy, .int 1]) rfl ?_
  have J1191 : ∀ (jd : Nat) (ls : Array Slot) (H : Heap) (locs : List Loc), jd < 100 → gk_P (ly_D y) A G H → va_S A s.heap H locs → lv_has ls 14 [(0, .ref (ly_a y 0)), (1, .ref (ly_a (ly_sw y) 0)), (2, .ref ar), (3, .ref af), (4, .ref ac), (5, .int xx), (6, .int yy), (7, .int (nI kd)), (8, .int (nI f)), (9, .int (nI h)), (10, .int (nI r))] → W p l e { frames := 11, cells := 112, slots := 30100, locals := 400 } s m [.ref (ly_a y 0), .ref (ly_a (ly_sw y) 0), .ref ar, .ref af, .ref ac, .int xx, .int yy].toArray below meth c H locs (0 + 0) (0 + 0) (MQ below (gk_Q y A (fun v G1 => v = some (.int 1) ∧ lj y G1 ar af ac (N + 1))) [.ref (ly_a y 0), .ref (ly_a (ly_sw y) 0), .ref ar, .ref af, .ref ac, .int xx, .int yy].toArray s 112 30100 A) (F0 m 1191 ls [.int (nI jd), .int 1]) := by
    intro jd ls H locs hjd hP hS hl
    refine lv_iadd hK.1.1 hK.1.2.1 dL_acts_1191 ?_
    refine W.eq (g2 := F0 m 1192 ls [.int (nI (1 + jd))]) (by rw [show 1 + (nI jd) = nI (1 + jd) from nI_add _ _]) ?_
    refine lv_istore (lv' := [(11, .int (nI (1 + jd))), (0, .ref (ly_a y 0)), (1, .ref (ly_a (ly_sw y) 0)), (2, .ref ar), (3, .ref af), (4, .ref ac), (5, .int xx), (6, .int yy), (7, .int (nI kd)), (8, .int (nI f)), (9, .int (nI h)), (10, .int (nI r))]) hK.1.1 hK.1.2.1 dL_acts_1192 hl (by decide) rfl (fun ls hl => ?_)
    refine lv_aload hK.1.1 hK.1.2.1 dL_acts_1194 (lv_at hl 5 rfl) ?_
    refine lv_iconst (v := 0) hK.1.1 hK.1.2.1 dL_acts_1196 (by decide) ?_
    refine gk_iald hK.1 hK.2.2.1.1 hP 0 (lw_get hW (k := 2) rfl) rfl (i := 0) (vp_in_nI (n := 0) (N := 1) (by omega) (by decide)) dL_acts_1197 ?_
    refine W.eq (g2 := F0 m 1198 ls [.int (nI ed)]) (by rw [show cc (0 : Int32).toNatClampNeg = nI ed from by rw [show (0 : Int32).toNatClampNeg = 0 from nI_clamp (n := 0) (by omega)]; exact (hcc.trans hI.1.1)]) ?_
    refine lv_iload hK.1.1 hK.1.2.1 dL_acts_1198 (lv_at hl 0 rfl) ?_
    refine lv_iadd hK.1.1 hK.1.2.1 dL_acts_1200 ?_
    refine W.eq (g2 := F0 m 1201 ls [.int (nI (ed + (1 + jd)))]) (by rw [show (nI ed) + (nI (1 + jd)) = nI (ed + (1 + jd)) from nI_add _ _]) ?_
    refine lv_sipush (v := 5000) hK.1.1 hK.1.2.1 dL_acts_1201 (by decide) ?_
    refine lv_icmp_le (tgt := 1212) hK.1.1 hK.1.2.1 dL_acts_1204 (by decide) (fun c1204_2 => ?_) (fun c1204_2 => ?_)
    · have hle9 : ed + (1 + jd) ≤ 5000 := (nI_leI (b := 5000) (by omega) (by decide)).mp c1204_2
      have hle8 : td + nI (1 + jd) ≤ 5000 := by rw [htd, nI_add]; exact nI_le (b := 5000) hle9 (by decide)
      refine lv_aload hK.1.1 hK.1.2.1 dL_acts_1212 (lv_at hl 5 rfl) ?_
      refine lv_iconst (v := 0) hK.1.1 hK.1.2.1 dL_acts_1214 (by decide) ?_
      refine gk_iald hK.1 hK.2.2.1.1 hP 0 (lw_get hW (k := 2) rfl) rfl (i := 0) (vp_in_nI (n := 0) (N := 1) (by omega) (by decide)) dL_acts_1215 ?_
      refine W.eq (g2 := F0 m 1216 ls [.int (nI ed)]) (by rw [show cc (0 : Int32).toNatClampNeg = nI ed from by rw [show (0 : Int32).toNatClampNeg = 0 from nI_clamp (n := 0) (by omega)]; exact (hcc.trans hI.1.1)]) ?_
      refine lv_iload hK.1.1 hK.1.2.1 dL_acts_1216 (lv_at hl 0 rfl) ?_
      refine lv_iadd hK.1.1 hK.1.2.1 dL_acts_1218 ?_
      refine W.eq (g2 := F0 m 1219 ls [.int (nI (ed + (1 + jd)))]) (by rw [show (nI ed) + (nI (1 + jd)) = nI (ed + (1 + jd)) from nI_add _ _]) ?_
      refine lv_istore (lv' := [(12, .int (nI (ed + (1 + jd)))), (11, .int (nI (1 + jd))), (0, .ref (ly_a y 0)), (1, .ref (ly_a (ly_sw y) 0)), (2, .ref ar), (3, .ref af), (4, .ref ac), (5, .int xx), (6, .int yy), (7, .int (nI kd)), (8, .int (nI f)), (9, .int (nI h)), (10, .int (nI r))]) hK.1.1 hK.1.2.1 dL_acts_1219 hl (by decide) rfl (fun ls hl => ?_)
      refine lv_aload hK.1.1 hK.1.2.1 dL_acts_1221 (lv_at hl 6 rfl) ?_
      refine lv_iconst (v := 0) hK.1.1 hK.1.2.1 dL_acts_1223 (by decide) ?_
      refine lv_iload hK.1.1 hK.1.2.1 dL_acts_1224 (lv_at hl 0 rfl) ?_
      refine lv_if_ge (tgt := 1236) hK.1.1 hK.1.2.1 dL_acts_1226 (by decide) (fun _ => ?_) (fun c => absurd (nI_pos' (by omega)) c)
      refine lv_iload hK.1.1 hK.1.2.1 dL_acts_1236 (lv_at hl 0 rfl) ?_
      refine gk_iast hK.1 hK.2.2.1.1 hP hS 0 (lw_get hW (k := 2) rfl) rfl (i := 0) (vp_in_nI (n := 0) (N := 1) (by omega) (by decide)) dL_acts_1238 (fun H locs hP hS => ?_)
      rw [show (0 : Int32).toNatClampNeg = 0 from nI_clamp (n := 0) (by omega)] at hP
      obtain ⟨g_3, hg_3⟩ : ∃ z, z = upd cc 0 (nI (ed + (1 + jd))) := ⟨_, rfl⟩
      have hW : lw y (gk_up G ac (rp_i (ly_k y 0) 1 g_3)) td ru fr hf S hp td ru fr hf S2 hp2 [(ar, 27, rr), (af, 20, ff), (ac, 1, g_3)] := lw_set hW (k := 2) rfl g_3
      have hP : gk_P (ly_D y) A (gk_up G ac (rp_i (ly_k y 0) 1 g_3)) H := by rw [hg_3]; exact hP
      obtain ⟨G_4, hG_4⟩ : ∃ z, z = gk_up G ac (rp_i (ly_k y 0) 1 g_3) := ⟨_, rfl⟩
      have hP : gk_P (ly_D y) A G_4 H := by rw [hG_4]; exact hP
      have hW : lw y G_4 td ru fr hf S hp td ru fr hf S2 hp2 [(ar, 27, rr), (af, 20, ff), (ac, 1, g_3)] := by rw [hG_4]; exact hW
      refine lv_aload_n hK.1.1 hK.1.2.1 dL_acts_1239 rfl (lv_at hl 2 rfl) ?_
      refine lv_iload hK.1.1 hK.1.2.1 dL_acts_1240 (lv_at hl 1 rfl) ?_
      refine gk_callSW (n := 2) (As := [.ref (ly_a y 0), .int (nI (1 + jd))]) (rest := []) hK (co_advance hfl hW ⟨by rw [show (1 : Int32) = nI 1 from rfl]; exact nI_nlt (by omega) (by omega), nI_le (b := 100) (by omega) (by decide)⟩ hle8) (gk_gS q_15_18 q_15_19 q_10_12 q_15_20) ⟨by decide +kernel, by decide +kernel, by decide +kernel⟩ ⟨(Nat.le_of_ble_eq_true rfl), (Nat.le_of_ble_eq_true rfl)⟩ hP hS rfl hl.1 rfl (Nat.le_of_ble_eq_true rfl) dL_acts_1242 ⟨(Nat.le_of_ble_eq_true rfl), (Nat.le_of_ble_eq_true rfl)⟩ (fun v G_5 H locs hw hP hS => ?_)
      obtain ⟨rfl, hW⟩ := hw
      refine W.eq (g2 := F0 m 1245 ls [.int (td + nI (1 + jd))]) rfl ?_
      have hW : lw y G_5 (td + nI (1 + jd)) ru fr hf S hp td ru fr hf S2 hp2 [(ar, 27, rr), (af, 20, ff), (ac, 1, g_3)] := hW
      refine lv_iload hK.1.1 hK.1.2.1 dL_acts_1245 (lv_at hl 0 rfl) ?_
      refine lv_icmp_ne (tgt := 1286) hK.1.1 hK.1.2.1 dL_acts_1247 (by decide) (fun c => absurd (by rw [htd, nI_add]) c) (fun _ => ?_)
      refine lv_aload_n hK.1.1 hK.1.2.1 dL_acts_1250 rfl (lv_at hl 3 rfl) ?_
      refine lv_iload hK.1.1 hK.1.2.1 dL_acts_1251 (lv_at hl 1 rfl) ?_
      refine gk_callSW (n := 2) (As := [.ref (ly_a (ly_sw y) 0), .int (nI (1 + jd))]) (rest := []) hK (ct_advance hfl hW ⟨by rw [show (1 : Int32) = nI 1 from rfl]; exact nI_nlt (by omega) (by omega), nI_le (b := 100) (by omega) (by decide)⟩ hle8) (gk_gS q_15_18 q_15_19 q_10_12 q_15_20) ⟨by decide +kernel, by decide +kernel, by decide +kernel⟩ ⟨(Nat.le_of_ble_eq_true rfl), (Nat.le_of_ble_eq_true rfl)⟩ hP hS rfl hl.1 rfl (Nat.le_of_ble_eq_true rfl) dL_acts_1253 ⟨(Nat.le_of_ble_eq_true rfl), (Nat.le_of_ble_eq_true rfl)⟩ (fun v G_6 H locs hw hP hS => ?_)
      obtain ⟨rfl, hW⟩ := hw
      refine W.eq (g2 := F0 m 1256 ls [.int (td + nI (1 + jd))]) rfl ?_
      have hW : lw y G_6 (td + nI (1 + jd)) ru fr hf S hp (td + nI (1 + jd)) ru fr hf S2 hp2 [(ar, 27, rr), (af, 20, ff), (ac, 1, g_3)] := hW
      refine lv_iload hK.1.1 hK.1.2.1 dL_acts_1256 (lv_at hl 0 rfl) ?_
      refine lv_icmp_ne (tgt := 1286) hK.1.1 hK.1.2.1 dL_acts_1258 (by decide) (fun c => absurd (by rw [htd, nI_add]) c) (fun _ => ?_)
      refine lv_aload_n hK.1.1 hK.1.2.1 dL_acts_1261 rfl (lv_at hl 2 rfl) ?_
      refine lv_iconst (v := 0) hK.1.1 hK.1.2.1 dL_acts_1262 (by decide) ?_
      refine gk_callSW (n := 2) (As := [.ref (ly_a y 0), .int 0]) (rest := []) hK (cb1_advance hfl (lw_o hW) (n := 0) (fun q => q.1 (by decide))) (gk_gS q_15_18 q_15_19 q_10_12 q_15_20) ⟨by decide +kernel, by decide +kernel, by decide +kernel⟩ ⟨(Nat.le_of_ble_eq_true rfl), (Nat.le_of_ble_eq_true rfl)⟩ hP hS rfl hl.1 rfl (Nat.le_of_ble_eq_true rfl) dL_acts_1263 ⟨(Nat.le_of_ble_eq_true rfl), (Nat.le_of_ble_eq_true rfl)⟩ (fun v G1 H locs hw hP hS => ?_)
      obtain ⟨rfl, hG9⟩ := hw
      rw [hG9] at hP
      refine W.eq (g2 := F0 m 1266 ls [.int (-1000002)]) rfl ?_
      refine lv_ldc (v := (-1000002)) hK.1.1 hK.1.2.1 hK.1.2.2.1 (hK.1.2.2.2 _ q_12_7) dL_acts_1266 ?_
      refine lv_icmp_ne (tgt := 1286) hK.1.1 hK.1.2.1 dL_acts_1268 (by decide) (fun c => absurd rfl c) (fun _ => ?_)
      refine lv_aload_n hK.1.1 hK.1.2.1 dL_acts_1271 rfl (lv_at hl 2 rfl) ?_
      refine lv_bipush (v := 101) hK.1.1 hK.1.2.1 dL_acts_1272 (by decide) ?_
      refine gk_callSW (n := 2) (As := [.ref (ly_a y 0), .int 101]) (rest := []) hK (cb1_advance hfl (lw_o hW) (n := 101) (fun q => absurd q.2 (by decide))) (gk_gS q_15_18 q_15_19 q_10_12 q_15_20) ⟨by decide +kernel, by decide +kernel, by decide +kernel⟩ ⟨(Nat.le_of_ble_eq_true rfl), (Nat.le_of_ble_eq_true rfl)⟩ hP hS rfl hl.1 rfl (Nat.le_of_ble_eq_true rfl) dL_acts_1274 ⟨(Nat.le_of_ble_eq_true rfl), (Nat.le_of_ble_eq_true rfl)⟩ (fun v G1 H locs hw hP hS => ?_)
      obtain ⟨rfl, hG9⟩ := hw
      rw [hG9] at hP
      refine W.eq (g2 := F0 m 1277 ls [.int (-1000002)]) rfl ?_
      refine lv_ldc (v := (-1000002)) hK.1.1 hK.1.2.1 hK.1.2.2.1 (hK.1.2.2.2 _ q_12_7) dL_acts_1277 ?_
      refine lv_icmp_ne (tgt := 1286) hK.1.1 hK.1.2.1 dL_acts_1279 (by decide) (fun c => absurd rfl c) (fun _ => ?_)
      refine lv_iconst (v := 1) hK.1.1 hK.1.2.1 dL_acts_1282 (by decide) ?_
      refine lv_goto (tgt := 1287) hK.1.1 hK.1.2.1 dL_acts_1283 (by decide) ?_
      exact gk_zret0 hK.1 hret (by first | decide | exact (rp_nz (by first | assumption | (simp; done))).1) hlk hP hS (Nat.le_of_ble_eq_true rfl) (Nat.le_of_ble_eq_true rfl) dL_acts_1287 ⟨rfl, (ed + (1 + jd)), (td + nI (1 + jd)), ru, fr, hf, S, hp, S2, hp2, tt, _, _, _, hW, ⟨_, iv_advance (m := 1 + jd) hI hle9⟩, ⟨_, iv_advance (m := 1 + jd) hI2 hle9⟩, ⟨_, hrn⟩, hlr, hlf, (by rw [hg_3, pk_us, htd, nI_add])⟩
    · have hgt9 : ¬ td + nI (1 + jd) ≤ 5000 := by rw [htd, nI_add]; exact c1204_2
      refine lv_ldc (v := (-1000003)) hK.1.1 hK.1.2.1 hK.1.2.2.1 (hK.1.2.2.2 _ q_12_8) dL_acts_1207 ?_
      refine lv_goto (tgt := 1219) hK.1.1 hK.1.2.1 dL_acts_1209 (by decide) ?_
      refine lv_istore (lv' := [(12, .int (-1000003)), (11, .int (nI (1 + jd))), (0, .ref (ly_a y 0)), (1, .ref (ly_a (ly_sw y) 0)), (2, .ref ar), (3, .ref af), (4, .ref ac), (5, .int xx), (6, .int yy), (7, .int (nI kd)), (8, .int (nI f)), (9, .int (nI h)), (10, .int (nI r))]) hK.1.1 hK.1.2.1 dL_acts_1219 hl (by decide) rfl (fun ls hl => ?_)
      refine lv_aload hK.1.1 hK.1.2.1 dL_acts_1221 (lv_at hl 6 rfl) ?_
      refine lv_iconst (v := 0) hK.1.1 hK.1.2.1 dL_acts_1223 (by decide) ?_
      refine lv_iload hK.1.1 hK.1.2.1 dL_acts_1224 (lv_at hl 0 rfl) ?_
      refine lv_if_ge (tgt := 1236) hK.1.1 hK.1.2.1 dL_acts_1226 (by decide) (fun c => absurd c (by decide)) (fun _ => ?_)
      refine lv_aload hK.1.1 hK.1.2.1 dL_acts_1229 (lv_at hl 6 rfl) ?_
      refine lv_iconst (v := 0) hK.1.1 hK.1.2.1 dL_acts_1231 (by decide) ?_
      refine gk_iald hK.1 hK.2.2.1.1 hP 0 (lw_get hW (k := 2) rfl) rfl (i := 0) (vp_in_nI (n := 0) (N := 1) (by omega) (by decide)) dL_acts_1232 ?_
      refine W.eq (g2 := F0 m 1233 ls [.int (nI ed), .int 0, .ref ac]) (by rw [show cc (0 : Int32).toNatClampNeg = nI ed from by rw [show (0 : Int32).toNatClampNeg = 0 from nI_clamp (n := 0) (by omega)]; exact (hcc.trans hI.1.1)]) ?_
      refine lv_goto (tgt := 1238) hK.1.1 hK.1.2.1 dL_acts_1233 (by decide) ?_
      refine gk_iast hK.1 hK.2.2.1.1 hP hS 0 (lw_get hW (k := 2) rfl) rfl (i := 0) (vp_in_nI (n := 0) (N := 1) (by omega) (by decide)) dL_acts_1238 (fun H locs hP hS => ?_)
      rw [show (0 : Int32).toNatClampNeg = 0 from nI_clamp (n := 0) (by omega)] at hP
      obtain ⟨g_7, hg_7⟩ : ∃ z, z = upd cc 0 (nI ed) := ⟨_, rfl⟩
      have hW : lw y (gk_up G ac (rp_i (ly_k y 0) 1 g_7)) td ru fr hf S hp td ru fr hf S2 hp2 [(ar, 27, rr), (af, 20, ff), (ac, 1, g_7)] := lw_set hW (k := 2) rfl g_7
      have hP : gk_P (ly_D y) A (gk_up G ac (rp_i (ly_k y 0) 1 g_7)) H := by rw [hg_7]; exact hP
      obtain ⟨G_8, hG_8⟩ : ∃ z, z = gk_up G ac (rp_i (ly_k y 0) 1 g_7) := ⟨_, rfl⟩
      have hP : gk_P (ly_D y) A G_8 H := by rw [hG_8]; exact hP
      have hW : lw y G_8 td ru fr hf S hp td ru fr hf S2 hp2 [(ar, 27, rr), (af, 20, ff), (ac, 1, g_7)] := by rw [hG_8]; exact hW
      refine lv_aload_n hK.1.1 hK.1.2.1 dL_acts_1239 rfl (lv_at hl 2 rfl) ?_
      refine lv_iload hK.1.1 hK.1.2.1 dL_acts_1240 (lv_at hl 1 rfl) ?_
      refine gk_callSW (n := 2) (As := [.ref (ly_a y 0), .int (nI (1 + jd))]) (rest := []) hK (cb2_advance hfl (lw_o hW) (n := nI (1 + jd)) ⟨by rw [show (1 : Int32) = nI 1 from rfl]; exact nI_nlt (by omega) (by omega), nI_le (b := 100) (by omega) (by decide)⟩ hgt9) (gk_gS q_15_18 q_15_19 q_10_12 q_15_20) ⟨by decide +kernel, by decide +kernel, by decide +kernel⟩ ⟨(Nat.le_of_ble_eq_true rfl), (Nat.le_of_ble_eq_true rfl)⟩ hP hS rfl hl.1 rfl (Nat.le_of_ble_eq_true rfl) dL_acts_1242 ⟨(Nat.le_of_ble_eq_true rfl), (Nat.le_of_ble_eq_true rfl)⟩ (fun v G1 H locs hw hP hS => ?_)
      obtain ⟨rfl, hG9⟩ := hw
      rw [hG9] at hP
      refine W.eq (g2 := F0 m 1245 ls [.int (-1000003)]) rfl ?_
      refine lv_iload hK.1.1 hK.1.2.1 dL_acts_1245 (lv_at hl 0 rfl) ?_
      refine lv_icmp_ne (tgt := 1286) hK.1.1 hK.1.2.1 dL_acts_1247 (by decide) (fun c => absurd rfl c) (fun _ => ?_)
      refine lv_aload_n hK.1.1 hK.1.2.1 dL_acts_1250 rfl (lv_at hl 3 rfl) ?_
      refine lv_iload hK.1.1 hK.1.2.1 dL_acts_1251 (lv_at hl 1 rfl) ?_
      refine gk_callSW (n := 2) (As := [.ref (ly_a (ly_sw y) 0), .int (nI (1 + jd))]) (rest := []) hK (gk_M0_sw (cb2_advance hfl (lw_t hW) (n := nI (1 + jd)) ⟨by rw [show (1 : Int32) = nI 1 from rfl]; exact nI_nlt (by omega) (by omega), nI_le (b := 100) (by omega) (by decide)⟩ hgt9)) (gk_gS q_15_18 q_15_19 q_10_12 q_15_20) ⟨by decide +kernel, by decide +kernel, by decide +kernel⟩ ⟨(Nat.le_of_ble_eq_true rfl), (Nat.le_of_ble_eq_true rfl)⟩ hP hS rfl hl.1 rfl (Nat.le_of_ble_eq_true rfl) dL_acts_1253 ⟨(Nat.le_of_ble_eq_true rfl), (Nat.le_of_ble_eq_true rfl)⟩ (fun v G1 H locs hw hP hS => ?_)
      obtain ⟨rfl, hG9⟩ := hw
      rw [hG9] at hP
      refine W.eq (g2 := F0 m 1256 ls [.int (-1000003)]) rfl ?_
      refine lv_iload hK.1.1 hK.1.2.1 dL_acts_1256 (lv_at hl 0 rfl) ?_
      refine lv_icmp_ne (tgt := 1286) hK.1.1 hK.1.2.1 dL_acts_1258 (by decide) (fun c => absurd rfl c) (fun _ => ?_)
      refine lv_aload_n hK.1.1 hK.1.2.1 dL_acts_1261 rfl (lv_at hl 2 rfl) ?_
      refine lv_iconst (v := 0) hK.1.1 hK.1.2.1 dL_acts_1262 (by decide) ?_
      refine gk_callSW (n := 2) (As := [.ref (ly_a y 0), .int 0]) (rest := []) hK (cb1_advance hfl (lw_o hW) (n := 0) (fun q => q.1 (by decide))) (gk_gS q_15_18 q_15_19 q_10_12 q_15_20) ⟨by decide +kernel, by decide +kernel, by decide +kernel⟩ ⟨(Nat.le_of_ble_eq_true rfl), (Nat.le_of_ble_eq_true rfl)⟩ hP hS rfl hl.1 rfl (Nat.le_of_ble_eq_true rfl) dL_acts_1263 ⟨(Nat.le_of_ble_eq_true rfl), (Nat.le_of_ble_eq_true rfl)⟩ (fun v G1 H locs hw hP hS => ?_)
      obtain ⟨rfl, hG9⟩ := hw
      rw [hG9] at hP
      refine W.eq (g2 := F0 m 1266 ls [.int (-1000002)]) rfl ?_
      refine lv_ldc (v := (-1000002)) hK.1.1 hK.1.2.1 hK.1.2.2.1 (hK.1.2.2.2 _ q_12_7) dL_acts_1266 ?_
      refine lv_icmp_ne (tgt := 1286) hK.1.1 hK.1.2.1 dL_acts_1268 (by decide) (fun c => absurd rfl c) (fun _ => ?_)
      refine lv_aload_n hK.1.1 hK.1.2.1 dL_acts_1271 rfl (lv_at hl 2 rfl) ?_
      refine lv_bipush (v := 101) hK.1.1 hK.1.2.1 dL_acts_1272 (by decide) ?_
      refine gk_callSW (n := 2) (As := [.ref (ly_a y 0), .int 101]) (rest := []) hK (cb1_advance hfl (lw_o hW) (n := 101) (fun q => absurd q.2 (by decide))) (gk_gS q_15_18 q_15_19 q_10_12 q_15_20) ⟨by decide +kernel, by decide +kernel, by decide +kernel⟩ ⟨(Nat.le_of_ble_eq_true rfl), (Nat.le_of_ble_eq_true rfl)⟩ hP hS rfl hl.1 rfl (Nat.le_of_ble_eq_true rfl) dL_acts_1274 ⟨(Nat.le_of_ble_eq_true rfl), (Nat.le_of_ble_eq_true rfl)⟩ (fun v G1 H locs hw hP hS => ?_)
      obtain ⟨rfl, hG9⟩ := hw
      rw [hG9] at hP
      refine W.eq (g2 := F0 m 1277 ls [.int (-1000002)]) rfl ?_
      refine lv_ldc (v := (-1000002)) hK.1.1 hK.1.2.1 hK.1.2.2.1 (hK.1.2.2.2 _ q_12_7) dL_acts_1277 ?_
      refine lv_icmp_ne (tgt := 1286) hK.1.1 hK.1.2.1 dL_acts_1279 (by decide) (fun c => absurd rfl c) (fun _ => ?_)
      refine lv_iconst (v := 1) hK.1.1 hK.1.2.1 dL_acts_1282 (by decide) ?_
      refine lv_goto (tgt := 1287) hK.1.1 hK.1.2.1 dL_acts_1283 (by decide) ?_
      exact gk_zret0 hK.1 hret (by first | decide | exact (rp_nz (by first | assumption | (simp; done))).1) hlk hP hS (Nat.le_of_ble_eq_true rfl) (Nat.le_of_ble_eq_true rfl) dL_acts_1287 ⟨rfl, ed, td, ru, fr, hf, S, hp, S2, hp2, tt, _, _, _, hW, ⟨_, iv_mono hI⟩, ⟨_, iv_mono hI2⟩, ⟨_, hrn⟩, hlr, hlf, (by rw [hg_7, pk_us, htd])⟩
  refine lv_if_ne (tgt := 1186) hK.1.1 hK.1.2.1 dL_acts_1178 (by decide) (fun c1178_9 => ?_) (fun c1178_9 => ?_)
  · refine lv_bipush (v := 8) hK.1.1 hK.1.2.1 dL_acts_1186 (by decide) ?_
    refine gk_callS0 (n := 2) (As := [.int yy, .int 8]) (rest := [.int 1]) hK (c_L_low l (x := yy) (n := 8) (by decide) (by decide)) (gk_gS q_12_9 q_12_10 q_10_12 q_12_11) ⟨by decide +kernel, by decide +kernel, by decide +kernel⟩ ⟨(Nat.le_of_ble_eq_true rfl), (Nat.le_of_ble_eq_true rfl)⟩ hP hS rfl hl.1 rfl (Nat.le_of_ble_eq_true rfl) dL_acts_1188 ⟨(Nat.le_of_ble_eq_true rfl), (Nat.le_of_ble_eq_true rfl)⟩ (fun v G1 H locs hw hP hS => ?_)
    obtain ⟨⟨j_10, hj_10, rfl⟩, hG9⟩ := hw
    rw [hG9] at hP
    refine W.eq (g2 := F0 m 1191 ls [.int (nI j_10), .int 1]) rfl ?_
    exact J1191 j_10 ls _ _ (by have := hj_10; omega) hP hS (lv_sub hl [0, 1, 2, 3, 4, 5, 6, 7, 8, 9, 10] rfl)
  · refine lv_bipush (v := 100) hK.1.1 hK.1.2.1 dL_acts_1181 (by decide) ?_
    refine lv_goto (tgt := 1188) hK.1.1 hK.1.2.1 dL_acts_1183 (by decide) ?_
    refine gk_callS0 (n := 2) (As := [.int yy, .int 100]) (rest := [.int 1]) hK (c_L_low l (x := yy) (n := 100) (by decide) (by decide)) (gk_gS q_12_9 q_12_10 q_10_12 q_12_11) ⟨by decide +kernel, by decide +kernel, by decide +kernel⟩ ⟨(Nat.le_of_ble_eq_true rfl), (Nat.le_of_ble_eq_true rfl)⟩ hP hS rfl hl.1 rfl (Nat.le_of_ble_eq_true rfl) dL_acts_1188 ⟨(Nat.le_of_ble_eq_true rfl), (Nat.le_of_ble_eq_true rfl)⟩ (fun v G1 H locs hw hP hS => ?_)
    obtain ⟨⟨j_11, hj_11, rfl⟩, hG9⟩ := hw
    rw [hG9] at hP
    refine W.eq (g2 := F0 m 1191 ls [.int (nI j_11), .int 1]) rfl ?_
    exact J1191 j_11 ls _ _ (by have := hj_11; omega) hP hS (lv_sub hl [0, 1, 2, 3, 4, 5, 6, 7, 8, 9, 10] rfl)
set_option maxHeartbeats 4000000 in
set_option maxRecDepth 100000 in
theorem aw_lose {ed N : Nat} {td : Int32} {ru : Nat → Nat → Int32} {fr : Nat → Nat} {hf hp hp2 : Nat → Option Nat} {S S2 : ts_T} {tt rr ff cc : Nat → Int32} {fi fi2 φ : Nat → Nat} {ar af ac : Nat} (hfl : l.stackTraces = false) (hW : lw y G td ru fr hf S hp td ru fr hf S2 hp2 [(ar, 27, rr), (af, 20, ff), (ac, 1, cc)]) (hI : iv ed N td ru fr hf S hp tt fi) (hI2 : iv ed N td ru fr hf S2 hp2 tt fi2) (hrn : rn φ S hp S2 hp2) (hlr : lr rr ru) (hlf : lf ff fr S tt) (hcc : cc 0 = td) (hN : N ≤ 110) {xx yy : Int32} {kd f h r : Nat} (f5 : f < 5) (hh : h < 4) (hr : r < 3) (hK : gk_K p s m c [.ref (ly_a y 0), .ref (ly_a (ly_sw y) 0), .ref ar, .ref af, .ref ac, .int xx, .int yy].toArray cL_acts RL 14 y A) (hret : meth.sig.returnType = some .boolean) (hlk : meth.locks = false) (hP : gk_P (ly_D y) A G H) (hS : va_S A s.heap H locs) (hl : lv_has ls 14 [(0, .ref (ly_a y 0)), (1, .ref (ly_a (ly_sw y) 0)), (2, .ref ar), (3, .ref af), (4, .ref ac), (5, .int xx), (6, .int yy), (7, .int (nI kd)), (8, .int (nI f)), (9, .int (nI h)), (10, .int (nI r))]) : W p l e { frames := 11, cells := 112, slots := 30100, locals := 400 } s m [.ref (ly_a y 0), .ref (ly_a (ly_sw y) 0), .ref ar, .ref af, .ref ac, .int xx, .int yy].toArray below meth c H locs 0 0 (MQ below (gk_Q y A (fun v G1 => v = some (.int 1) ∧ lj y G1 ar af ac (N + 1))) [.ref (ly_a y 0), .ref (ly_a (ly_sw y) 0), .ref ar, .ref af, .ref ac, .int xx, .int yy].toArray s 112 30100 A) (F0 m 1323 ls []) := by
  have hN1 : N ≤ 111 := by omega
  have he9 := hI.1.2
  refine lv_aload_n hK.1.1 hK.1.2.1 dL_acts_1323 rfl (lv_at hl 3 rfl) ?_
  refine lv_iconst (v := 4) hK.1.1 hK.1.2.1 dL_acts_1324 (by decide) ?_
  refine lv_iload hK.1.1 hK.1.2.1 dL_acts_1325 (lv_at hl 8 rfl) ?_
  refine lv_imul hK.1.1 hK.1.2.1 dL_acts_1327 ?_
  refine W.eq (g2 := F0 m 1328 ls [.int (nI (4 * f)), .ref af]) (by rw [show 4 * (nI f) = nI (4 * f) from pk_mul _ _]) ?_
  refine lv_iconst (v := 1) hK.1.1 hK.1.2.1 dL_acts_1328 (by decide) ?_
  refine lv_iadd hK.1.1 hK.1.2.1 dL_acts_1329 ?_
  refine W.eq (g2 := F0 m 1330 ls [.int (nI ((4 * f) + 1)), .ref af]) (by rw [show (nI (4 * f)) + 1 = nI ((4 * f) + 1) from nI_add _ _]) ?_
  refine gk_iald hK.1 hK.2.2.1.1 hP 0 (lw_get hW (k := 1) rfl) rfl (i := nI ((4 * f) + 1)) (vp_in_nI (n := (4 * f) + 1) (N := 20) (by omega) (by decide)) dL_acts_1330 ?_
  refine W.eq (g2 := F0 m 1331 ls [.int (S.2.1 f)]) (by rw [show ff (nI ((4 * f) + 1)).toNatClampNeg = S.2.1 f from by rw [show (nI ((4 * f) + 1) : Int32).toNatClampNeg = (4 * f) + 1 from nI_clamp (n := (4 * f) + 1) (by omega)]; exact (hlf f f5).2.1]) ?_
  refine lv_istore (lv' := [(11, .int (S.2.1 f)), (0, .ref (ly_a y 0)), (1, .ref (ly_a (ly_sw y) 0)), (2, .ref ar), (3, .ref af), (4, .ref ac), (5, .int xx), (6, .int yy), (7, .int (nI kd)), (8, .int (nI f)), (9, .int (nI h)), (10, .int (nI r))]) hK.1.1 hK.1.2.1 dL_acts_1331 hl (by decide) rfl (fun ls hl => ?_)
  refine lv_aload_n hK.1.1 hK.1.2.1 dL_acts_1333 rfl (lv_at hl 4 rfl) ?_
  refine lv_iconst (v := 4) hK.1.1 hK.1.2.1 dL_acts_1334 (by decide) ?_
  refine lv_iload hK.1.1 hK.1.2.1 dL_acts_1335 (lv_at hl 9 rfl) ?_
  refine lv_imul hK.1.1 hK.1.2.1 dL_acts_1337 ?_
  refine W.eq (g2 := F0 m 1338 ls [.int (nI (4 * f)), .ref af]) (by rw [show 4 * (nI f) = nI (4 * f) from pk_mul _ _]) ?_
  refine lv_iconst (v := 1) hK.1.1 hK.1.2.1 dL_acts_1338 (by decide) ?_
  refine lv_iadd hK.1.1 hK.1.2.1 dL_acts_1339 ?_
  refine W.eq (g2 := F0 m 1340 ls [.int (nI ((4 * f) + 1)), .ref af]) (by rw [show (nI (4 * f)) + 1 = nI ((4 * f) + 1) from nI_add _ _]) ?_
  refine lv_aload hK.1.1 hK.1.2.1 dL_acts_1340 (lv_at hl 5 rfl) ?_
  refine lv_iconst (v := 0) hK.1.1 hK.1.2.1 dL_acts_1342 (by decide) ?_
  refine gk_iald hK.1 hK.2.2.1.1 hP 0 (lw_get hW (k := 2) rfl) rfl (i := 0) (vp_in_nI (n := 0) (N := 1) (by omega) (by decide)) dL_acts_1343 ?_
  refine W.eq (g2 := F0 m 1344 ls [.int td, .int (nI ((4 * f) + 1)), .ref af]) (by rw [show cc (0 : Int32).toNatClampNeg = td from by rw [show (0 : Int32).toNatClampNeg = 0 from nI_clamp (n := 0) (by omega)]; exact hcc]) ?_
  refine gk_iast hK.1 hK.2.2.1.1 hP hS 0 (lw_get hW (k := 1) rfl) rfl (i := nI ((4 * f) + 1)) (vp_in_nI (n := (4 * f) + 1) (N := 20) (by omega) (by decide)) dL_acts_1344 (fun H locs hP hS => ?_)
  rw [show (nI ((4 * f) + 1) : Int32).toNatClampNeg = (4 * f) + 1 from nI_clamp (n := (4 * f) + 1) (by omega)] at hP
  obtain ⟨g_1, hg_1⟩ : ∃ z, z = upd ff ((4 * f) + 1) td := ⟨_, rfl⟩
  have hW : lw y (gk_up G af (rp_i (ly_k y 0) 20 g_1)) td ru fr hf S hp td ru fr hf S2 hp2 [(ar, 27, rr), (af, 20, g_1), (ac, 1, cc)] := lw_set hW (k := 1) rfl g_1
  have hP : gk_P (ly_D y) A (gk_up G af (rp_i (ly_k y 0) 20 g_1)) H := by rw [hg_1]; exact hP
  obtain ⟨G_2, hG_2⟩ : ∃ z, z = gk_up G af (rp_i (ly_k y 0) 20 g_1) := ⟨_, rfl⟩
  have hP : gk_P (ly_D y) A G_2 H := by rw [hG_2]; exact hP
  have hW : lw y G_2 td ru fr hf S hp td ru fr hf S2 hp2 [(ar, 27, rr), (af, 20, g_1), (ac, 1, cc)] := by rw [hG_2]; exact hW
  refine lv_aload_n hK.1.1 hK.1.2.1 dL_acts_1345 rfl (lv_at hl 4 rfl) ?_
  refine lv_iconst (v := 4) hK.1.1 hK.1.2.1 dL_acts_1346 (by decide) ?_
  refine lv_iload hK.1.1 hK.1.2.1 dL_acts_1347 (lv_at hl 9 rfl) ?_
  refine lv_imul hK.1.1 hK.1.2.1 dL_acts_1349 ?_
  refine W.eq (g2 := F0 m 1350 ls [.int (nI (4 * f)), .ref af]) (by rw [show 4 * (nI f) = nI (4 * f) from pk_mul _ _]) ?_
  refine lv_iconst (v := 2) hK.1.1 hK.1.2.1 dL_acts_1350 (by decide) ?_
  refine lv_iadd hK.1.1 hK.1.2.1 dL_acts_1351 ?_
  refine W.eq (g2 := F0 m 1352 ls [.int (nI ((4 * f) + 2)), .ref af]) (by rw [show (nI (4 * f)) + 2 = nI ((4 * f) + 2) from nI_add _ _]) ?_
  refine lv_iconst (v := 1) hK.1.1 hK.1.2.1 dL_acts_1352 (by decide) ?_
  refine gk_iast hK.1 hK.2.2.1.1 hP hS 0 (lw_get hW (k := 1) rfl) rfl (i := nI ((4 * f) + 2)) (vp_in_nI (n := (4 * f) + 2) (N := 20) (by omega) (by decide)) dL_acts_1353 (fun H locs hP hS => ?_)
  rw [show (nI ((4 * f) + 2) : Int32).toNatClampNeg = (4 * f) + 2 from nI_clamp (n := (4 * f) + 2) (by omega)] at hP
  obtain ⟨g_3, hg_3⟩ : ∃ z, z = upd g_1 ((4 * f) + 2) 1 := ⟨_, rfl⟩
  have hW : lw y (gk_up G_2 af (rp_i (ly_k y 0) 20 g_3)) td ru fr hf S hp td ru fr hf S2 hp2 [(ar, 27, rr), (af, 20, g_3), (ac, 1, cc)] := lw_set hW (k := 1) rfl g_3
  have hP : gk_P (ly_D y) A (gk_up G_2 af (rp_i (ly_k y 0) 20 g_3)) H := by rw [hg_3]; exact hP
  obtain ⟨G_4, hG_4⟩ : ∃ z, z = gk_up G_2 af (rp_i (ly_k y 0) 20 g_3) := ⟨_, rfl⟩
  have hP : gk_P (ly_D y) A G_4 H := by rw [hG_4]; exact hP
  have hW : lw y G_4 td ru fr hf S hp td ru fr hf S2 hp2 [(ar, 27, rr), (af, 20, g_3), (ac, 1, cc)] := by rw [hG_4]; exact hW
  refine lv_aload_n hK.1.1 hK.1.2.1 dL_acts_1354 rfl (lv_at hl 1 rfl) ?_
  refine lv_iload hK.1.1 hK.1.2.1 dL_acts_1355 (lv_at hl 9 rfl) ?_
  refine gk_callSW (n := 2) (As := [.ref (ly_a y 0), .int (nI f)]) (rest := []) hK (co_lose hfl hW f5) (gk_gS q_17_10 q_17_11 q_10_12 q_17_12) ⟨by decide +kernel, by decide +kernel, by decide +kernel⟩ ⟨(Nat.le_of_ble_eq_true rfl), (Nat.le_of_ble_eq_true rfl)⟩ hP hS rfl hl.1 rfl (Nat.le_of_ble_eq_true rfl) dL_acts_1357 ⟨(Nat.le_of_ble_eq_true rfl), (Nat.le_of_ble_eq_true rfl)⟩ (fun v G_5 H locs hw hP hS => ?_)
  obtain ⟨rfl, hW⟩ := hw
  refine W.eq (g2 := F0 m 1360 ls [.int (S.2.1 f)]) rfl ?_
  have hW : lw y G_5 td ru fr hf (S.1, va_up S.2.1 f td, va_up S.2.2.1 f 1, S.2.2.2) hp td ru fr hf S2 hp2 [(ar, 27, rr), (af, 20, g_3), (ac, 1, cc)] := hW
  refine lv_iload hK.1.1 hK.1.2.1 dL_acts_1360 (lv_at hl 0 rfl) ?_
  refine lv_icmp_ne (tgt := 1390) hK.1.1 hK.1.2.1 dL_acts_1362 (by decide) (fun c => absurd rfl c) (fun _ => ?_)
  refine lv_aload_n hK.1.1 hK.1.2.1 dL_acts_1365 rfl (lv_at hl 2 rfl) ?_
  refine lv_iload hK.1.1 hK.1.2.1 dL_acts_1366 (lv_at hl 9 rfl) ?_
  refine gk_callSW (n := 2) (As := [.ref (ly_a (ly_sw y) 0), .int (nI f)]) (rest := []) hK (ct_lose hfl hW f5) (gk_gS q_17_10 q_17_11 q_10_12 q_17_12) ⟨by decide +kernel, by decide +kernel, by decide +kernel⟩ ⟨(Nat.le_of_ble_eq_true rfl), (Nat.le_of_ble_eq_true rfl)⟩ hP hS rfl hl.1 rfl (Nat.le_of_ble_eq_true rfl) dL_acts_1368 ⟨(Nat.le_of_ble_eq_true rfl), (Nat.le_of_ble_eq_true rfl)⟩ (fun v G_6 H locs hw hP hS => ?_)
  obtain ⟨rfl, hW⟩ := hw
  refine W.eq (g2 := F0 m 1371 ls [.int (S2.2.1 f)]) rfl ?_
  have hW : lw y G_6 td ru fr hf (S.1, va_up S.2.1 f td, va_up S.2.2.1 f 1, S.2.2.2) hp td ru fr hf (S2.1, va_up S2.2.1 f td, va_up S2.2.2.1 f 1, S2.2.2.2) hp2 [(ar, 27, rr), (af, 20, g_3), (ac, 1, cc)] := hW
  refine lv_iload hK.1.1 hK.1.2.1 dL_acts_1371 (lv_at hl 0 rfl) ?_
  refine lv_icmp_ne (tgt := 1390) hK.1.1 hK.1.2.1 dL_acts_1373 (by decide) (fun c => absurd (by rw [hrn.2.1.1]) c) (fun _ => ?_)
  refine lv_aload_n hK.1.1 hK.1.2.1 dL_acts_1376 rfl (lv_at hl 1 rfl) ?_
  refine lv_iconst (v := 5) hK.1.1 hK.1.2.1 dL_acts_1377 (by decide) ?_
  refine gk_callSW (n := 2) (As := [.ref (ly_a y 0), .int 5]) (rest := []) hK (cb0_lose hfl (lw_o hW) (i := 5) (Or.inr (by decide))) (gk_gS q_17_10 q_17_11 q_10_12 q_17_12) ⟨by decide +kernel, by decide +kernel, by decide +kernel⟩ ⟨(Nat.le_of_ble_eq_true rfl), (Nat.le_of_ble_eq_true rfl)⟩ hP hS rfl hl.1 rfl (Nat.le_of_ble_eq_true rfl) dL_acts_1378 ⟨(Nat.le_of_ble_eq_true rfl), (Nat.le_of_ble_eq_true rfl)⟩ (fun v G1 H locs hw hP hS => ?_)
  obtain ⟨rfl, hG9⟩ := hw
  rw [hG9] at hP
  refine W.eq (g2 := F0 m 1381 ls [.int (-1000001)]) rfl ?_
  refine lv_ldc (v := (-1000001)) hK.1.1 hK.1.2.1 hK.1.2.2.1 (hK.1.2.2.2 _ q_1_4) dL_acts_1381 ?_
  refine lv_icmp_ne (tgt := 1390) hK.1.1 hK.1.2.1 dL_acts_1383 (by decide) (fun c => absurd rfl c) (fun _ => ?_)
  refine lv_iconst (v := 1) hK.1.1 hK.1.2.1 dL_acts_1386 (by decide) ?_
  refine lv_goto (tgt := 1391) hK.1.1 hK.1.2.1 dL_acts_1387 (by decide) ?_
  exact gk_zret0 hK.1 hret (by first | decide | exact (rp_nz (by first | assumption | (simp; done))).1) hlk hP hS (Nat.le_of_ble_eq_true rfl) (Nat.le_of_ble_eq_true rfl) dL_acts_1391 ⟨rfl, ed, td, ru, fr, hf, (S.1, va_up S.2.1 f td, va_up S.2.2.1 f 1, S.2.2.2), hp, (S2.1, va_up S2.2.1 f td, va_up S2.2.2.1 f 1, S2.2.2.2), hp2, tt, _, _, _, hW, ⟨_, iv_lose hI⟩, ⟨_, iv_lose hI2⟩, ⟨_, rn_lose hrn⟩, hlr, (by rw [hg_3, hg_1]; exact lf_lose hlf), hcc⟩
set_option maxHeartbeats 4000000 in
set_option maxRecDepth 100000 in
theorem aw_runs {ed N : Nat} {td : Int32} {ru : Nat → Nat → Int32} {fr : Nat → Nat} {hf hp hp2 : Nat → Option Nat} {S S2 : ts_T} {tt rr ff cc : Nat → Int32} {fi fi2 φ : Nat → Nat} {ar af ac : Nat} (hfl : l.stackTraces = false) (hW : lw y G td ru fr hf S hp td ru fr hf S2 hp2 [(ar, 27, rr), (af, 20, ff), (ac, 1, cc)]) (hI : iv ed N td ru fr hf S hp tt fi) (hI2 : iv ed N td ru fr hf S2 hp2 tt fi2) (hrn : rn φ S hp S2 hp2) (hlr : lr rr ru) (hlf : lf ff fr S tt) (hcc : cc 0 = td) (hN : N ≤ 110) {xx yy : Int32} {kd f h r : Nat} (f5 : f < 5) (hh : h < 4) (hr : r < 3) (hK : gk_K p s m c [.ref (ly_a y 0), .ref (ly_a (ly_sw y) 0), .ref ar, .ref af, .ref ac, .int xx, .int yy].toArray cL_acts RL 14 y A) (hret : meth.sig.returnType = some .boolean) (hlk : meth.locks = false) (hP : gk_P (ly_D y) A G H) (hS : va_S A s.heap H locs) (hl : lv_has ls 14 [(0, .ref (ly_a y 0)), (1, .ref (ly_a (ly_sw y) 0)), (2, .ref ar), (3, .ref af), (4, .ref ac), (5, .int xx), (6, .int yy), (7, .int (nI kd)), (8, .int (nI f)), (9, .int (nI h)), (10, .int (nI r))]) : W p l e { frames := 11, cells := 112, slots := 30100, locals := 400 } s m [.ref (ly_a y 0), .ref (ly_a (ly_sw y) 0), .ref ar, .ref af, .ref ac, .int xx, .int yy].toArray below meth c H locs 0 0 (MQ below (gk_Q y A (fun v G1 => v = some (.int 1) ∧ lj y G1 ar af ac (N + 1))) [.ref (ly_a y 0), .ref (ly_a (ly_sw y) 0), .ref ar, .ref af, .ref ac, .int xx, .int yy].toArray s 112 30100 A) (F0 m 1295 ls []) := by
  have hN1 : N ≤ 111 := by omega
  have he9 := hI.1.2
  refine lv_aload_n hK.1.1 hK.1.2.1 dL_acts_1295 rfl (lv_at hl 0 rfl) ?_
  refine lv_aload_n hK.1.1 hK.1.2.1 dL_acts_1296 rfl (lv_at hl 1 rfl) ?_
  refine lv_aload_n hK.1.1 hK.1.2.1 dL_acts_1297 rfl (lv_at hl 2 rfl) ?_
  refine lv_aload_n hK.1.1 hK.1.2.1 dL_acts_1298 rfl (lv_at hl 3 rfl) ?_
  refine lv_aload hK.1.1 hK.1.2.1 dL_acts_1299 (lv_at hl 4 rfl) ?_
  refine gk_callS0 (n := 5) (As := [.ref (ly_a y 0), .ref (ly_a (ly_sw y) 0), .ref ar, .ref af, .ref ac]) (rest := []) hK (c_L_runs l hfl hW hI hI2 hrn hlr hlf hcc hN) (gk_gS q_16_1 q_16_2 q_10_12 q_16_3) ⟨by decide +kernel, by decide +kernel, by decide +kernel⟩ ⟨(Nat.le_of_ble_eq_true rfl), (Nat.le_of_ble_eq_true rfl)⟩ hP hS rfl hl.1 rfl (Nat.le_of_ble_eq_true rfl) dL_acts_1301 ⟨(Nat.le_of_ble_eq_true rfl), (Nat.le_of_ble_eq_true rfl)⟩ (fun v G_1 H locs hw hP hS => ?_)
  obtain ⟨rfl, hJ9⟩ := hw
  refine W.eq (g2 := F0 m 1304 ls [.int 1]) rfl ?_
  exact gk_zret0 hK.1 hret (by first | decide | exact (rp_nz (by first | assumption | (simp; done))).1) hlk hP hS (Nat.le_of_ble_eq_true rfl) (Nat.le_of_ble_eq_true rfl) dL_acts_1304 ⟨rfl, hJ9⟩
set_option maxHeartbeats 4000000 in
set_option maxRecDepth 100000 in
theorem aw_turn {ed N : Nat} {td : Int32} {ru : Nat → Nat → Int32} {fr : Nat → Nat} {hf hp hp2 : Nat → Option Nat} {S S2 : ts_T} {tt rr ff cc : Nat → Int32} {fi fi2 φ : Nat → Nat} {ar af ac : Nat} (hfl : l.stackTraces = false) (hW : lw y G td ru fr hf S hp td ru fr hf S2 hp2 [(ar, 27, rr), (af, 20, ff), (ac, 1, cc)]) (hI : iv ed N td ru fr hf S hp tt fi) (hI2 : iv ed N td ru fr hf S2 hp2 tt fi2) (hrn : rn φ S hp S2 hp2) (hlr : lr rr ru) (hlf : lf ff fr S tt) (hcc : cc 0 = td) (hN : N ≤ 110) {xx yy : Int32} {kd f h r : Nat} (f5 : f < 5) (hh : h < 4) (hr : r < 3) (hK : gk_K p s m c [.ref (ly_a y 0), .ref (ly_a (ly_sw y) 0), .ref ar, .ref af, .ref ac, .int xx, .int yy].toArray cL_acts RL 14 y A) (hret : meth.sig.returnType = some .boolean) (hlk : meth.locks = false) (hP : gk_P (ly_D y) A G H) (hS : va_S A s.heap H locs) (hl : lv_has ls 14 [(0, .ref (ly_a y 0)), (1, .ref (ly_a (ly_sw y) 0)), (2, .ref ar), (3, .ref af), (4, .ref ac), (5, .int xx), (6, .int yy), (7, .int (nI kd)), (8, .int (nI f)), (9, .int (nI h)), (10, .int (nI r))]) : W p l e { frames := 11, cells := 112, slots := 30100, locals := 400 } s m [.ref (ly_a y 0), .ref (ly_a (ly_sw y) 0), .ref ar, .ref af, .ref ac, .int xx, .int yy].toArray below meth c H locs 0 0 (MQ below (gk_Q y A (fun v G1 => v = some (.int 1) ∧ lj y G1 ar af ac (N + 1))) [.ref (ly_a y 0), .ref (ly_a (ly_sw y) 0), .ref ar, .ref af, .ref ac, .int xx, .int yy].toArray s 112 30100 A) (F0 m 1392 ls []) := by
  have hN1 : N ≤ 111 := by omega
  have he9 := hI.1.2
  have hle := iv_len hI hN1 f f5
  refine lv_aload_n hK.1.1 hK.1.2.1 dL_acts_1392 rfl (lv_at hl 0 rfl) ?_
  refine lv_iload hK.1.1 hK.1.2.1 dL_acts_1393 (lv_at hl 8 rfl) ?_
  refine gk_callSW (n := 2) (As := [.ref (ly_a y 0), .int (nI f)]) (rest := []) hK (c0_L_olds l hfl (lw_o hW) (f := f) f5) (gk_gS q_16_10 q_16_11 q_10_12 q_16_12) ⟨by decide +kernel, by decide +kernel, by decide +kernel⟩ ⟨(Nat.le_of_ble_eq_true rfl), (Nat.le_of_ble_eq_true rfl)⟩ hP hS rfl hl.1 rfl (Nat.le_of_ble_eq_true rfl) dL_acts_1395 ⟨(Nat.le_of_ble_eq_true rfl), (Nat.le_of_ble_eq_true rfl)⟩ (fun v G1 H locs hw hP hS => ?_)
  obtain ⟨rfl, hG9⟩ := hw
  rw [hG9] at hP
  refine W.eq (g2 := F0 m 1398 ls [.int (nI (S.2.2.2.2.1 f).length)]) rfl ?_
  refine lv_bipush (v := 80) hK.1.1 hK.1.2.1 dL_acts_1398 (by decide) ?_
  refine lv_icmp_gt (tgt := 1417) hK.1.1 hK.1.2.1 dL_acts_1400 (by decide) (fun c1400_1 => ?_) (fun c1400_1 => ?_)
  · refine lv_iconst (v := 1) hK.1.1 hK.1.2.1 dL_acts_1417 (by decide) ?_
    refine lv_goto (tgt := 1422) hK.1.1 hK.1.2.1 dL_acts_1418 (by decide) ?_
    exact gk_zret0 hK.1 hret (by first | decide | exact (rp_nz (by first | assumption | (simp; done))).1) hlk hP hS (Nat.le_of_ble_eq_true rfl) (Nat.le_of_ble_eq_true rfl) dL_acts_1422 ⟨rfl, ed, td, ru, fr, hf, S, hp, S2, hp2, tt, _, _, _, hW, ⟨_, iv_mono hI⟩, ⟨_, iv_mono hI2⟩, ⟨_, hrn⟩, hlr, hlf, hcc⟩
  · have h80 : (S.2.2.2.2.1 f).length ≤ 80 := Nat.le_of_not_lt (fun q => c1400_1 (nI_lt (a := 80) q (by omega)))
    refine lv_aload_n hK.1.1 hK.1.2.1 dL_acts_1403 rfl (lv_at hl 0 rfl) ?_
    refine lv_aload_n hK.1.1 hK.1.2.1 dL_acts_1404 rfl (lv_at hl 1 rfl) ?_
    refine lv_aload_n hK.1.1 hK.1.2.1 dL_acts_1405 rfl (lv_at hl 2 rfl) ?_
    refine lv_aload_n hK.1.1 hK.1.2.1 dL_acts_1406 rfl (lv_at hl 3 rfl) ?_
    refine lv_aload hK.1.1 hK.1.2.1 dL_acts_1407 (lv_at hl 4 rfl) ?_
    refine lv_iload hK.1.1 hK.1.2.1 dL_acts_1409 (lv_at hl 8 rfl) ?_
    refine gk_callS0 (n := 6) (As := [.ref (ly_a y 0), .ref (ly_a (ly_sw y) 0), .ref ar, .ref af, .ref ac, .int (nI f)]) (rest := []) hK (c_L_turns l hfl hW hI hI2 hrn hlr hlf hcc hN (f := f) f5 h80) (gk_gS q_17_17 q_17_18 q_10_12 q_17_19) ⟨by decide +kernel, by decide +kernel, by decide +kernel⟩ ⟨(Nat.le_of_ble_eq_true rfl), (Nat.le_of_ble_eq_true rfl)⟩ hP hS rfl hl.1 rfl (Nat.le_of_ble_eq_true rfl) dL_acts_1411 ⟨(Nat.le_of_ble_eq_true rfl), (Nat.le_of_ble_eq_true rfl)⟩ (fun v G_2 H locs hw hP hS => ?_)
    obtain ⟨rfl, hJ9⟩ := hw
    refine W.eq (g2 := F0 m 1414 ls [.int 1]) rfl ?_
    refine lv_if_eq (tgt := 1421) hK.1.1 hK.1.2.1 dL_acts_1414 (by decide) (fun c => absurd c (by decide)) (fun _ => ?_)
    refine lv_iconst (v := 1) hK.1.1 hK.1.2.1 dL_acts_1417 (by decide) ?_
    refine lv_goto (tgt := 1422) hK.1.1 hK.1.2.1 dL_acts_1418 (by decide) ?_
    exact gk_zret0 hK.1 hret (by first | decide | exact (rp_nz (by first | assumption | (simp; done))).1) hlk hP hS (Nat.le_of_ble_eq_true rfl) (Nat.le_of_ble_eq_true rfl) dL_acts_1422 ⟨rfl, hJ9⟩
end AW
set_option maxHeartbeats 4000000 in
set_option maxRecDepth 100000 in
theorem c_L_acts (l : Launch) {y : ly_T} {A : Nat → Prop} {G : gk_G} {ar af ac N : Nat} {xx yy : Int32} (hfl : l.stackTraces = false) (hJ : lj y G ar af ac N) (hN : N ≤ 110) : gk_M0 l yL_acts (Cond.code yL_acts cL_acts 14 (some .boolean)) 11 400 112 30100 y A [.ref (ly_a y 0), .ref (ly_a (ly_sw y) 0), .ref ar, .ref af, .ref ac, .int xx, .int yy] G (fun v G1 => v = some (.int 1) ∧ lj y G1 ar af ac (N + 1)) := by
  refine gk_of0 (cc := cL_acts) (maxL := 14) (ret := (some .boolean)) (own := RL) (by decide +kernel) rfl rfl (Nat.le_of_ble_eq_true rfl) ?_
  intro p e s m below meth c ls hK hret hlk _ hP hS hl
  have hl : lv_has ls 14 [(0, .ref (ly_a y 0)), (1, .ref (ly_a (ly_sw y) 0)), (2, .ref ar), (3, .ref af), (4, .ref ac), (5, .int xx), (6, .int yy)] := hl
  obtain ⟨ed, td, ru, fr, hf, S, hp, S2, hp2, tt, rr, ff, cc, hW, ⟨fi, hI⟩, ⟨fi2, hI2⟩, ⟨φ, hrn⟩, hlr, hlf, hcc⟩ := hJ
  refine lv_iload hK.1.1 hK.1.2.1 dL_acts_0 (lv_at hl 5 rfl) ?_
  refine lv_bipush (v := 24) hK.1.1 hK.1.2.1 dL_acts_2 (by decide) ?_
  refine gk_callS0 (n := 2) (As := [.int xx, .int 24]) (rest := []) hK (c_L_low l (x := xx) (n := 24) (by decide) (by decide)) (gk_gS q_12_9 q_12_10 q_10_12 q_12_11) ⟨by decide +kernel, by decide +kernel, by decide +kernel⟩ ⟨(Nat.le_of_ble_eq_true rfl), (Nat.le_of_ble_eq_true rfl)⟩ hP hS rfl hl.1 rfl (Nat.le_of_ble_eq_true rfl) dL_acts_4 ⟨(Nat.le_of_ble_eq_true rfl), (Nat.le_of_ble_eq_true rfl)⟩ (fun v G1 H locs hw hP hS => ?_)
  obtain ⟨⟨j_1, hj_1, rfl⟩, hG9⟩ := hw
  rw [hG9] at hP
  refine W.eq (g2 := F0 m 7 ls [.int (nI j_1)]) rfl ?_
  refine lv_istore (lv' := [(7, .int (nI j_1)), (0, .ref (ly_a y 0)), (1, .ref (ly_a (ly_sw y) 0)), (2, .ref ar), (3, .ref af), (4, .ref ac), (5, .int xx), (6, .int yy)]) hK.1.1 hK.1.2.1 dL_acts_7 hl (by decide) rfl (fun ls hl => ?_)
  refine lv_iload hK.1.1 hK.1.2.1 dL_acts_9 (lv_at hl 7 rfl) ?_
  refine lv_iconst (v := 5) hK.1.1 hK.1.2.1 dL_acts_11 (by decide) ?_
  refine gk_callS0 (n := 2) (As := [.int yy, .int 5]) (rest := []) hK (c_L_low l (x := yy) (n := 5) (by decide) (by decide)) (gk_gS q_12_9 q_12_10 q_10_12 q_12_11) ⟨by decide +kernel, by decide +kernel, by decide +kernel⟩ ⟨(Nat.le_of_ble_eq_true rfl), (Nat.le_of_ble_eq_true rfl)⟩ hP hS rfl hl.1 rfl (Nat.le_of_ble_eq_true rfl) dL_acts_12 ⟨(Nat.le_of_ble_eq_true rfl), (Nat.le_of_ble_eq_true rfl)⟩ (fun v G1 H locs hw hP hS => ?_)
  obtain ⟨⟨j_2, hj_2, rfl⟩, hG9⟩ := hw
  rw [hG9] at hP
  refine W.eq (g2 := F0 m 15 ls [.int (nI j_2)]) rfl ?_
  refine lv_istore (lv' := [(8, .int (nI j_2)), (7, .int (nI j_1)), (0, .ref (ly_a y 0)), (1, .ref (ly_a (ly_sw y) 0)), (2, .ref ar), (3, .ref af), (4, .ref ac), (5, .int xx), (6, .int yy)]) hK.1.1 hK.1.2.1 dL_acts_15 hl (by decide) rfl (fun ls hl => ?_)
  refine lv_iload hK.1.1 hK.1.2.1 dL_acts_17 (lv_at hl 7 rfl) ?_
  refine lv_iconst (v := 5) hK.1.1 hK.1.2.1 dL_acts_19 (by decide) ?_
  refine lv_ishr hK.1.1 hK.1.2.1 dL_acts_20 ?_
  refine lv_iconst (v := 4) hK.1.1 hK.1.2.1 dL_acts_21 (by decide) ?_
  refine gk_callS0 (n := 2) (As := [.int (xx >>> (5 &&& 31)), .int 4]) (rest := []) hK (c_L_low l (x := (xx >>> (5 &&& 31))) (n := 4) (by decide) (by decide)) (gk_gS q_12_9 q_12_10 q_10_12 q_12_11) ⟨by decide +kernel, by decide +kernel, by decide +kernel⟩ ⟨(Nat.le_of_ble_eq_true rfl), (Nat.le_of_ble_eq_true rfl)⟩ hP hS rfl hl.1 rfl (Nat.le_of_ble_eq_true rfl) dL_acts_22 ⟨(Nat.le_of_ble_eq_true rfl), (Nat.le_of_ble_eq_true rfl)⟩ (fun v G1 H locs hw hP hS => ?_)
  obtain ⟨⟨j_3, hj_3, rfl⟩, hG9⟩ := hw
  rw [hG9] at hP
  refine W.eq (g2 := F0 m 25 ls [.int (nI j_3)]) rfl ?_
  refine lv_istore (lv' := [(9, .int (nI j_3)), (8, .int (nI j_2)), (7, .int (nI j_1)), (0, .ref (ly_a y 0)), (1, .ref (ly_a (ly_sw y) 0)), (2, .ref ar), (3, .ref af), (4, .ref ac), (5, .int xx), (6, .int yy)]) hK.1.1 hK.1.2.1 dL_acts_25 hl (by decide) rfl (fun ls hl => ?_)
  refine lv_iload hK.1.1 hK.1.2.1 dL_acts_27 (lv_at hl 8 rfl) ?_
  refine lv_bipush (v := 7) hK.1.1 hK.1.2.1 dL_acts_29 (by decide) ?_
  refine lv_ishr hK.1.1 hK.1.2.1 dL_acts_31 ?_
  refine lv_iconst (v := 3) hK.1.1 hK.1.2.1 dL_acts_32 (by decide) ?_
  refine gk_callS0 (n := 2) (As := [.int (xx >>> (7 &&& 31)), .int 3]) (rest := []) hK (c_L_low l (x := (xx >>> (7 &&& 31))) (n := 3) (by decide) (by decide)) (gk_gS q_12_9 q_12_10 q_10_12 q_12_11) ⟨by decide +kernel, by decide +kernel, by decide +kernel⟩ ⟨(Nat.le_of_ble_eq_true rfl), (Nat.le_of_ble_eq_true rfl)⟩ hP hS rfl hl.1 rfl (Nat.le_of_ble_eq_true rfl) dL_acts_33 ⟨(Nat.le_of_ble_eq_true rfl), (Nat.le_of_ble_eq_true rfl)⟩ (fun v G1 H locs hw hP hS => ?_)
  obtain ⟨⟨j_4, hj_4, rfl⟩, hG9⟩ := hw
  rw [hG9] at hP
  refine W.eq (g2 := F0 m 36 ls [.int (nI j_4)]) rfl ?_
  refine lv_istore (lv' := [(10, .int (nI j_4)), (9, .int (nI j_3)), (8, .int (nI j_2)), (7, .int (nI j_1)), (0, .ref (ly_a y 0)), (1, .ref (ly_a (ly_sw y) 0)), (2, .ref ar), (3, .ref af), (4, .ref ac), (5, .int xx), (6, .int yy)]) hK.1.1 hK.1.2.1 dL_acts_36 hl (by decide) rfl (fun ls hl => ?_)
  refine lv_iload hK.1.1 hK.1.2.1 dL_acts_38 (lv_at hl 3 rfl) ?_
  refine lv_iconst (v := 3) hK.1.1 hK.1.2.1 dL_acts_40 (by decide) ?_
  refine lv_icmp_ge (tgt := 319) hK.1.1 hK.1.2.1 dL_acts_41 (by decide) (fun c41_5 => ?_) (fun c41_5 => ?_)
  · refine lv_iload hK.1.1 hK.1.2.1 dL_acts_319 (lv_at hl 3 rfl) ?_
    refine lv_iconst (v := 5) hK.1.1 hK.1.2.1 dL_acts_321 (by decide) ?_
    refine lv_icmp_ge (tgt := 631) hK.1.1 hK.1.2.1 dL_acts_322 (by decide) (fun c322_6 => ?_) (fun c322_6 => ?_)
    · refine lv_iload hK.1.1 hK.1.2.1 dL_acts_631 (lv_at hl 3 rfl) ?_
      refine lv_iconst (v := 5) hK.1.1 hK.1.2.1 dL_acts_633 (by decide) ?_
      refine lv_icmp_ne (tgt := 707) hK.1.1 hK.1.2.1 dL_acts_634 (by decide) (fun c634_7 => ?_) (fun c634_7 => ?_)
      · refine lv_iload hK.1.1 hK.1.2.1 dL_acts_707 (lv_at hl 3 rfl) ?_
        refine lv_bipush (v := 9) hK.1.1 hK.1.2.1 dL_acts_709 (by decide) ?_
        refine lv_icmp_ge (tgt := 778) hK.1.1 hK.1.2.1 dL_acts_711 (by decide) (fun c711_8 => ?_) (fun c711_8 => ?_)
        · refine lv_iload hK.1.1 hK.1.2.1 dL_acts_778 (lv_at hl 3 rfl) ?_
          refine lv_bipush (v := 9) hK.1.1 hK.1.2.1 dL_acts_780 (by decide) ?_
          refine lv_icmp_ne (tgt := 978) hK.1.1 hK.1.2.1 dL_acts_782 (by decide) (fun c782_9 => ?_) (fun c782_9 => ?_)
          · refine lv_iload hK.1.1 hK.1.2.1 dL_acts_978 (lv_at hl 3 rfl) ?_
            refine lv_bipush (v := 15) hK.1.1 hK.1.2.1 dL_acts_980 (by decide) ?_
            refine lv_icmp_ge (tgt := 1159) hK.1.1 hK.1.2.1 dL_acts_982 (by decide) (fun c982_10 => ?_) (fun c982_10 => ?_)
            · refine lv_iload hK.1.1 hK.1.2.1 dL_acts_1159 (lv_at hl 3 rfl) ?_
              refine lv_bipush (v := 18) hK.1.1 hK.1.2.1 dL_acts_1161 (by decide) ?_
              refine lv_icmp_ge (tgt := 1288) hK.1.1 hK.1.2.1 dL_acts_1163 (by decide) (fun c1163_11 => ?_) (fun c1163_11 => ?_)
              · refine lv_iload hK.1.1 hK.1.2.1 dL_acts_1288 (lv_at hl 3 rfl) ?_
                refine lv_bipush (v := 21) hK.1.1 hK.1.2.1 dL_acts_1290 (by decide) ?_
                refine lv_icmp_ge (tgt := 1305) hK.1.1 hK.1.2.1 dL_acts_1292 (by decide) (fun c1292_12 => ?_) (fun c1292_12 => ?_)
                · refine lv_iload hK.1.1 hK.1.2.1 dL_acts_1305 (lv_at hl 3 rfl) ?_
                  refine lv_bipush (v := 21) hK.1.1 hK.1.2.1 dL_acts_1307 (by decide) ?_
                  refine lv_icmp_ne (tgt := 1392) hK.1.1 hK.1.2.1 dL_acts_1309 (by decide) (fun c1309_13 => ?_) (fun c1309_13 => ?_)
                  · exact aw_turn hfl hW hI hI2 hrn hlr hlf hcc hN (kd := j_1) (f := j_2) (h := j_3) (r := j_4) hj_2 hj_3 hj_4 hK hret hlk hP hS (lv_sub hl [4, 5, 6, 7, 8, 9, 10, 3, 2, 1, 0] rfl)
                  · refine lv_iload hK.1.1 hK.1.2.1 dL_acts_1312 (lv_at hl 10 rfl) ?_
                    refine lv_iconst (v := 3) hK.1.1 hK.1.2.1 dL_acts_1314 (by decide) ?_
                    refine lv_ishr hK.1.1 hK.1.2.1 dL_acts_1315 ?_
                    refine lv_iconst (v := 2) hK.1.1 hK.1.2.1 dL_acts_1316 (by decide) ?_
                    refine gk_callS0 (n := 2) (As := [.int (yy >>> (3 &&& 31)), .int 2]) (rest := []) hK (c_L_low l (x := (yy >>> (3 &&& 31))) (n := 2) (by decide) (by decide)) (gk_gS q_12_9 q_12_10 q_10_12 q_12_11) ⟨by decide +kernel, by decide +kernel, by decide +kernel⟩ ⟨(Nat.le_of_ble_eq_true rfl), (Nat.le_of_ble_eq_true rfl)⟩ hP hS rfl hl.1 rfl (Nat.le_of_ble_eq_true rfl) dL_acts_1317 ⟨(Nat.le_of_ble_eq_true rfl), (Nat.le_of_ble_eq_true rfl)⟩ (fun v G1 H locs hw hP hS => ?_)
                    obtain ⟨⟨j_14, hj_14, rfl⟩, hG9⟩ := hw
                    rw [hG9] at hP
                    refine W.eq (g2 := F0 m 1320 ls [.int (nI j_14)]) rfl ?_
                    refine lv_if_ne (tgt := 1392) hK.1.1 hK.1.2.1 dL_acts_1320 (by decide) (fun c1320_15 => ?_) (fun c1320_15 => ?_)
                    · exact aw_turn hfl hW hI hI2 hrn hlr hlf hcc hN (kd := j_1) (f := j_2) (h := j_3) (r := j_4) hj_2 hj_3 hj_4 hK hret hlk hP hS (lv_sub hl [4, 5, 6, 7, 8, 9, 10, 3, 2, 1, 0] rfl)
                    · exact aw_lose hfl hW hI hI2 hrn hlr hlf hcc hN (kd := j_1) (f := j_2) (h := j_3) (r := j_4) hj_2 hj_3 hj_4 hK hret hlk hP hS (lv_sub hl [4, 5, 6, 7, 8, 9, 10, 3, 2, 1, 0] rfl)
                · exact aw_runs hfl hW hI hI2 hrn hlr hlf hcc hN (kd := j_1) (f := j_2) (h := j_3) (r := j_4) hj_2 hj_3 hj_4 hK hret hlk hP hS (lv_sub hl [4, 5, 6, 7, 8, 9, 10, 3, 2, 1, 0] rfl)
              · exact aw_advance hfl hW hI hI2 hrn hlr hlf hcc hN (kd := j_1) (f := j_2) (h := j_3) (r := j_4) hj_2 hj_3 hj_4 hK hret hlk hP hS (lv_sub hl [4, 5, 6, 7, 8, 9, 10, 3, 2, 1, 0] rfl)
            · exact aw_write hfl hW hI hI2 hrn hlr hlf hcc hN (kd := j_1) (f := j_2) (h := j_3) (r := j_4) hj_2 hj_3 hj_4 hK hret hlk hP hS (lv_sub hl [4, 5, 6, 7, 8, 9, 10, 3, 2, 1, 0] rfl)
          · exact aw_shut hfl hW hI hI2 hrn hlr hlf hcc hN (kd := j_1) (f := j_2) (h := j_3) (r := j_4) hj_2 hj_3 hj_4 hK hret hlk hP hS (lv_sub hl [4, 5, 6, 7, 8, 9, 10, 3, 2, 1, 0] rfl)
        · exact aw_open hfl hW hI hI2 hrn hlr hlf hcc hN (kd := j_1) (f := j_2) (h := j_3) (r := j_4) hj_2 hj_3 hj_4 hK hret hlk hP hS (lv_sub hl [4, 5, 6, 7, 8, 9, 10, 3, 2, 1, 0] rfl)
      · exact aw_give hfl hW hI hI2 hrn hlr hlf hcc hN (kd := j_1) (f := j_2) (h := j_3) (r := j_4) hj_2 hj_3 hj_4 hK hret hlk hP hS (lv_sub hl [4, 5, 6, 7, 8, 9, 10, 3, 2, 1, 0] rfl)
    · exact aw_setOld hfl hW hI hI2 hrn hlr hlf hcc hN (kd := j_1) (f := j_2) (h := j_3) (r := j_4) hj_2 hj_3 hj_4 hK hret hlk hP hS (lv_sub hl [4, 5, 6, 7, 8, 9, 10, 3, 2, 1, 0] rfl)
  · exact aw_setDue hfl hW hI hI2 hrn hlr hlf hcc hN (kd := j_1) (f := j_2) (h := j_3) (r := j_4) hj_2 hj_3 hj_4 hK hret hlk hP hS (lv_sub hl [4, 5, 6, 7, 8, 9, 10, 3, 2, 1, 0] rfl)
