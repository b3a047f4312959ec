/-! the law: whether no line of a file is lost, and all the rest of a file -/
theorem pk_sneg2 {e : Nat} (he : e < 2 ^ 30) : nI (e + 0) - 1 < nI e := by
  rw [Int32.lt_iff_toInt_lt, show (1 : Int32) = nI 1 from rfl, pk_sub_toInt (by omega) (by decide), nI_toInt (by omega)]
  omega
set_option maxHeartbeats 4000000 in
set_option maxRecDepth 100000 in
theorem c_L_file (l : Launch) {y : ly_T} {A : Nat → Prop} {G : gk_G} {ed N : Nat} {td : Int32} {ru : Nat → Nat → Int32} {fr : Nat → Nat} {hf hp : Nat → Option Nat} {S : ts_T} {tt : Nat → Int32} {fi : Nat → Nat} (hfl : l.stackTraces = false) (hR : rq y G td ru fr hf S hp) (hI : iv ed N td ru fr hf S hp tt fi) (hN : N ≤ 111) {ar af : Nat} {rr ff : Nat → Int32} (hra : G ar = some (rp_i (ly_k y 0) 27 rr)) (hfa : G af = some (rp_i (ly_k y 0) 20 ff)) (hlr : lr rr ru) (hlf : lf ff fr S tt) {ac : Nat} {cc : Nat → Int32} (hca : G ac = some (rp_i (ly_k y 0) 1 cc)) (hcc : cc 0 = td) {f : Nat} (f5 : f < 5) : gk_M0 l yL_file (Cond.code yL_file cL_file 11 (some .boolean)) 9 220 48 384 y A [.ref (ly_a y 0), .ref ar, .ref af, .ref ac, .int (nI f)] G (fun v G1 => v = some (.int 1) ∧ G1 = G) := by
  refine gk_of0 (cc := cL_file) (maxL := 11) (ret := (some .boolean)) (own := RL) (by decide +kernel) rfl rfl (Nat.le_of_ble_eq_true rfl) ?_
  intro p e s m below meth c ls hK hret hlk _ hP hS hl
  have hl : lv_has ls 11 [(0, .ref (ly_a y 0)), (1, .ref ar), (2, .ref af), (3, .ref ac), (4, .int (nI f))] := hl
  obtain ⟨hf3, ⟨a, hae, ha⟩, het⟩ := hI.2.2.1 f f5
  have he9 := hI.1.2
  have hle := iv_len hI hN f f5
  obtain ⟨-, -, -, g7, g8, g9⟩ := hI.2.1 (fr f) hf3
  obtain ⟨n9, hn9, hne⟩ := iv_ct hI (iv_Ll hI f f5)
  have hnn : ¬ S.2.2.2.2.2.2 0 (S.1 f) < 0 := by rw [hne]; exact nI_pos (by omega)
  refine lv_bipush (v := 9) hK.1.1 hK.1.2.1 dL_file_0 (by decide) ?_
  refine lv_aload_n hK.1.1 hK.1.2.1 dL_file_2 rfl (lv_at hl 2 rfl) ?_
  refine lv_iconst (v := 4) hK.1.1 hK.1.2.1 dL_file_3 (by decide) ?_
  refine lv_iload hK.1.1 hK.1.2.1 dL_file_4 (lv_at hl 4 rfl) ?_
  refine lv_imul hK.1.1 hK.1.2.1 dL_file_6 ?_
  refine W.eq (g2 := F0 m 7 ls [.int (nI (4 * f)), .ref af, .int 9]) (by rw [show 4 * (nI f) = nI (4 * f) from pk_mul _ _]) ?_
  refine gk_iald hK.1 hK.2.2.1.1 hP 0 hfa rfl (i := nI (4 * f)) (vp_in_nI (n := 4 * f) (N := 20) (by omega) (by decide)) dL_file_7 ?_
  refine W.eq (g2 := F0 m 8 ls [.int (nI (fr f)), .int 9]) (by rw [show ff (nI (4 * f)).toNatClampNeg = nI (fr f) from by rw [show (nI (4 * f) : Int32).toNatClampNeg = 4 * f from nI_clamp (n := 4 * f) (by omega)]; exact (hlf f f5).1]) ?_
  refine lv_imul hK.1.1 hK.1.2.1 dL_file_8 ?_
  refine W.eq (g2 := F0 m 9 ls [.int (nI (9 * (fr f)))]) (by rw [show 9 * (nI (fr f)) = nI (9 * (fr f)) from pk_mul _ _]) ?_
  refine lv_istore (lv' := [(5, .int (nI (9 * (fr f)))), (0, .ref (ly_a y 0)), (1, .ref ar), (2, .ref af), (3, .ref ac), (4, .int (nI f))]) hK.1.1 hK.1.2.1 dL_file_9 hl (by decide) rfl (fun ls hl => ?_)
  refine lv_aload_n hK.1.1 hK.1.2.1 dL_file_11 rfl (lv_at hl 1 rfl) ?_
  refine lv_iload hK.1.1 hK.1.2.1 dL_file_12 (lv_at hl 5 rfl) ?_
  refine gk_callSW (n := 2) (As := [.ref (ly_a y 0), .int (nI f)]) (rest := []) hK (c0_L_olds l hfl hR (f := f) f5) (gk_gS q_16_10 q_16_11 q_10_12 q_16_12) ⟨by decide +kernel, by decide +kernel, by decide +kernel⟩ ⟨(Nat.le_of_ble_eq_true rfl), (Nat.le_of_ble_eq_true rfl)⟩ hP hS rfl hl.1 rfl (Nat.le_of_ble_eq_true rfl) dL_file_14 ⟨(Nat.le_of_ble_eq_true rfl), (Nat.le_of_ble_eq_true rfl)⟩ (fun v G1 H locs hw hP hS => ?_)
  obtain ⟨rfl, hG9⟩ := hw
  rw [hG9] at hP
  refine W.eq (g2 := F0 m 17 ls [.int (nI (S.2.2.2.2.1 f).length)]) rfl ?_
  refine lv_istore (lv' := [(6, .int (nI (S.2.2.2.2.1 f).length)), (5, .int (nI (9 * (fr f)))), (0, .ref (ly_a y 0)), (1, .ref ar), (2, .ref af), (3, .ref ac), (4, .int (nI f))]) hK.1.1 hK.1.2.1 dL_file_17 hl (by decide) rfl (fun ls hl => ?_)
  refine lv_aload_n hK.1.1 hK.1.2.1 dL_file_19 rfl (lv_at hl 2 rfl) ?_
  refine lv_iload hK.1.1 hK.1.2.1 dL_file_20 (lv_at hl 6 rfl) ?_
  refine gk_callSW (n := 2) (As := [.ref (ly_a y 0), .int (nI f)]) (rest := []) hK (c0_L_live l hfl hR (f := f) f5 (iv_Ll hI)) (gk_gS q_15_4 q_15_5 q_10_12 q_15_6) ⟨by decide +kernel, by decide +kernel, by decide +kernel⟩ ⟨(Nat.le_of_ble_eq_true rfl), (Nat.le_of_ble_eq_true rfl)⟩ hP hS rfl hl.1 rfl (Nat.le_of_ble_eq_true rfl) dL_file_22 ⟨(Nat.le_of_ble_eq_true rfl), (Nat.le_of_ble_eq_true rfl)⟩ (fun v G1 H locs hw hP hS => ?_)
  obtain ⟨rfl, hG9⟩ := hw
  rw [hG9] at hP
  refine W.eq (g2 := F0 m 25 ls [.int (S.2.2.2.2.2.2 0 (S.1 f))]) rfl ?_
  refine lv_aload_n hK.1.1 hK.1.2.1 dL_file_25 rfl (lv_at hl 2 rfl) ?_
  refine lv_iload hK.1.1 hK.1.2.1 dL_file_26 (lv_at hl 6 rfl) ?_
  refine gk_callSW (n := 2) (As := [.ref (ly_a y 0), .int (nI f)]) (rest := [.int (S.2.2.2.2.2.2 0 (S.1 f))]) hK (c0_L_thrown l hfl hR (f := f) f5) (gk_gS q_17_20 q_17_21 q_10_12 q_17_22) ⟨by decide +kernel, by decide +kernel, by decide +kernel⟩ ⟨(Nat.le_of_ble_eq_true rfl), (Nat.le_of_ble_eq_true rfl)⟩ hP hS rfl hl.1 rfl (Nat.le_of_ble_eq_true rfl) dL_file_28 ⟨(Nat.le_of_ble_eq_true rfl), (Nat.le_of_ble_eq_true rfl)⟩ (fun v G1 H locs hw hP hS => ?_)
  obtain ⟨rfl, hG9⟩ := hw
  rw [hG9] at hP
  refine W.eq (g2 := F0 m 31 ls [.int (S.2.2.2.1 f), .int (S.2.2.2.2.2.2 0 (S.1 f))]) rfl ?_
  refine lv_iadd hK.1.1 hK.1.2.1 dL_file_31 ?_
  refine lv_istore (lv' := [(7, .int ((S.2.2.2.2.2.2 0 (S.1 f)) + (S.2.2.2.1 f))), (6, .int (nI (S.2.2.2.2.1 f).length)), (5, .int (nI (9 * (fr f)))), (0, .ref (ly_a y 0)), (1, .ref ar), (2, .ref af), (3, .ref ac), (4, .int (nI f))]) hK.1.1 hK.1.2.1 dL_file_32 hl (by decide) rfl (fun ls hl => ?_)
  refine lv_iconst (v := (-1)) hK.1.1 hK.1.2.1 dL_file_34 (by decide) ?_
  refine lv_istore (lv' := [(8, .int (-1)), (7, .int ((S.2.2.2.2.2.2 0 (S.1 f)) + (S.2.2.2.1 f))), (6, .int (nI (S.2.2.2.2.1 f).length)), (5, .int (nI (9 * (fr f)))), (0, .ref (ly_a y 0)), (1, .ref ar), (2, .ref af), (3, .ref ac), (4, .int (nI f))]) hK.1.1 hK.1.2.1 dL_file_35 hl (by decide) rfl (fun ls hl => ?_)
  refine lv_iconst (v := 0) hK.1.1 hK.1.2.1 dL_file_37 (by decide) ?_
  refine lv_istore (lv' := [(9, .int 0), (8, .int (-1)), (7, .int ((S.2.2.2.2.2.2 0 (S.1 f)) + (S.2.2.2.1 f))), (6, .int (nI (S.2.2.2.2.1 f).length)), (5, .int (nI (9 * (fr f)))), (0, .ref (ly_a y 0)), (1, .ref ar), (2, .ref af), (3, .ref ac), (4, .int (nI f))]) hK.1.1 hK.1.2.1 dL_file_38 hl (by decide) rfl (fun ls hl => ?_)
  have loop : ∀ (dd n : Nat) (b : Int32) (ls : Array Slot) (H : Heap) (locs : List Loc), (S.2.2.2.2.1 f).length - n = dd → n ≤ (S.2.2.2.2.1 f).length → bfv ru fr S f n b → gk_P (ly_D y) A G H → va_S A s.heap H locs → lv_has ls 11 [(9, .int (nI n)), (8, .int b), (7, .int (t_sum S.2.2.2.2.2.2 (S.2.2.2.2.2.2 0 (S.1 f) + S.2.2.2.1 f) ((S.2.2.2.2.1 f).take n))), (0, .ref (ly_a y 0)), (1, .ref ar), (2, .ref af), (3, .ref ac), (4, .int (nI f)), (5, .int (nI (9 * fr f))), (6, .int (nI (S.2.2.2.2.1 f).length))] → W p l e { frames := 9, cells := 48, slots := 384, locals := 220 } s m [.ref (ly_a y 0), .ref ar, .ref af, .ref ac, .int (nI f)].toArray below meth c H locs 0 0 (MQ below (gk_Q y A (fun v G1 => v = some (.int 1) ∧ G1 = G)) [.ref (ly_a y 0), .ref ar, .ref af, .ref ac, .int (nI f)].toArray s 48 384 A) (F0 m 40 ls []) := by
    intro dd
    induction dd using Nat.strongRecOn with
    | _ dd ih =>
    intro n b ls H locs hdd hn hb hP hS hl
    refine lv_iload hK.1.1 hK.1.2.1 dL_file_40 (lv_at hl 0 rfl) ?_
    refine lv_iload hK.1.1 hK.1.2.1 dL_file_42 (lv_at hl 9 rfl) ?_
    refine lv_icmp_ge (tgt := 177) hK.1.1 hK.1.2.1 dL_file_44 (by decide) (fun c44_1 => ?_) (fun c44_1 => ?_)
    · have hnl : n = (S.2.2.2.2.1 f).length := Nat.le_antisymm hn ((nI_leI (by omega) (by omega)).mp c44_1)
      refine lv_iconst (v := (-1)) hK.1.1 hK.1.2.1 dL_file_177 (by decide) ?_
      refine lv_istore (lv' := [(9, .int (-1)), (8, .int b), (7, .int (t_sum S.2.2.2.2.2.2 (S.2.2.2.2.2.2 0 (S.1 f) + S.2.2.2.1 f) ((S.2.2.2.2.1 f).take n))), (0, .ref (ly_a y 0)), (1, .ref ar), (2, .ref af), (3, .ref ac), (4, .int (nI f)), (5, .int (nI (9 * fr f))), (6, .int (nI (S.2.2.2.2.1 f).length))]) hK.1.1 hK.1.2.1 dL_file_178 hl (by decide) rfl (fun ls hl => ?_)
      refine lv_aload_n hK.1.1 hK.1.2.1 dL_file_180 rfl (lv_at hl 6 rfl) ?_
      refine lv_iconst (v := 0) hK.1.1 hK.1.2.1 dL_file_181 (by decide) ?_
      refine gk_iald hK.1 hK.2.2.1.1 hP 0 hca rfl (i := 0) (vp_in_nI (n := 0) (N := 1) (by omega) (by decide)) dL_file_182 ?_
      refine W.eq (g2 := F0 m 183 ls [.int (nI ed)]) (by rw [show cc (0 : Int32).toNatClampNeg = nI ed from by rw [show (0 : Int32).toNatClampNeg = 0 from nI_clamp (n := 0) (by omega)]; exact (hcc.trans hI.1.1)]) ?_
      refine lv_sipush (v := 200) hK.1.1 hK.1.2.1 dL_file_183 (by decide) ?_
      refine lv_iadd hK.1.1 hK.1.2.1 dL_file_186 ?_
      refine W.eq (g2 := F0 m 187 ls [.int (nI (ed + 200))]) (by rw [show (nI ed) + 200 = nI (ed + 200) from nI_add _ _]) ?_
      refine lv_istore (lv' := [(10, .int (nI (ed + 200))), (9, .int (-1)), (8, .int b), (7, .int (t_sum S.2.2.2.2.2.2 (S.2.2.2.2.2.2 0 (S.1 f) + S.2.2.2.1 f) ((S.2.2.2.2.1 f).take n))), (0, .ref (ly_a y 0)), (1, .ref ar), (2, .ref af), (3, .ref ac), (4, .int (nI f)), (5, .int (nI (9 * fr f))), (6, .int (nI (S.2.2.2.2.1 f).length))]) hK.1.1 hK.1.2.1 dL_file_187 hl (by decide) rfl (fun ls hl => ?_)
      have loop2 : ∀ (j : Nat) (nx dv : Int32) (ls : Array Slot) (H : Heap) (locs : List Loc), j ≤ 201 → dv = nI (ed + j) - 1 → nxt (fun b => t_dueS (nI (ed + b)) ru fr S f) ed j nx → gk_P (ly_D y) A G H → va_S A s.heap H locs → lv_has ls 11 [(10, .int dv), (9, .int nx), (0, .ref (ly_a y 0)), (1, .ref ar), (2, .ref af), (3, .ref ac), (4, .int (nI f)), (5, .int (nI (9 * fr f))), (6, .int (nI (S.2.2.2.2.1 f).length)), (7, .int (t_sum S.2.2.2.2.2.2 (S.2.2.2.2.2.2 0 (S.1 f) + S.2.2.2.1 f) ((S.2.2.2.2.1 f).take n)))] → W p l e { frames := 9, cells := 48, slots := 384, locals := 220 } s m [.ref (ly_a y 0), .ref ar, .ref af, .ref ac, .int (nI f)].toArray below meth c H locs 0 0 (MQ below (gk_Q y A (fun v G1 => v = some (.int 1) ∧ G1 = G)) [.ref (ly_a y 0), .ref ar, .ref af, .ref ac, .int (nI f)].toArray s 48 384 A) (F0 m 189 ls []) := by
        intro j
        induction j with
        | zero =>
          intro nx dv ls H locs hj hdv hnx hP hS hl
          subst hdv
          refine lv_iload hK.1.1 hK.1.2.1 dL_file_189 (lv_at hl 0 rfl) ?_
          refine lv_aload_n hK.1.1 hK.1.2.1 dL_file_191 rfl (lv_at hl 5 rfl) ?_
          refine lv_iconst (v := 0) hK.1.1 hK.1.2.1 dL_file_192 (by decide) ?_
          refine gk_iald hK.1 hK.2.2.1.1 hP 0 hca rfl (i := 0) (vp_in_nI (n := 0) (N := 1) (by omega) (by decide)) dL_file_193 ?_
          refine W.eq (g2 := F0 m 194 ls [.int (nI ed), .int (nI (ed + 0) - 1)]) (by rw [show cc (0 : Int32).toNatClampNeg = nI ed from by rw [show (0 : Int32).toNatClampNeg = 0 from nI_clamp (n := 0) (by omega)]; exact (hcc.trans hI.1.1)]) ?_
          refine lv_icmp_lt (tgt := 225) hK.1.1 hK.1.2.1 dL_file_194 (by decide) (fun _ => ?_) (fun c => absurd (pk_sneg2 (by omega)) c)
          refine lv_iload hK.1.1 hK.1.2.1 dL_file_225 (lv_at hl 9 rfl) ?_
          refine lv_aload_n hK.1.1 hK.1.2.1 dL_file_227 rfl (lv_at hl 4 rfl) ?_
          refine lv_iconst (v := 4) hK.1.1 hK.1.2.1 dL_file_228 (by decide) ?_
          refine lv_iload hK.1.1 hK.1.2.1 dL_file_229 (lv_at hl 6 rfl) ?_
          refine lv_imul hK.1.1 hK.1.2.1 dL_file_231 ?_
          refine W.eq (g2 := F0 m 232 ls [.int (nI (4 * f)), .ref af, .int (t_sum S.2.2.2.2.2.2 (S.2.2.2.2.2.2 0 (S.1 f) + S.2.2.2.1 f) ((S.2.2.2.2.1 f).take n))]) (by rw [show 4 * (nI f) = nI (4 * f) from pk_mul _ _]) ?_
          refine lv_iconst (v := 3) hK.1.1 hK.1.2.1 dL_file_232 (by decide) ?_
          refine lv_iadd hK.1.1 hK.1.2.1 dL_file_233 ?_
          refine W.eq (g2 := F0 m 234 ls [.int (nI ((4 * f) + 3)), .ref af, .int (t_sum S.2.2.2.2.2.2 (S.2.2.2.2.2.2 0 (S.1 f) + S.2.2.2.1 f) ((S.2.2.2.2.1 f).take n))]) (by rw [show (nI (4 * f)) + 3 = nI ((4 * f) + 3) from nI_add _ _]) ?_
          refine gk_iald hK.1 hK.2.2.1.1 hP 0 hfa rfl (i := nI ((4 * f) + 3)) (vp_in_nI (n := (4 * f) + 3) (N := 20) (by omega) (by decide)) dL_file_234 ?_
          refine W.eq (g2 := F0 m 235 ls [.int (tt f), .int (t_sum S.2.2.2.2.2.2 (S.2.2.2.2.2.2 0 (S.1 f) + S.2.2.2.1 f) ((S.2.2.2.2.1 f).take n))]) (by rw [show ff (nI ((4 * f) + 3)).toNatClampNeg = tt f from by rw [show (nI ((4 * f) + 3) : Int32).toNatClampNeg = (4 * f) + 3 from nI_clamp (n := (4 * f) + 3) (by omega)]; exact (hlf f f5).2.2.2]) ?_
          refine lv_icmp_ne (tgt := 328) hK.1.1 hK.1.2.1 dL_file_235 (by decide) (fun c => absurd (by rw [hnl, List.take_length]; exact hI.2.2.2.2.2.2.1 f f5) c) (fun _ => ?_)
          refine lv_aload_n hK.1.1 hK.1.2.1 dL_file_238 rfl (lv_at hl 2 rfl) ?_
          refine lv_iload hK.1.1 hK.1.2.1 dL_file_239 (lv_at hl 6 rfl) ?_
          refine gk_callSW (n := 2) (As := [.ref (ly_a y 0), .int (nI f)]) (rest := []) hK (c0_L_live l hfl hR (f := f) f5 (iv_Ll hI)) (gk_gS q_15_4 q_15_5 q_10_12 q_15_6) ⟨by decide +kernel, by decide +kernel, by decide +kernel⟩ ⟨(Nat.le_of_ble_eq_true rfl), (Nat.le_of_ble_eq_true rfl)⟩ hP hS rfl hl.1 rfl (Nat.le_of_ble_eq_true rfl) dL_file_241 ⟨(Nat.le_of_ble_eq_true rfl), (Nat.le_of_ble_eq_true rfl)⟩ (fun v G1 H locs hw hP hS => ?_)
          obtain ⟨rfl, hG9⟩ := hw
          rw [hG9] at hP
          refine W.eq (g2 := F0 m 244 ls [.int (S.2.2.2.2.2.2 0 (S.1 f))]) rfl ?_
          refine lv_if_lt (tgt := 328) hK.1.1 hK.1.2.1 dL_file_244 (by decide) (fun c => absurd c hnn) (fun _ => ?_)
          refine lv_aload_n hK.1.1 hK.1.2.1 dL_file_247 rfl (lv_at hl 2 rfl) ?_
          refine lv_iload hK.1.1 hK.1.2.1 dL_file_248 (lv_at hl 6 rfl) ?_
          refine gk_callSW (n := 2) (As := [.ref (ly_a y 0), .int (nI f)]) (rest := []) hK (c0_L_isDue l hfl hR (f := f) f5 (iv_Ll hI)) (gk_gS q_17_3 q_17_4 q_10_12 q_17_5) ⟨by decide +kernel, by decide +kernel, by decide +kernel⟩ ⟨(Nat.le_of_ble_eq_true rfl), (Nat.le_of_ble_eq_true rfl)⟩ hP hS rfl hl.1 rfl (Nat.le_of_ble_eq_true rfl) dL_file_250 ⟨(Nat.le_of_ble_eq_true rfl), (Nat.le_of_ble_eq_true rfl)⟩ (fun v G1 H locs hw hP hS => ?_)
          obtain ⟨rfl, hG9⟩ := hw
          rw [hG9] at hP
          refine W.eq (g2 := F0 m 253 ls [.int (rg_b (t_dueS td ru fr S f))]) rfl ?_
          refine lv_aload_n hK.1.1 hK.1.2.1 dL_file_253 rfl (lv_at hl 2 rfl) ?_
          refine lv_aload_n hK.1.1 hK.1.2.1 dL_file_254 rfl (lv_at hl 3 rfl) ?_
          refine lv_aload_n hK.1.1 hK.1.2.1 dL_file_255 rfl (lv_at hl 4 rfl) ?_
          refine lv_iload hK.1.1 hK.1.2.1 dL_file_256 (lv_at hl 6 rfl) ?_
          refine lv_aload_n hK.1.1 hK.1.2.1 dL_file_258 rfl (lv_at hl 5 rfl) ?_
          refine lv_iconst (v := 0) hK.1.1 hK.1.2.1 dL_file_259 (by decide) ?_
          refine gk_iald hK.1 hK.2.2.1.1 hP 0 hca rfl (i := 0) (vp_in_nI (n := 0) (N := 1) (by omega) (by decide)) dL_file_260 ?_
          refine W.eq (g2 := F0 m 261 ls [.int (nI ed), .int (nI f), .ref af, .ref ar, .ref (ly_a y 0), .int (rg_b (t_dueS td ru fr S f))]) (by rw [show cc (0 : Int32).toNatClampNeg = nI ed from by rw [show (0 : Int32).toNatClampNeg = 0 from nI_clamp (n := 0) (by omega)]; exact (hcc.trans hI.1.1)]) ?_
          refine gk_callS0 (n := 5) (As := [.ref (ly_a y 0), .ref ar, .ref af, .int (nI f), .int (nI ed)]) (rest := [.int (rg_b (t_dueS td ru fr S f))]) hK (c_L_due l hfl hR hI hN hra hfa hlr hlf (f := f) (d := ed) f5 (by omega)) (gk_gS q_16_4 q_16_5 q_10_12 q_16_6) ⟨by decide +kernel, by decide +kernel, by decide +kernel⟩ ⟨(Nat.le_of_ble_eq_true rfl), (Nat.le_of_ble_eq_true rfl)⟩ hP hS rfl hl.1 rfl (Nat.le_of_ble_eq_true rfl) dL_file_261 ⟨(Nat.le_of_ble_eq_true rfl), (Nat.le_of_ble_eq_true rfl)⟩ (fun v G1 H locs hw hP hS => ?_)
          obtain ⟨rfl, hG9⟩ := hw
          rw [hG9] at hP
          refine W.eq (g2 := F0 m 264 ls [.int (rg_b (t_dueS (nI ed) ru fr S f)), .int (rg_b (t_dueS td ru fr S f))]) rfl ?_
          refine lv_if_eq (tgt := 271) hK.1.1 hK.1.2.1 dL_file_264 (by decide) (fun c264_2 => ?_) (fun c264_2 => ?_)
          · refine lv_iconst (v := 0) hK.1.1 hK.1.2.1 dL_file_271 (by decide) ?_
            refine lv_icmp_ne (tgt := 328) hK.1.1 hK.1.2.1 dL_file_272 (by decide) (fun c => absurd (by rw [hI.1.1]; exact c264_2) c) (fun _ => ?_)
            refine lv_aload_n hK.1.1 hK.1.2.1 dL_file_275 rfl (lv_at hl 2 rfl) ?_
            refine lv_iload hK.1.1 hK.1.2.1 dL_file_276 (lv_at hl 6 rfl) ?_
            refine gk_callSW (n := 2) (As := [.ref (ly_a y 0), .int (nI f)]) (rest := []) hK (c0_L_nextDue l hfl hR (f := f) f5 (iv_Ll hI)) (gk_gS q_18_16 q_18_17 q_10_12 q_18_18) ⟨by decide +kernel, by decide +kernel, by decide +kernel⟩ ⟨(Nat.le_of_ble_eq_true rfl), (Nat.le_of_ble_eq_true rfl)⟩ hP hS rfl hl.1 rfl (Nat.le_of_ble_eq_true rfl) dL_file_278 ⟨(Nat.le_of_ble_eq_true rfl), (Nat.le_of_ble_eq_true rfl)⟩ (fun v G1 H locs hw hP hS => ?_)
            obtain ⟨x9, hx9, rfl, hG9⟩ := hw
            rw [hG9] at hP
            refine W.eq (g2 := F0 m 281 ls [.int x9]) rfl ?_
            refine lv_iload hK.1.1 hK.1.2.1 dL_file_281 (lv_at hl 1 rfl) ?_
            refine lv_icmp_ne (tgt := 328) hK.1.1 hK.1.2.1 dL_file_283 (by decide) (fun c => absurd (nxt_eq (D := fun d => t_dueS d ru fr S f) hI.1.1 hx9 hnx) c) (fun _ => ?_)
            refine lv_aload_n hK.1.1 hK.1.2.1 dL_file_286 rfl (lv_at hl 2 rfl) ?_
            refine lv_iload hK.1.1 hK.1.2.1 dL_file_287 (lv_at hl 6 rfl) ?_
            refine lv_iload hK.1.1 hK.1.2.1 dL_file_289 (lv_at hl 8 rfl) ?_
            refine gk_callSW (n := 3) (As := [.ref (ly_a y 0), .int (nI f), .int (nI (S.2.2.2.2.1 f).length)]) (rest := []) hK (cb0_lines hfl hR (f := f) (j := nI (S.2.2.2.2.1 f).length) f5 (by omega) (Or.inr Int32.lt_irrefl) (iv_in5 hI)) (gk_gS q_15_11 q_15_12 q_10_12 q_15_13) ⟨by decide +kernel, by decide +kernel, by decide +kernel⟩ ⟨(Nat.le_of_ble_eq_true rfl), (Nat.le_of_ble_eq_true rfl)⟩ hP hS rfl hl.1 rfl (Nat.le_of_ble_eq_true rfl) dL_file_291 ⟨(Nat.le_of_ble_eq_true rfl), (Nat.le_of_ble_eq_true rfl)⟩ (fun v G1 H locs hw hP hS => ?_)
            obtain ⟨rfl, hG9⟩ := hw
            rw [hG9] at hP
            refine W.eq (g2 := F0 m 294 ls [.int (-1000001)]) rfl ?_
            refine lv_ldc (v := (-1000001)) hK.1.1 hK.1.2.1 hK.1.2.2.1 (hK.1.2.2.2 _ q_1_4) dL_file_294 ?_
            refine lv_icmp_ne (tgt := 328) hK.1.1 hK.1.2.1 dL_file_296 (by decide) (fun c => absurd rfl c) (fun _ => ?_)
            refine lv_aload_n hK.1.1 hK.1.2.1 dL_file_299 rfl (lv_at hl 2 rfl) ?_
            refine lv_iload hK.1.1 hK.1.2.1 dL_file_300 (lv_at hl 6 rfl) ?_
            refine lv_iconst (v := (-1)) hK.1.1 hK.1.2.1 dL_file_302 (by decide) ?_
            refine gk_callSW (n := 3) (As := [.ref (ly_a y 0), .int (nI f), .int (-1)]) (rest := []) hK (cb0_name hfl hR (f := f) (j := -1) f5 (by omega) (Or.inl (by decide)) (iv_in5 hI)) (gk_gS q_11_5 q_11_6 q_10_12 q_11_7) ⟨by decide +kernel, by decide +kernel, by decide +kernel⟩ ⟨(Nat.le_of_ble_eq_true rfl), (Nat.le_of_ble_eq_true rfl)⟩ hP hS rfl hl.1 rfl (Nat.le_of_ble_eq_true rfl) dL_file_303 ⟨(Nat.le_of_ble_eq_true rfl), (Nat.le_of_ble_eq_true rfl)⟩ (fun v G1 H locs hw hP hS => ?_)
            obtain ⟨rfl, hG9⟩ := hw
            rw [hG9] at hP
            refine W.eq (g2 := F0 m 306 ls [.int (-1000001)]) rfl ?_
            refine lv_ldc (v := (-1000001)) hK.1.1 hK.1.2.1 hK.1.2.2.1 (hK.1.2.2.2 _ q_1_4) dL_file_306 ?_
            refine lv_icmp_ne (tgt := 328) hK.1.1 hK.1.2.1 dL_file_308 (by decide) (fun c => absurd rfl c) (fun _ => ?_)
            refine lv_aload_n hK.1.1 hK.1.2.1 dL_file_311 rfl (lv_at hl 2 rfl) ?_
            refine lv_iload hK.1.1 hK.1.2.1 dL_file_312 (lv_at hl 6 rfl) ?_
            refine lv_iload hK.1.1 hK.1.2.1 dL_file_314 (lv_at hl 8 rfl) ?_
            refine gk_callSW (n := 3) (As := [.ref (ly_a y 0), .int (nI f), .int (nI (S.2.2.2.2.1 f).length)]) (rest := []) hK (cb0_isSqueezed hfl hR (f := f) (j := nI (S.2.2.2.2.1 f).length) f5 (by omega) (Or.inr Int32.lt_irrefl) (iv_in5 hI) (iv_sq hI)) (gk_gS q_16_17 q_16_18 q_10_12 q_16_19) ⟨by decide +kernel, by decide +kernel, by decide +kernel⟩ ⟨(Nat.le_of_ble_eq_true rfl), (Nat.le_of_ble_eq_true rfl)⟩ hP hS rfl hl.1 rfl (Nat.le_of_ble_eq_true rfl) dL_file_316 ⟨(Nat.le_of_ble_eq_true rfl), (Nat.le_of_ble_eq_true rfl)⟩ (fun v G1 H locs hw hP hS => ?_)
            obtain ⟨rfl, hG9⟩ := hw
            rw [hG9] at hP
            refine W.eq (g2 := F0 m 319 ls [.int (-1000001)]) rfl ?_
            refine lv_ldc (v := (-1000001)) hK.1.1 hK.1.2.1 hK.1.2.2.1 (hK.1.2.2.2 _ q_1_4) dL_file_319 ?_
            refine lv_icmp_ne (tgt := 328) hK.1.1 hK.1.2.1 dL_file_321 (by decide) (fun c => absurd rfl c) (fun _ => ?_)
            refine lv_iconst (v := 1) hK.1.1 hK.1.2.1 dL_file_324 (by decide) ?_
            refine lv_goto (tgt := 329) hK.1.1 hK.1.2.1 dL_file_325 (by decide) ?_
            exact gk_zret0 hK.1 hret (by first | decide | exact (rp_nz (by first | assumption | (simp; done))).1) hlk hP hS (Nat.le_of_ble_eq_true rfl) (Nat.le_of_ble_eq_true rfl) dL_file_329 ⟨rfl, rfl⟩
          · refine lv_iconst (v := 1) hK.1.1 hK.1.2.1 dL_file_267 (by decide) ?_
            refine lv_goto (tgt := 272) hK.1.1 hK.1.2.1 dL_file_268 (by decide) ?_
            refine lv_icmp_ne (tgt := 328) hK.1.1 hK.1.2.1 dL_file_272 (by decide) (fun c => absurd (by rw [hI.1.1]; exact rg_bt c264_2) c) (fun _ => ?_)
            refine lv_aload_n hK.1.1 hK.1.2.1 dL_file_275 rfl (lv_at hl 2 rfl) ?_
            refine lv_iload hK.1.1 hK.1.2.1 dL_file_276 (lv_at hl 6 rfl) ?_
            refine gk_callSW (n := 2) (As := [.ref (ly_a y 0), .int (nI f)]) (rest := []) hK (c0_L_nextDue l hfl hR (f := f) f5 (iv_Ll hI)) (gk_gS q_18_16 q_18_17 q_10_12 q_18_18) ⟨by decide +kernel, by decide +kernel, by decide +kernel⟩ ⟨(Nat.le_of_ble_eq_true rfl), (Nat.le_of_ble_eq_true rfl)⟩ hP hS rfl hl.1 rfl (Nat.le_of_ble_eq_true rfl) dL_file_278 ⟨(Nat.le_of_ble_eq_true rfl), (Nat.le_of_ble_eq_true rfl)⟩ (fun v G1 H locs hw hP hS => ?_)
            obtain ⟨x9, hx9, rfl, hG9⟩ := hw
            rw [hG9] at hP
            refine W.eq (g2 := F0 m 281 ls [.int x9]) rfl ?_
            refine lv_iload hK.1.1 hK.1.2.1 dL_file_281 (lv_at hl 1 rfl) ?_
            refine lv_icmp_ne (tgt := 328) hK.1.1 hK.1.2.1 dL_file_283 (by decide) (fun c => absurd (nxt_eq (D := fun d => t_dueS d ru fr S f) hI.1.1 hx9 hnx) c) (fun _ => ?_)
            refine lv_aload_n hK.1.1 hK.1.2.1 dL_file_286 rfl (lv_at hl 2 rfl) ?_
            refine lv_iload hK.1.1 hK.1.2.1 dL_file_287 (lv_at hl 6 rfl) ?_
            refine lv_iload hK.1.1 hK.1.2.1 dL_file_289 (lv_at hl 8 rfl) ?_
            refine gk_callSW (n := 3) (As := [.ref (ly_a y 0), .int (nI f), .int (nI (S.2.2.2.2.1 f).length)]) (rest := []) hK (cb0_lines hfl hR (f := f) (j := nI (S.2.2.2.2.1 f).length) f5 (by omega) (Or.inr Int32.lt_irrefl) (iv_in5 hI)) (gk_gS q_15_11 q_15_12 q_10_12 q_15_13) ⟨by decide +kernel, by decide +kernel, by decide +kernel⟩ ⟨(Nat.le_of_ble_eq_true rfl), (Nat.le_of_ble_eq_true rfl)⟩ hP hS rfl hl.1 rfl (Nat.le_of_ble_eq_true rfl) dL_file_291 ⟨(Nat.le_of_ble_eq_true rfl), (Nat.le_of_ble_eq_true rfl)⟩ (fun v G1 H locs hw hP hS => ?_)
            obtain ⟨rfl, hG9⟩ := hw
            rw [hG9] at hP
            refine W.eq (g2 := F0 m 294 ls [.int (-1000001)]) rfl ?_
            refine lv_ldc (v := (-1000001)) hK.1.1 hK.1.2.1 hK.1.2.2.1 (hK.1.2.2.2 _ q_1_4) dL_file_294 ?_
            refine lv_icmp_ne (tgt := 328) hK.1.1 hK.1.2.1 dL_file_296 (by decide) (fun c => absurd rfl c) (fun _ => ?_)
            refine lv_aload_n hK.1.1 hK.1.2.1 dL_file_299 rfl (lv_at hl 2 rfl) ?_
            refine lv_iload hK.1.1 hK.1.2.1 dL_file_300 (lv_at hl 6 rfl) ?_
            refine lv_iconst (v := (-1)) hK.1.1 hK.1.2.1 dL_file_302 (by decide) ?_
            refine gk_callSW (n := 3) (As := [.ref (ly_a y 0), .int (nI f), .int (-1)]) (rest := []) hK (cb0_name hfl hR (f := f) (j := -1) f5 (by omega) (Or.inl (by decide)) (iv_in5 hI)) (gk_gS q_11_5 q_11_6 q_10_12 q_11_7) ⟨by decide +kernel, by decide +kernel, by decide +kernel⟩ ⟨(Nat.le_of_ble_eq_true rfl), (Nat.le_of_ble_eq_true rfl)⟩ hP hS rfl hl.1 rfl (Nat.le_of_ble_eq_true rfl) dL_file_303 ⟨(Nat.le_of_ble_eq_true rfl), (Nat.le_of_ble_eq_true rfl)⟩ (fun v G1 H locs hw hP hS => ?_)
            obtain ⟨rfl, hG9⟩ := hw
            rw [hG9] at hP
            refine W.eq (g2 := F0 m 306 ls [.int (-1000001)]) rfl ?_
            refine lv_ldc (v := (-1000001)) hK.1.1 hK.1.2.1 hK.1.2.2.1 (hK.1.2.2.2 _ q_1_4) dL_file_306 ?_
            refine lv_icmp_ne (tgt := 328) hK.1.1 hK.1.2.1 dL_file_308 (by decide) (fun c => absurd rfl c) (fun _ => ?_)
            refine lv_aload_n hK.1.1 hK.1.2.1 dL_file_311 rfl (lv_at hl 2 rfl) ?_
            refine lv_iload hK.1.1 hK.1.2.1 dL_file_312 (lv_at hl 6 rfl) ?_
            refine lv_iload hK.1.1 hK.1.2.1 dL_file_314 (lv_at hl 8 rfl) ?_
            refine gk_callSW (n := 3) (As := [.ref (ly_a y 0), .int (nI f), .int (nI (S.2.2.2.2.1 f).length)]) (rest := []) hK (cb0_isSqueezed hfl hR (f := f) (j := nI (S.2.2.2.2.1 f).length) f5 (by omega) (Or.inr Int32.lt_irrefl) (iv_in5 hI) (iv_sq hI)) (gk_gS q_16_17 q_16_18 q_10_12 q_16_19) ⟨by decide +kernel, by decide +kernel, by decide +kernel⟩ ⟨(Nat.le_of_ble_eq_true rfl), (Nat.le_of_ble_eq_true rfl)⟩ hP hS rfl hl.1 rfl (Nat.le_of_ble_eq_true rfl) dL_file_316 ⟨(Nat.le_of_ble_eq_true rfl), (Nat.le_of_ble_eq_true rfl)⟩ (fun v G1 H locs hw hP hS => ?_)
            obtain ⟨rfl, hG9⟩ := hw
            rw [hG9] at hP
            refine W.eq (g2 := F0 m 319 ls [.int (-1000001)]) rfl ?_
            refine lv_ldc (v := (-1000001)) hK.1.1 hK.1.2.1 hK.1.2.2.1 (hK.1.2.2.2 _ q_1_4) dL_file_319 ?_
            refine lv_icmp_ne (tgt := 328) hK.1.1 hK.1.2.1 dL_file_321 (by decide) (fun c => absurd rfl c) (fun _ => ?_)
            refine lv_iconst (v := 1) hK.1.1 hK.1.2.1 dL_file_324 (by decide) ?_
            refine lv_goto (tgt := 329) hK.1.1 hK.1.2.1 dL_file_325 (by decide) ?_
            exact gk_zret0 hK.1 hret (by first | decide | exact (rp_nz (by first | assumption | (simp; done))).1) hlk hP hS (Nat.le_of_ble_eq_true rfl) (Nat.le_of_ble_eq_true rfl) dL_file_329 ⟨rfl, rfl⟩
        | succ j ih2 =>
          intro nx dv ls H locs hj hdv hnx hP hS hl
          obtain rfl : dv = nI (ed + j) := by rw [hdv, ← Nat.add_assoc, nI_pred]
          refine lv_iload hK.1.1 hK.1.2.1 dL_file_189 (lv_at hl 0 rfl) ?_
          refine lv_aload_n hK.1.1 hK.1.2.1 dL_file_191 rfl (lv_at hl 5 rfl) ?_
          refine lv_iconst (v := 0) hK.1.1 hK.1.2.1 dL_file_192 (by decide) ?_
          refine gk_iald hK.1 hK.2.2.1.1 hP 0 hca rfl (i := 0) (vp_in_nI (n := 0) (N := 1) (by omega) (by decide)) dL_file_193 ?_
          refine W.eq (g2 := F0 m 194 ls [.int (nI ed), .int (nI (ed + j))]) (by rw [show cc (0 : Int32).toNatClampNeg = nI ed from by rw [show (0 : Int32).toNatClampNeg = 0 from nI_clamp (n := 0) (by omega)]; exact (hcc.trans hI.1.1)]) ?_
          refine lv_icmp_lt (tgt := 225) hK.1.1 hK.1.2.1 dL_file_194 (by decide) (fun c => absurd c (nI_nlt (by omega) (by omega))) (fun _ => ?_)
          refine lv_aload_n hK.1.1 hK.1.2.1 dL_file_197 rfl (lv_at hl 2 rfl) ?_
          refine lv_aload_n hK.1.1 hK.1.2.1 dL_file_198 rfl (lv_at hl 3 rfl) ?_
          refine lv_aload_n hK.1.1 hK.1.2.1 dL_file_199 rfl (lv_at hl 4 rfl) ?_
          refine lv_iload hK.1.1 hK.1.2.1 dL_file_200 (lv_at hl 6 rfl) ?_
          refine lv_iload hK.1.1 hK.1.2.1 dL_file_202 (lv_at hl 0 rfl) ?_
          refine gk_callS0 (n := 5) (As := [.ref (ly_a y 0), .ref ar, .ref af, .int (nI f), .int (nI (ed + j))]) (rest := []) hK (c_L_due l hfl hR hI hN hra hfa hlr hlf (f := f) (d := (ed + j)) f5 (by omega)) (gk_gS q_16_4 q_16_5 q_10_12 q_16_6) ⟨by decide +kernel, by decide +kernel, by decide +kernel⟩ ⟨(Nat.le_of_ble_eq_true rfl), (Nat.le_of_ble_eq_true rfl)⟩ hP hS rfl hl.1 rfl (Nat.le_of_ble_eq_true rfl) dL_file_204 ⟨(Nat.le_of_ble_eq_true rfl), (Nat.le_of_ble_eq_true rfl)⟩ (fun v G1 H locs hw hP hS => ?_)
          obtain ⟨rfl, hG9⟩ := hw
          rw [hG9] at hP
          refine W.eq (g2 := F0 m 207 ls [.int (rg_b (t_dueS (nI (ed + j)) ru fr S f))]) rfl ?_
          refine lv_if_eq (tgt := 215) hK.1.1 hK.1.2.1 dL_file_207 (by decide) (fun c207_3 => ?_) (fun c207_3 => ?_)
          · refine lv_iload hK.1.1 hK.1.2.1 dL_file_215 (lv_at hl 1 rfl) ?_
            refine lv_istore (lv' := [(9, .int nx), (10, .int (nI (ed + j))), (0, .ref (ly_a y 0)), (1, .ref ar), (2, .ref af), (3, .ref ac), (4, .int (nI f)), (5, .int (nI (9 * fr f))), (6, .int (nI (S.2.2.2.2.1 f).length)), (7, .int (t_sum S.2.2.2.2.2.2 (S.2.2.2.2.2.2 0 (S.1 f) + S.2.2.2.1 f) ((S.2.2.2.2.1 f).take n)))]) hK.1.1 hK.1.2.1 dL_file_217 hl (by decide) rfl (fun ls hl => ?_)
            refine lv_iinc (v := (nI (ed + j)) + (-1)) (lv' := [(10, .int ((nI (ed + j)) + (-1))), (9, .int nx), (0, .ref (ly_a y 0)), (1, .ref ar), (2, .ref af), (3, .ref ac), (4, .int (nI f)), (5, .int (nI (9 * fr f))), (6, .int (nI (S.2.2.2.2.1 f).length)), (7, .int (t_sum S.2.2.2.2.2.2 (S.2.2.2.2.2.2 0 (S.1 f) + S.2.2.2.1 f) ((S.2.2.2.2.1 f).take n)))]) hK.1.1 hK.1.2.1 dL_file_219 hl (k := 1) rfl rfl (by decide) rfl (fun ls hl => ?_)
            refine lv_goto (tgt := 189) hK.1.1 hK.1.2.1 dL_file_222 (by decide) ?_
            exact ih2 (nx) _ ls _ _ (by omega) (by rw [Int32.sub_eq_add_neg]) (nxt_f hnx (rg_b0.mp c207_3)) hP hS (lv_sub hl [0, 1, 2, 3, 4, 5, 6, 7, 8, 9] rfl)
          · refine lv_iload hK.1.1 hK.1.2.1 dL_file_210 (lv_at hl 0 rfl) ?_
            refine lv_goto (tgt := 217) hK.1.1 hK.1.2.1 dL_file_212 (by decide) ?_
            refine lv_istore (lv' := [(9, .int (nI (ed + j))), (10, .int (nI (ed + j))), (0, .ref (ly_a y 0)), (1, .ref ar), (2, .ref af), (3, .ref ac), (4, .int (nI f)), (5, .int (nI (9 * fr f))), (6, .int (nI (S.2.2.2.2.1 f).length)), (7, .int (t_sum S.2.2.2.2.2.2 (S.2.2.2.2.2.2 0 (S.1 f) + S.2.2.2.1 f) ((S.2.2.2.2.1 f).take n)))]) hK.1.1 hK.1.2.1 dL_file_217 hl (by decide) rfl (fun ls hl => ?_)
            refine lv_iinc (v := (nI (ed + j)) + (-1)) (lv' := [(10, .int ((nI (ed + j)) + (-1))), (9, .int (nI (ed + j))), (0, .ref (ly_a y 0)), (1, .ref ar), (2, .ref af), (3, .ref ac), (4, .int (nI f)), (5, .int (nI (9 * fr f))), (6, .int (nI (S.2.2.2.2.1 f).length)), (7, .int (t_sum S.2.2.2.2.2.2 (S.2.2.2.2.2.2 0 (S.1 f) + S.2.2.2.1 f) ((S.2.2.2.2.1 f).take n)))]) hK.1.1 hK.1.2.1 dL_file_219 hl (k := 1) rfl rfl (by decide) rfl (fun ls hl => ?_)
            refine lv_goto (tgt := 189) hK.1.1 hK.1.2.1 dL_file_222 (by decide) ?_
            exact ih2 (nI (ed + j)) _ ls _ _ (by omega) (by rw [Int32.sub_eq_add_neg]) (nxt_t (by omega) (by cases hz9 : t_dueS (nI (ed + j)) ru fr S f with | true => rfl | false => exact absurd (rg_b0.mpr hz9) c207_3)) hP hS (lv_sub hl [0, 1, 2, 3, 4, 5, 6, 7, 8, 9] rfl)
      exact loop2 201 (-1) _ ls _ _ (by omega) (by rw [show ed + 201 = ed + 200 + 1 from rfl, nI_pred]) (Or.inr ⟨fun b h1 h2 => absurd h1 (by omega), rfl⟩) hP hS (lv_sub hl [0, 1, 4, 5, 6, 7, 8, 9, 10, 3] rfl)
    · have hn4 : n < (S.2.2.2.2.1 f).length := Nat.lt_of_not_le (fun h => c44_1 (nI_le h (by omega)))
      obtain ⟨t, htk⟩ : ∃ t, (S.2.2.2.2.1 f)[n]? = some t := ⟨_, List.getElem?_eq_getElem hn4⟩
      obtain ⟨n8, hn8, hct⟩ := iv_ct hI (iv_in5 hI f f5 t (List.mem_of_getElem? htk))
      have hs2 := iv_sq hI t (iv_in5 hI f f5 t (List.mem_of_getElem? htk))
      refine lv_aload_n hK.1.1 hK.1.2.1 dL_file_47 rfl (lv_at hl 3 rfl) ?_
      refine lv_iload hK.1.1 hK.1.2.1 dL_file_48 (lv_at hl 7 rfl) ?_
      refine lv_iload hK.1.1 hK.1.2.1 dL_file_50 (lv_at hl 0 rfl) ?_
      refine gk_callSW (n := 3) (As := [.ref (ly_a y 0), .int (nI f), .int (nI n)]) (rest := []) hK (c0_L_name l hfl hR (f := f) f5 htk (iv_in5 hI)) (gk_gS q_11_5 q_11_6 q_10_12 q_11_7) ⟨by decide +kernel, by decide +kernel, by decide +kernel⟩ ⟨(Nat.le_of_ble_eq_true rfl), (Nat.le_of_ble_eq_true rfl)⟩ hP hS rfl hl.1 rfl (Nat.le_of_ble_eq_true rfl) dL_file_52 ⟨(Nat.le_of_ble_eq_true rfl), (Nat.le_of_ble_eq_true rfl)⟩ (fun v G1 H locs hw hP hS => ?_)
      obtain ⟨rfl, hG9⟩ := hw
      rw [hG9] at hP
      refine W.eq (g2 := F0 m 55 ls [.int (nmv ru fr S.2.2.2.2.1 S.2.2.2.2.2.2 f n t)]) rfl ?_
      refine lv_istore (lv' := [(10, .int (nmv ru fr S.2.2.2.2.1 S.2.2.2.2.2.2 f n t)), (9, .int (nI n)), (8, .int b), (7, .int (t_sum S.2.2.2.2.2.2 (S.2.2.2.2.2.2 0 (S.1 f) + S.2.2.2.1 f) ((S.2.2.2.2.1 f).take n))), (0, .ref (ly_a y 0)), (1, .ref ar), (2, .ref af), (3, .ref ac), (4, .int (nI f)), (5, .int (nI (9 * fr f))), (6, .int (nI (S.2.2.2.2.1 f).length))]) hK.1.1 hK.1.2.1 dL_file_55 hl (by decide) rfl (fun ls hl => ?_)
      refine lv_iload hK.1.1 hK.1.2.1 dL_file_57 (lv_at hl 3 rfl) ?_
      refine lv_aload_n hK.1.1 hK.1.2.1 dL_file_59 rfl (lv_at hl 4 rfl) ?_
      refine lv_iload hK.1.1 hK.1.2.1 dL_file_60 (lv_at hl 8 rfl) ?_
      refine lv_iload hK.1.1 hK.1.2.1 dL_file_62 (lv_at hl 1 rfl) ?_
      refine gk_callSW (n := 3) (As := [.ref (ly_a y 0), .int (nI f), .int (nI n)]) (rest := [.int (t_sum S.2.2.2.2.2.2 (S.2.2.2.2.2.2 0 (S.1 f) + S.2.2.2.1 f) ((S.2.2.2.2.1 f).take n))]) hK (c0_L_lines l hfl hR (f := f) f5 htk (iv_in5 hI)) (gk_gS q_15_11 q_15_12 q_10_12 q_15_13) ⟨by decide +kernel, by decide +kernel, by decide +kernel⟩ ⟨(Nat.le_of_ble_eq_true rfl), (Nat.le_of_ble_eq_true rfl)⟩ hP hS rfl hl.1 rfl (Nat.le_of_ble_eq_true rfl) dL_file_64 ⟨(Nat.le_of_ble_eq_true rfl), (Nat.le_of_ble_eq_true rfl)⟩ (fun v G1 H locs hw hP hS => ?_)
      obtain ⟨rfl, hG9⟩ := hw
      rw [hG9] at hP
      refine W.eq (g2 := F0 m 67 ls [.int (S.2.2.2.2.2.2 0 t), .int (t_sum S.2.2.2.2.2.2 (S.2.2.2.2.2.2 0 (S.1 f) + S.2.2.2.1 f) ((S.2.2.2.2.1 f).take n))]) rfl ?_
      refine lv_iadd hK.1.1 hK.1.2.1 dL_file_67 ?_
      refine lv_istore (lv' := [(7, .int ((t_sum S.2.2.2.2.2.2 (S.2.2.2.2.2.2 0 (S.1 f) + S.2.2.2.1 f) ((S.2.2.2.2.1 f).take n)) + (S.2.2.2.2.2.2 0 t))), (10, .int (nmv ru fr S.2.2.2.2.1 S.2.2.2.2.2.2 f n t)), (9, .int (nI n)), (8, .int b), (0, .ref (ly_a y 0)), (1, .ref ar), (2, .ref af), (3, .ref ac), (4, .int (nI f)), (5, .int (nI (9 * fr f))), (6, .int (nI (S.2.2.2.2.1 f).length))]) hK.1.1 hK.1.2.1 dL_file_68 hl (by decide) rfl (fun ls hl => ?_)
      refine lv_aload_n hK.1.1 hK.1.2.1 dL_file_70 rfl (lv_at hl 4 rfl) ?_
      refine lv_iload hK.1.1 hK.1.2.1 dL_file_71 (lv_at hl 8 rfl) ?_
      refine lv_iload hK.1.1 hK.1.2.1 dL_file_73 (lv_at hl 2 rfl) ?_
      refine gk_callSW (n := 3) (As := [.ref (ly_a y 0), .int (nI f), .int (nI n)]) (rest := []) hK (c0_L_lines l hfl hR (f := f) f5 htk (iv_in5 hI)) (gk_gS q_15_11 q_15_12 q_10_12 q_15_13) ⟨by decide +kernel, by decide +kernel, by decide +kernel⟩ ⟨(Nat.le_of_ble_eq_true rfl), (Nat.le_of_ble_eq_true rfl)⟩ hP hS rfl hl.1 rfl (Nat.le_of_ble_eq_true rfl) dL_file_75 ⟨(Nat.le_of_ble_eq_true rfl), (Nat.le_of_ble_eq_true rfl)⟩ (fun v G1 H locs hw hP hS => ?_)
      obtain ⟨rfl, hG9⟩ := hw
      rw [hG9] at hP
      refine W.eq (g2 := F0 m 78 ls [.int (S.2.2.2.2.2.2 0 t)]) rfl ?_
      refine lv_if_lt (tgt := 134) hK.1.1 hK.1.2.1 dL_file_78 (by decide) (fun c => absurd c (by rw [hct]; exact nI_pos (by omega))) (fun _ => ?_)
      refine lv_aload_n hK.1.1 hK.1.2.1 dL_file_81 rfl (lv_at hl 5 rfl) ?_
      refine lv_iload hK.1.1 hK.1.2.1 dL_file_82 (lv_at hl 9 rfl) ?_
      refine lv_bipush (v := 7) hK.1.1 hK.1.2.1 dL_file_84 (by decide) ?_
      refine lv_iadd hK.1.1 hK.1.2.1 dL_file_86 ?_
      refine W.eq (g2 := F0 m 87 ls [.int (nI ((9 * fr f) + 7)), .ref ar]) (by rw [show (nI (9 * fr f)) + 7 = nI ((9 * fr f) + 7) from nI_add _ _]) ?_
      refine gk_iald hK.1 hK.2.2.1.1 hP 0 hra rfl (i := nI ((9 * fr f) + 7)) (vp_in_nI (n := (9 * fr f) + 7) (N := 27) (by omega) (by decide)) dL_file_87 ?_
      refine W.eq (g2 := F0 m 88 ls [.int (ru (fr f) 8)]) (by rw [show rr (nI ((9 * fr f) + 7)).toNatClampNeg = ru (fr f) 8 from by rw [show (nI ((9 * fr f) + 7) : Int32).toNatClampNeg = (9 * fr f) + 7 from nI_clamp (n := (9 * fr f) + 7) (by omega)]; exact (show rr ((9 * fr f) + 7) = ru (fr f) 8 from hlr _ (hI.2.2.1 f f5).1 7 (by decide))]) ?_
      refine lv_if_ne (tgt := 104) hK.1.1 hK.1.2.1 dL_file_88 (by decide) (fun c88_4 => ?_) (fun c88_4 => ?_)
      · refine lv_iload hK.1.1 hK.1.2.1 dL_file_104 (lv_at hl 1 rfl) ?_
        refine lv_iload hK.1.1 hK.1.2.1 dL_file_106 (lv_at hl 3 rfl) ?_
        refine lv_icmp_le (tgt := 134) hK.1.1 hK.1.2.1 dL_file_108 (by decide) (fun c => absurd c (iv_up hI hN f5 htk c88_4 hb)) (fun _ => ?_)
        refine lv_iload hK.1.1 hK.1.2.1 dL_file_111 (lv_at hl 1 rfl) ?_
        refine lv_sipush (v := 1000) hK.1.1 hK.1.2.1 dL_file_113 (by decide) ?_
        refine lv_idiv hK.1.1 hK.1.2.1 dL_file_116 (by decide) ?_
        refine lv_aload_n hK.1.1 hK.1.2.1 dL_file_117 rfl (lv_at hl 7 rfl) ?_
        refine lv_iconst (v := 0) hK.1.1 hK.1.2.1 dL_file_118 (by decide) ?_
        refine gk_iald hK.1 hK.2.2.1.1 hP 0 hca rfl (i := 0) (vp_in_nI (n := 0) (N := 1) (by omega) (by decide)) dL_file_119 ?_
        refine W.eq (g2 := F0 m 120 ls [.int (nI ed), .int ((nmv ru fr S.2.2.2.2.1 S.2.2.2.2.2.2 f n t) / 1000)]) (by rw [show cc (0 : Int32).toNatClampNeg = nI ed from by rw [show (0 : Int32).toNatClampNeg = 0 from nI_clamp (n := 0) (by omega)]; exact (hcc.trans hI.1.1)]) ?_
        refine lv_icmp_gt (tgt := 134) hK.1.1 hK.1.2.1 dL_file_120 (by decide) (fun c => absurd (by rw [(iv_day hI hN f5 htk c88_4).1, ← hI.1.1] at c; exact c) (iv_day hI hN f5 htk c88_4).2) (fun _ => ?_)
        refine lv_aload_n hK.1.1 hK.1.2.1 dL_file_123 rfl (lv_at hl 4 rfl) ?_
        refine lv_iload hK.1.1 hK.1.2.1 dL_file_124 (lv_at hl 8 rfl) ?_
        refine lv_iload hK.1.1 hK.1.2.1 dL_file_126 (lv_at hl 2 rfl) ?_
        refine gk_callSW (n := 3) (As := [.ref (ly_a y 0), .int (nI f), .int (nI n)]) (rest := []) hK (c0_L_isSqueezed l hfl hR (f := f) f5 htk (iv_in5 hI) (iv_sq hI)) (gk_gS q_16_17 q_16_18 q_10_12 q_16_19) ⟨by decide +kernel, by decide +kernel, by decide +kernel⟩ ⟨(Nat.le_of_ble_eq_true rfl), (Nat.le_of_ble_eq_true rfl)⟩ hP hS rfl hl.1 rfl (Nat.le_of_ble_eq_true rfl) dL_file_128 ⟨(Nat.le_of_ble_eq_true rfl), (Nat.le_of_ble_eq_true rfl)⟩ (fun v G1 H locs hw hP hS => ?_)
        obtain ⟨rfl, hG9⟩ := hw
        rw [hG9] at hP
        refine W.eq (g2 := F0 m 131 ls [.int (S.2.2.2.2.2.2 2 t)]) rfl ?_
        refine lv_if_ge (tgt := 136) hK.1.1 hK.1.2.1 dL_file_131 (by decide) (fun _ => ?_) (fun c => absurd (by rcases hs2 with q | q <;> rw [q] <;> decide) c)
        refine lv_aload_n hK.1.1 hK.1.2.1 dL_file_136 rfl (lv_at hl 5 rfl) ?_
        refine lv_iload hK.1.1 hK.1.2.1 dL_file_137 (lv_at hl 9 rfl) ?_
        refine lv_bipush (v := 7) hK.1.1 hK.1.2.1 dL_file_139 (by decide) ?_
        refine lv_iadd hK.1.1 hK.1.2.1 dL_file_141 ?_
        refine W.eq (g2 := F0 m 142 ls [.int (nI ((9 * fr f) + 7)), .ref ar]) (by rw [show (nI (9 * fr f)) + 7 = nI ((9 * fr f) + 7) from nI_add _ _]) ?_
        refine gk_iald hK.1 hK.2.2.1.1 hP 0 hra rfl (i := nI ((9 * fr f) + 7)) (vp_in_nI (n := (9 * fr f) + 7) (N := 27) (by omega) (by decide)) dL_file_142 ?_
        refine W.eq (g2 := F0 m 143 ls [.int (ru (fr f) 8)]) (by rw [show rr (nI ((9 * fr f) + 7)).toNatClampNeg = ru (fr f) 8 from by rw [show (nI ((9 * fr f) + 7) : Int32).toNatClampNeg = (9 * fr f) + 7 from nI_clamp (n := (9 * fr f) + 7) (by omega)]; exact (show rr ((9 * fr f) + 7) = ru (fr f) 8 from hlr _ (hI.2.2.1 f f5).1 7 (by decide))]) ?_
        refine lv_iconst (v := 1) hK.1.1 hK.1.2.1 dL_file_143 (by decide) ?_
        refine lv_icmp_ne (tgt := 167) hK.1.1 hK.1.2.1 dL_file_144 (by decide) (fun c => absurd (g8.resolve_left c88_4) c) (fun _ => ?_)
        refine lv_iload hK.1.1 hK.1.2.1 dL_file_147 (lv_at hl 1 rfl) ?_
        refine lv_sipush (v := 1000) hK.1.1 hK.1.2.1 dL_file_149 (by decide) ?_
        refine lv_irem hK.1.1 hK.1.2.1 dL_file_152 (by decide) ?_
        refine lv_if_le (tgt := 167) hK.1.1 hK.1.2.1 dL_file_153 (by decide) (fun c153_5 => ?_) (fun c153_5 => ?_)
        · refine lv_iload hK.1.1 hK.1.2.1 dL_file_167 (lv_at hl 1 rfl) ?_
          refine lv_istore (lv' := [(8, .int (nmv ru fr S.2.2.2.2.1 S.2.2.2.2.2.2 f n t)), (7, .int ((t_sum S.2.2.2.2.2.2 (S.2.2.2.2.2.2 0 (S.1 f) + S.2.2.2.1 f) ((S.2.2.2.2.1 f).take n)) + (S.2.2.2.2.2.2 0 t))), (10, .int (nmv ru fr S.2.2.2.2.1 S.2.2.2.2.2.2 f n t)), (9, .int (nI n)), (0, .ref (ly_a y 0)), (1, .ref ar), (2, .ref af), (3, .ref ac), (4, .int (nI f)), (5, .int (nI (9 * fr f))), (6, .int (nI (S.2.2.2.2.1 f).length))]) hK.1.1 hK.1.2.1 dL_file_169 hl (by decide) rfl (fun ls hl => ?_)
          refine lv_iinc (v := nI (n + 1)) (lv' := [(9, .int (nI (n + 1))), (8, .int (nmv ru fr S.2.2.2.2.1 S.2.2.2.2.2.2 f n t)), (7, .int ((t_sum S.2.2.2.2.2.2 (S.2.2.2.2.2.2 0 (S.1 f) + S.2.2.2.1 f) ((S.2.2.2.2.1 f).take n)) + (S.2.2.2.2.2.2 0 t))), (10, .int (nmv ru fr S.2.2.2.2.1 S.2.2.2.2.2.2 f n t)), (0, .ref (ly_a y 0)), (1, .ref ar), (2, .ref af), (3, .ref ac), (4, .int (nI f)), (5, .int (nI (9 * fr f))), (6, .int (nI (S.2.2.2.2.1 f).length))]) hK.1.1 hK.1.2.1 dL_file_171 hl (k := 3) rfl (nI_1 n) (by decide) rfl (fun ls hl => ?_)
          refine lv_goto (tgt := 40) hK.1.1 hK.1.2.1 dL_file_174 (by decide) ?_
          exact ih ((S.2.2.2.2.1 f).length - (n + 1)) (by omega) (n + 1) (nmv ru fr S.2.2.2.2.1 S.2.2.2.2.2.2 f n t) ls _ _ rfl (by omega) (Or.inr ⟨n, t, rfl, htk, rfl⟩) hP hS (by rw [ts_take htk]; exact lv_sub hl [0, 1, 2, 4, 5, 6, 7, 8, 9, 10] rfl)
        · refine lv_iload hK.1.1 hK.1.2.1 dL_file_156 (lv_at hl 1 rfl) ?_
          refine lv_iload hK.1.1 hK.1.2.1 dL_file_158 (lv_at hl 3 rfl) ?_
          refine lv_iconst (v := 1) hK.1.1 hK.1.2.1 dL_file_160 (by decide) ?_
          refine lv_iadd hK.1.1 hK.1.2.1 dL_file_161 ?_
          refine lv_icmp_eq (tgt := 167) hK.1.1 hK.1.2.1 dL_file_162 (by decide) (fun _ => ?_) (fun c => absurd (iv_gap hI hN f5 htk c88_4 hb c153_5) c)
          refine lv_iload hK.1.1 hK.1.2.1 dL_file_167 (lv_at hl 1 rfl) ?_
          refine lv_istore (lv' := [(8, .int (nmv ru fr S.2.2.2.2.1 S.2.2.2.2.2.2 f n t)), (7, .int ((t_sum S.2.2.2.2.2.2 (S.2.2.2.2.2.2 0 (S.1 f) + S.2.2.2.1 f) ((S.2.2.2.2.1 f).take n)) + (S.2.2.2.2.2.2 0 t))), (10, .int (nmv ru fr S.2.2.2.2.1 S.2.2.2.2.2.2 f n t)), (9, .int (nI n)), (0, .ref (ly_a y 0)), (1, .ref ar), (2, .ref af), (3, .ref ac), (4, .int (nI f)), (5, .int (nI (9 * fr f))), (6, .int (nI (S.2.2.2.2.1 f).length))]) hK.1.1 hK.1.2.1 dL_file_169 hl (by decide) rfl (fun ls hl => ?_)
          refine lv_iinc (v := nI (n + 1)) (lv' := [(9, .int (nI (n + 1))), (8, .int (nmv ru fr S.2.2.2.2.1 S.2.2.2.2.2.2 f n t)), (7, .int ((t_sum S.2.2.2.2.2.2 (S.2.2.2.2.2.2 0 (S.1 f) + S.2.2.2.1 f) ((S.2.2.2.2.1 f).take n)) + (S.2.2.2.2.2.2 0 t))), (10, .int (nmv ru fr S.2.2.2.2.1 S.2.2.2.2.2.2 f n t)), (0, .ref (ly_a y 0)), (1, .ref ar), (2, .ref af), (3, .ref ac), (4, .int (nI f)), (5, .int (nI (9 * fr f))), (6, .int (nI (S.2.2.2.2.1 f).length))]) hK.1.1 hK.1.2.1 dL_file_171 hl (k := 3) rfl (nI_1 n) (by decide) rfl (fun ls hl => ?_)
          refine lv_goto (tgt := 40) hK.1.1 hK.1.2.1 dL_file_174 (by decide) ?_
          exact ih ((S.2.2.2.2.1 f).length - (n + 1)) (by omega) (n + 1) (nmv ru fr S.2.2.2.2.1 S.2.2.2.2.2.2 f n t) ls _ _ rfl (by omega) (Or.inr ⟨n, t, rfl, htk, rfl⟩) hP hS (by rw [ts_take htk]; exact lv_sub hl [0, 1, 2, 4, 5, 6, 7, 8, 9, 10] rfl)
      · refine lv_iload hK.1.1 hK.1.2.1 dL_file_91 (lv_at hl 1 rfl) ?_
        refine lv_iload hK.1.1 hK.1.2.1 dL_file_93 (lv_at hl 10 rfl) ?_
        refine lv_iload hK.1.1 hK.1.2.1 dL_file_95 (lv_at hl 2 rfl) ?_
        refine lv_isub hK.1.1 hK.1.2.1 dL_file_97 ?_
        refine lv_icmp_eq (tgt := 123) hK.1.1 hK.1.2.1 dL_file_98 (by decide) (fun _ => ?_) (fun c => absurd (iv_nm0 hn c88_4) c)
        refine lv_aload_n hK.1.1 hK.1.2.1 dL_file_123 rfl (lv_at hl 4 rfl) ?_
        refine lv_iload hK.1.1 hK.1.2.1 dL_file_124 (lv_at hl 8 rfl) ?_
        refine lv_iload hK.1.1 hK.1.2.1 dL_file_126 (lv_at hl 2 rfl) ?_
        refine gk_callSW (n := 3) (As := [.ref (ly_a y 0), .int (nI f), .int (nI n)]) (rest := []) hK (c0_L_isSqueezed l hfl hR (f := f) f5 htk (iv_in5 hI) (iv_sq hI)) (gk_gS q_16_17 q_16_18 q_10_12 q_16_19) ⟨by decide +kernel, by decide +kernel, by decide +kernel⟩ ⟨(Nat.le_of_ble_eq_true rfl), (Nat.le_of_ble_eq_true rfl)⟩ hP hS rfl hl.1 rfl (Nat.le_of_ble_eq_true rfl) dL_file_128 ⟨(Nat.le_of_ble_eq_true rfl), (Nat.le_of_ble_eq_true rfl)⟩ (fun v G1 H locs hw hP hS => ?_)
        obtain ⟨rfl, hG9⟩ := hw
        rw [hG9] at hP
        refine W.eq (g2 := F0 m 131 ls [.int (S.2.2.2.2.2.2 2 t)]) rfl ?_
        refine lv_if_ge (tgt := 136) hK.1.1 hK.1.2.1 dL_file_131 (by decide) (fun _ => ?_) (fun c => absurd (by rcases hs2 with q | q <;> rw [q] <;> decide) c)
        refine lv_aload_n hK.1.1 hK.1.2.1 dL_file_136 rfl (lv_at hl 5 rfl) ?_
        refine lv_iload hK.1.1 hK.1.2.1 dL_file_137 (lv_at hl 9 rfl) ?_
        refine lv_bipush (v := 7) hK.1.1 hK.1.2.1 dL_file_139 (by decide) ?_
        refine lv_iadd hK.1.1 hK.1.2.1 dL_file_141 ?_
        refine W.eq (g2 := F0 m 142 ls [.int (nI ((9 * fr f) + 7)), .ref ar]) (by rw [show (nI (9 * fr f)) + 7 = nI ((9 * fr f) + 7) from nI_add _ _]) ?_
        refine gk_iald hK.1 hK.2.2.1.1 hP 0 hra rfl (i := nI ((9 * fr f) + 7)) (vp_in_nI (n := (9 * fr f) + 7) (N := 27) (by omega) (by decide)) dL_file_142 ?_
        refine W.eq (g2 := F0 m 143 ls [.int (ru (fr f) 8)]) (by rw [show rr (nI ((9 * fr f) + 7)).toNatClampNeg = ru (fr f) 8 from by rw [show (nI ((9 * fr f) + 7) : Int32).toNatClampNeg = (9 * fr f) + 7 from nI_clamp (n := (9 * fr f) + 7) (by omega)]; exact (show rr ((9 * fr f) + 7) = ru (fr f) 8 from hlr _ (hI.2.2.1 f f5).1 7 (by decide))]) ?_
        refine lv_iconst (v := 1) hK.1.1 hK.1.2.1 dL_file_143 (by decide) ?_
        refine lv_icmp_ne (tgt := 167) hK.1.1 hK.1.2.1 dL_file_144 (by decide) (fun _ => ?_) (fun c => absurd (c88_4.symm.trans c) (by decide))
        refine lv_iload hK.1.1 hK.1.2.1 dL_file_167 (lv_at hl 1 rfl) ?_
        refine lv_istore (lv' := [(8, .int (nmv ru fr S.2.2.2.2.1 S.2.2.2.2.2.2 f n t)), (7, .int ((t_sum S.2.2.2.2.2.2 (S.2.2.2.2.2.2 0 (S.1 f) + S.2.2.2.1 f) ((S.2.2.2.2.1 f).take n)) + (S.2.2.2.2.2.2 0 t))), (10, .int (nmv ru fr S.2.2.2.2.1 S.2.2.2.2.2.2 f n t)), (9, .int (nI n)), (0, .ref (ly_a y 0)), (1, .ref ar), (2, .ref af), (3, .ref ac), (4, .int (nI f)), (5, .int (nI (9 * fr f))), (6, .int (nI (S.2.2.2.2.1 f).length))]) hK.1.1 hK.1.2.1 dL_file_169 hl (by decide) rfl (fun ls hl => ?_)
        refine lv_iinc (v := nI (n + 1)) (lv' := [(9, .int (nI (n + 1))), (8, .int (nmv ru fr S.2.2.2.2.1 S.2.2.2.2.2.2 f n t)), (7, .int ((t_sum S.2.2.2.2.2.2 (S.2.2.2.2.2.2 0 (S.1 f) + S.2.2.2.1 f) ((S.2.2.2.2.1 f).take n)) + (S.2.2.2.2.2.2 0 t))), (10, .int (nmv ru fr S.2.2.2.2.1 S.2.2.2.2.2.2 f n t)), (0, .ref (ly_a y 0)), (1, .ref ar), (2, .ref af), (3, .ref ac), (4, .int (nI f)), (5, .int (nI (9 * fr f))), (6, .int (nI (S.2.2.2.2.1 f).length))]) hK.1.1 hK.1.2.1 dL_file_171 hl (k := 3) rfl (nI_1 n) (by decide) rfl (fun ls hl => ?_)
        refine lv_goto (tgt := 40) hK.1.1 hK.1.2.1 dL_file_174 (by decide) ?_
        exact ih ((S.2.2.2.2.1 f).length - (n + 1)) (by omega) (n + 1) (nmv ru fr S.2.2.2.2.1 S.2.2.2.2.2.2 f n t) ls _ _ rfl (by omega) (Or.inr ⟨n, t, rfl, htk, rfl⟩) hP hS (by rw [ts_take htk]; exact lv_sub hl [0, 1, 2, 4, 5, 6, 7, 8, 9, 10] rfl)
  exact loop _ 0 (-1) ls _ _ rfl (by omega) (Or.inl ⟨rfl, rfl⟩) hP hS (lv_sub hl [0, 1, 2, 5, 6, 7, 8, 9, 4, 3] rfl)
