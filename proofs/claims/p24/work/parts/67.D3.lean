/-! the law: an object as a whole; a file that has just been turned -/
set_option maxHeartbeats 4000000 in
set_option maxRecDepth 100000 in
theorem c_L_isSo (l : Launch) {y : ly_T} {A : Nat → Prop} {G : gk_G} {ed N : Nat} {td : Int32} {ru : Nat → Nat → Int32} {fr : Nat → Nat} {hf hp : Nat → Option Nat} {S : ts_T} {tt : Nat → Int32} {fi : Nat → Nat} (hfl : l.stackTraces = false) (hR : rq y G td ru fr hf S hp) (hI : iv ed N td ru fr hf S hp tt fi) (hN : N ≤ 111) {ar af : Nat} {rr ff : Nat → Int32} (hra : G ar = some (rp_i (ly_k y 0) 27 rr)) (hfa : G af = some (rp_i (ly_k y 0) 20 ff)) (hlr : lr rr ru) (hlf : lf ff fr S tt) {ac : Nat} {cc : Nat → Int32} (hca : G ac = some (rp_i (ly_k y 0) 1 cc)) (hcc : cc 0 = td) : gk_M0 l yL_isSo (Cond.code yL_isSo cL_isSo 6 (some .boolean)) 10 260 336 2688 y A [.ref (ly_a y 0), .ref ar, .ref af, .ref ac] G (fun v G1 => v = some (.int 1) ∧ G1 = G) := by
  refine gk_of0 (cc := cL_isSo) (maxL := 6) (ret := (some .boolean)) (own := RL) (by decide +kernel) rfl rfl (Nat.le_of_ble_eq_true rfl) ?_
  intro p e s m below meth c ls hK hret hlk _ hP hS hl
  have hl : lv_has ls 6 [(0, .ref (ly_a y 0)), (1, .ref ar), (2, .ref af), (3, .ref ac)] := hl
  have he9 := hI.1.2
  refine lv_iconst (v := 0) hK.1.1 hK.1.2.1 dL_isSo_0 (by decide) ?_
  refine lv_istore (lv' := [(4, .int 0), (0, .ref (ly_a y 0)), (1, .ref ar), (2, .ref af), (3, .ref ac)]) hK.1.1 hK.1.2.1 dL_isSo_1 hl (by decide) rfl (fun ls hl => ?_)
  have loop : ∀ (dd k : Nat) (ls : Array Slot) (H : Heap) (locs : List Loc), 5 - k = dd → k ≤ 5 → gk_P (ly_D y) A G H → va_S A s.heap H locs → lv_has ls 6 [(4, .int (nI k)), (0, .ref (ly_a y 0)), (1, .ref ar), (2, .ref af), (3, .ref ac)] → W p l e { frames := 10, cells := 336, slots := 2688, locals := 260 } s m [.ref (ly_a y 0), .ref ar, .ref af, .ref ac].toArray below meth c H locs (48 * k) (384 * k) (MQ below (gk_Q y A (fun v G1 => v = some (.int 1) ∧ G1 = G)) [.ref (ly_a y 0), .ref ar, .ref af, .ref ac].toArray s 336 2688 A) (F0 m 3 ls []) := by
    intro dd
    induction dd using Nat.strongRecOn with
    | _ dd ih =>
    intro k ls H locs hdd hk hP hS hl
    refine lv_iload hK.1.1 hK.1.2.1 dL_isSo_3 (lv_at hl 0 rfl) ?_
    refine lv_iconst (v := 5) hK.1.1 hK.1.2.1 dL_isSo_5 (by decide) ?_
    refine lv_icmp_ge (tgt := 29) hK.1.1 hK.1.2.1 dL_isSo_6 (by decide) (fun c6_1 => ?_) (fun c6_1 => ?_)
    · have hk5 : k = 5 := Nat.le_antisymm hk ((nI_leI (a := 5) (by omega) (by omega)).mp c6_1)
      subst hk5
      refine lv_iconst (v := 0) hK.1.1 hK.1.2.1 dL_isSo_29 (by decide) ?_
      refine lv_istore (lv' := [(4, .int 0), (0, .ref (ly_a y 0)), (1, .ref ar), (2, .ref af), (3, .ref ac)]) hK.1.1 hK.1.2.1 dL_isSo_30 hl (by decide) rfl (fun ls hl => ?_)
      have loop2 : ∀ (dd n : Nat) (ls : Array Slot) (H : Heap) (locs : List Loc), 4 - n = dd → n ≤ 4 → gk_P (ly_D y) A G H → va_S A s.heap H locs → lv_has ls 6 [(4, .int (nI n)), (0, .ref (ly_a y 0)), (1, .ref ar), (2, .ref af), (3, .ref ac)] → W p l e { frames := 10, cells := 336, slots := 2688, locals := 260 } s m [.ref (ly_a y 0), .ref ar, .ref af, .ref ac].toArray below meth c H locs (48 * 5) (384 * 5) (MQ below (gk_Q y A (fun v G1 => v = some (.int 1) ∧ G1 = G)) [.ref (ly_a y 0), .ref ar, .ref af, .ref ac].toArray s 336 2688 A) (F0 m 32 ls []) := by
        intro dd
        induction dd using Nat.strongRecOn with
        | _ dd ih2 =>
        intro n ls H locs hdd hn hP hS hl
        refine lv_iload hK.1.1 hK.1.2.1 dL_isSo_32 (lv_at hl 0 rfl) ?_
        refine lv_iconst (v := 4) hK.1.1 hK.1.2.1 dL_isSo_34 (by decide) ?_
        refine lv_icmp_ge (tgt := 91) hK.1.1 hK.1.2.1 dL_isSo_35 (by decide) (fun c35_2 => ?_) (fun c35_2 => ?_)
        · refine lv_aload_n hK.1.1 hK.1.2.1 dL_isSo_91 rfl (lv_at hl 1 rfl) ?_
          refine gk_callV0 (n := 0) (As := []) (rest := []) hK (c_X4_day l hR) (gk_gV q_3_18 q_3_19 q_3_20 q_1_2 q_3_21) ⟨rfl, by decide +kernel, by decide +kernel, by decide +kernel⟩ ⟨(Nat.le_of_ble_eq_true rfl), (Nat.le_of_ble_eq_true rfl)⟩ hP hS (gk_recv hK.2.2.1.1 hP hR.1 rfl) rfl hl.1 rfl (Nat.le_of_ble_eq_true rfl) dL_isSo_92 ⟨(Nat.le_of_ble_eq_true rfl), (Nat.le_of_ble_eq_true rfl)⟩ (fun v G1 H locs hw hP hS => ?_)
          obtain ⟨rfl, hG9⟩ := hw
          rw [hG9] at hP
          refine W.eq (g2 := F0 m 95 ls [.int td]) rfl ?_
          refine lv_aload_n hK.1.1 hK.1.2.1 dL_isSo_95 rfl (lv_at hl 4 rfl) ?_
          refine lv_iconst (v := 0) hK.1.1 hK.1.2.1 dL_isSo_96 (by decide) ?_
          refine gk_iald hK.1 hK.2.2.1.1 hP 0 hca rfl (i := 0) (vp_in_nI (n := 0) (N := 1) (by omega) (by decide)) dL_isSo_97 ?_
          refine W.eq (g2 := F0 m 98 ls [.int (nI ed), .int td]) (by rw [show cc (0 : Int32).toNatClampNeg = nI ed from by rw [show (0 : Int32).toNatClampNeg = 0 from nI_clamp (n := 0) (by omega)]; exact (hcc.trans hI.1.1)]) ?_
          refine lv_icmp_ne (tgt := 165) hK.1.1 hK.1.2.1 dL_isSo_98 (by decide) (fun c => absurd hI.1.1 c) (fun _ => ?_)
          refine lv_aload_n hK.1.1 hK.1.2.1 dL_isSo_101 rfl (lv_at hl 1 rfl) ?_
          refine lv_iconst (v := 5) hK.1.1 hK.1.2.1 dL_isSo_102 (by decide) ?_
          refine gk_callSW (n := 2) (As := [.ref (ly_a y 0), .int 5]) (rest := []) hK (cb0_isDue hfl hR (i := 5) (Or.inr (by decide)) (iv_Ll hI)) (gk_gS q_17_3 q_17_4 q_10_12 q_17_5) ⟨by decide +kernel, by decide +kernel, by decide +kernel⟩ ⟨(Nat.le_of_ble_eq_true rfl), (Nat.le_of_ble_eq_true rfl)⟩ hP hS rfl hl.1 rfl (Nat.le_of_ble_eq_true rfl) dL_isSo_103 ⟨(Nat.le_of_ble_eq_true rfl), (Nat.le_of_ble_eq_true rfl)⟩ (fun v G1 H locs hw hP hS => ?_)
          obtain ⟨rfl, hG9⟩ := hw
          rw [hG9] at hP
          refine W.eq (g2 := F0 m 106 ls [.int (-1000001)]) rfl ?_
          refine lv_ldc (v := (-1000001)) hK.1.1 hK.1.2.1 hK.1.2.2.1 (hK.1.2.2.2 _ q_1_4) dL_isSo_106 ?_
          refine lv_icmp_ne (tgt := 165) hK.1.1 hK.1.2.1 dL_isSo_108 (by decide) (fun c => absurd rfl c) (fun _ => ?_)
          refine lv_aload_n hK.1.1 hK.1.2.1 dL_isSo_111 rfl (lv_at hl 1 rfl) ?_
          refine lv_iconst (v := (-1)) hK.1.1 hK.1.2.1 dL_isSo_112 (by decide) ?_
          refine gk_callSW (n := 2) (As := [.ref (ly_a y 0), .int (-1)]) (rest := []) hK (cb0_nextDue hfl hR (i := -1) (Or.inl (by decide)) (iv_Ll hI)) (gk_gS q_18_16 q_18_17 q_10_12 q_18_18) ⟨by decide +kernel, by decide +kernel, by decide +kernel⟩ ⟨(Nat.le_of_ble_eq_true rfl), (Nat.le_of_ble_eq_true rfl)⟩ hP hS rfl hl.1 rfl (Nat.le_of_ble_eq_true rfl) dL_isSo_113 ⟨(Nat.le_of_ble_eq_true rfl), (Nat.le_of_ble_eq_true rfl)⟩ (fun v G1 H locs hw hP hS => ?_)
          obtain ⟨rfl, hG9⟩ := hw
          rw [hG9] at hP
          refine W.eq (g2 := F0 m 116 ls [.int (-1000001)]) rfl ?_
          refine lv_ldc (v := (-1000001)) hK.1.1 hK.1.2.1 hK.1.2.2.1 (hK.1.2.2.2 _ q_1_4) dL_isSo_116 ?_
          refine lv_icmp_ne (tgt := 165) hK.1.1 hK.1.2.1 dL_isSo_118 (by decide) (fun c => absurd rfl c) (fun _ => ?_)
          refine lv_aload_n hK.1.1 hK.1.2.1 dL_isSo_121 rfl (lv_at hl 1 rfl) ?_
          refine lv_iconst (v := 5) hK.1.1 hK.1.2.1 dL_isSo_122 (by decide) ?_
          refine gk_callSW (n := 2) (As := [.ref (ly_a y 0), .int 5]) (rest := []) hK (cb0_live hfl hR (i := 5) (Or.inr (by decide)) (iv_Ll hI)) (gk_gS q_15_4 q_15_5 q_10_12 q_15_6) ⟨by decide +kernel, by decide +kernel, by decide +kernel⟩ ⟨(Nat.le_of_ble_eq_true rfl), (Nat.le_of_ble_eq_true rfl)⟩ hP hS rfl hl.1 rfl (Nat.le_of_ble_eq_true rfl) dL_isSo_123 ⟨(Nat.le_of_ble_eq_true rfl), (Nat.le_of_ble_eq_true rfl)⟩ (fun v G1 H locs hw hP hS => ?_)
          obtain ⟨rfl, hG9⟩ := hw
          rw [hG9] at hP
          refine W.eq (g2 := F0 m 126 ls [.int (-1000001)]) rfl ?_
          refine lv_ldc (v := (-1000001)) hK.1.1 hK.1.2.1 hK.1.2.2.1 (hK.1.2.2.2 _ q_1_4) dL_isSo_126 ?_
          refine lv_icmp_ne (tgt := 165) hK.1.1 hK.1.2.1 dL_isSo_128 (by decide) (fun c => absurd rfl c) (fun _ => ?_)
          refine lv_aload_n hK.1.1 hK.1.2.1 dL_isSo_131 rfl (lv_at hl 1 rfl) ?_
          refine lv_iconst (v := (-1)) hK.1.1 hK.1.2.1 dL_isSo_132 (by decide) ?_
          refine gk_callSW (n := 2) (As := [.ref (ly_a y 0), .int (-1)]) (rest := []) hK (cb0_olds hfl hR (i := -1) (Or.inl (by decide))) (gk_gS q_16_10 q_16_11 q_10_12 q_16_12) ⟨by decide +kernel, by decide +kernel, by decide +kernel⟩ ⟨(Nat.le_of_ble_eq_true rfl), (Nat.le_of_ble_eq_true rfl)⟩ hP hS rfl hl.1 rfl (Nat.le_of_ble_eq_true rfl) dL_isSo_133 ⟨(Nat.le_of_ble_eq_true rfl), (Nat.le_of_ble_eq_true rfl)⟩ (fun v G1 H locs hw hP hS => ?_)
          obtain ⟨rfl, hG9⟩ := hw
          rw [hG9] at hP
          refine W.eq (g2 := F0 m 136 ls [.int (-1000001)]) rfl ?_
          refine lv_ldc (v := (-1000001)) hK.1.1 hK.1.2.1 hK.1.2.2.1 (hK.1.2.2.2 _ q_1_4) dL_isSo_136 ?_
          refine lv_icmp_ne (tgt := 165) hK.1.1 hK.1.2.1 dL_isSo_138 (by decide) (fun c => absurd rfl c) (fun _ => ?_)
          refine lv_aload_n hK.1.1 hK.1.2.1 dL_isSo_141 rfl (lv_at hl 1 rfl) ?_
          refine lv_iconst (v := 5) hK.1.1 hK.1.2.1 dL_isSo_142 (by decide) ?_
          refine gk_callSW (n := 2) (As := [.ref (ly_a y 0), .int 5]) (rest := []) hK (cb0_thrown hfl hR (i := 5) (Or.inr (by decide))) (gk_gS q_17_20 q_17_21 q_10_12 q_17_22) ⟨by decide +kernel, by decide +kernel, by decide +kernel⟩ ⟨(Nat.le_of_ble_eq_true rfl), (Nat.le_of_ble_eq_true rfl)⟩ hP hS rfl hl.1 rfl (Nat.le_of_ble_eq_true rfl) dL_isSo_143 ⟨(Nat.le_of_ble_eq_true rfl), (Nat.le_of_ble_eq_true rfl)⟩ (fun v G1 H locs hw hP hS => ?_)
          obtain ⟨rfl, hG9⟩ := hw
          rw [hG9] at hP
          refine W.eq (g2 := F0 m 146 ls [.int (-1000001)]) rfl ?_
          refine lv_ldc (v := (-1000001)) hK.1.1 hK.1.2.1 hK.1.2.2.1 (hK.1.2.2.2 _ q_1_4) dL_isSo_146 ?_
          refine lv_icmp_ne (tgt := 165) hK.1.1 hK.1.2.1 dL_isSo_148 (by decide) (fun c => absurd rfl c) (fun _ => ?_)
          refine lv_aload_n hK.1.1 hK.1.2.1 dL_isSo_151 rfl (lv_at hl 1 rfl) ?_
          refine lv_iconst (v := 4) hK.1.1 hK.1.2.1 dL_isSo_152 (by decide) ?_
          refine gk_callSW (n := 2) (As := [.ref (ly_a y 0), .int 4]) (rest := []) hK (cb0_holds hfl hR (i := 4) (Or.inr (by decide)) (iv_Ho hI)) (gk_gS q_10_10 q_10_11 q_10_12 q_10_13) ⟨by decide +kernel, by decide +kernel, by decide +kernel⟩ ⟨(Nat.le_of_ble_eq_true rfl), (Nat.le_of_ble_eq_true rfl)⟩ hP hS rfl hl.1 rfl (Nat.le_of_ble_eq_true rfl) dL_isSo_153 ⟨(Nat.le_of_ble_eq_true rfl), (Nat.le_of_ble_eq_true rfl)⟩ (fun v G1 H locs hw hP hS => ?_)
          obtain ⟨rfl, hG9⟩ := hw
          rw [hG9] at hP
          refine W.eq (g2 := F0 m 156 ls [.int (-1000001)]) rfl ?_
          refine lv_ldc (v := (-1000001)) hK.1.1 hK.1.2.1 hK.1.2.2.1 (hK.1.2.2.2 _ q_1_4) dL_isSo_156 ?_
          refine lv_icmp_ne (tgt := 165) hK.1.1 hK.1.2.1 dL_isSo_158 (by decide) (fun c => absurd rfl c) (fun _ => ?_)
          refine lv_iconst (v := 1) hK.1.1 hK.1.2.1 dL_isSo_161 (by decide) ?_
          refine lv_goto (tgt := 166) hK.1.1 hK.1.2.1 dL_isSo_162 (by decide) ?_
          exact gk_zret0 hK.1 hret (by first | decide | exact (rp_nz (by first | assumption | (simp; done))).1) hlk hP hS (Nat.le_of_ble_eq_true rfl) (Nat.le_of_ble_eq_true rfl) dL_isSo_166 ⟨rfl, rfl⟩
        · have hn4 : n < 4 := Nat.lt_of_not_le (fun h => c35_2 (nI_le (a := 4) h (by omega)))
          refine lv_aload_n hK.1.1 hK.1.2.1 dL_isSo_38 rfl (lv_at hl 1 rfl) ?_
          refine lv_iload hK.1.1 hK.1.2.1 dL_isSo_39 (lv_at hl 0 rfl) ?_
          refine gk_callSW (n := 2) (As := [.ref (ly_a y 0), .int (nI n)]) (rest := []) hK (c0_L_holds l hfl hR (h := n) hn4 (iv_Ho hI)) (gk_gS q_10_10 q_10_11 q_10_12 q_10_13) ⟨by decide +kernel, by decide +kernel, by decide +kernel⟩ ⟨(Nat.le_of_ble_eq_true rfl), (Nat.le_of_ble_eq_true rfl)⟩ hP hS rfl hl.1 rfl (Nat.le_of_ble_eq_true rfl) dL_isSo_41 ⟨(Nat.le_of_ble_eq_true rfl), (Nat.le_of_ble_eq_true rfl)⟩ (fun v G1 H locs hw hP hS => ?_)
          obtain ⟨x9, hx9, rfl, hG9⟩ := hw
          rw [hG9] at hP
          obtain rfl := hz_eq hx9
          refine W.eq (g2 := F0 m 44 ls [.int (hz hf hp S.2.2.2.2.1 n)]) rfl ?_
          rcases iv_hz hI hN hn4 with ⟨z1, z2, z3⟩ | ⟨g, t, q, g5, q1, q2, z1, z2, z3, z4⟩
          · refine W.eq (g2 := F0 m 44 ls [.int (-1)]) (by rw [z3]) ?_
            refine lv_istore (lv' := [(5, .int (-1)), (4, .int (nI n)), (0, .ref (ly_a y 0)), (1, .ref ar), (2, .ref af), (3, .ref ac)]) hK.1.1 hK.1.2.1 dL_isSo_44 hl (by decide) rfl (fun ls hl => ?_)
            refine lv_iload hK.1.1 hK.1.2.1 dL_isSo_46 (lv_at hl 0 rfl) ?_
            refine lv_iconst (v := (-1)) hK.1.1 hK.1.2.1 dL_isSo_48 (by decide) ?_
            refine lv_icmp_eq (tgt := 85) hK.1.1 hK.1.2.1 dL_isSo_49 (by decide) (fun _ => ?_) (fun c => absurd (by decide) c)
            refine lv_iinc (v := nI (n + 1)) (lv' := [(4, .int (nI (n + 1))), (5, .int (-1)), (0, .ref (ly_a y 0)), (1, .ref ar), (2, .ref af), (3, .ref ac)]) hK.1.1 hK.1.2.1 dL_isSo_85 hl (k := 1) rfl (nI_1 n) (by decide) rfl (fun ls hl => ?_)
            refine lv_goto (tgt := 32) hK.1.1 hK.1.2.1 dL_isSo_88 (by decide) ?_
            exact ih2 (4 - (n + 1)) (by omega) (n + 1) ls _ _ rfl (by omega) hP hS (lv_sub hl [0, 2, 3, 4, 5] rfl)
          · refine W.eq (g2 := F0 m 44 ls [.int (nI (100 * g + q))]) (by rw [z3]) ?_
            refine lv_istore (lv' := [(5, .int (nI (100 * g + q))), (4, .int (nI n)), (0, .ref (ly_a y 0)), (1, .ref ar), (2, .ref af), (3, .ref ac)]) hK.1.1 hK.1.2.1 dL_isSo_44 hl (by decide) rfl (fun ls hl => ?_)
            refine lv_iload hK.1.1 hK.1.2.1 dL_isSo_46 (lv_at hl 0 rfl) ?_
            refine lv_iconst (v := (-1)) hK.1.1 hK.1.2.1 dL_isSo_48 (by decide) ?_
            refine lv_icmp_eq (tgt := 85) hK.1.1 hK.1.2.1 dL_isSo_49 (by decide) (fun c => absurd c (n_m1 (by omega))) (fun _ => ?_)
            refine lv_iload hK.1.1 hK.1.2.1 dL_isSo_52 (lv_at hl 0 rfl) ?_
            refine lv_if_lt (tgt := 83) hK.1.1 hK.1.2.1 dL_isSo_54 (by decide) (fun c => absurd c (nI_pos (by omega))) (fun _ => ?_)
            refine lv_iload hK.1.1 hK.1.2.1 dL_isSo_57 (lv_at hl 0 rfl) ?_
            refine lv_bipush (v := 100) hK.1.1 hK.1.2.1 dL_isSo_59 (by decide) ?_
            refine lv_idiv hK.1.1 hK.1.2.1 dL_isSo_61 (by decide) ?_
            refine W.eq (g2 := F0 m 62 ls [.int (nI ((100 * g + q) / 100))]) (by rw [show (nI (100 * g + q)) / 100 = nI ((100 * g + q) / 100) from pk_div (by omega) (by decide) (by decide)]) ?_
            refine W.eq (g2 := F0 m 62 ls [.int (nI g)]) (by rw [show nI ((100 * g + q) / 100) = nI g from (by congr 1; omega)]) ?_
            refine lv_iconst (v := 4) hK.1.1 hK.1.2.1 dL_isSo_62 (by decide) ?_
            refine lv_icmp_gt (tgt := 83) hK.1.1 hK.1.2.1 dL_isSo_63 (by decide) (fun c => absurd c (nI_nlt (a := 4) (b := g) (by omega) (by decide))) (fun _ => ?_)
            refine lv_iload hK.1.1 hK.1.2.1 dL_isSo_66 (lv_at hl 0 rfl) ?_
            refine lv_bipush (v := 100) hK.1.1 hK.1.2.1 dL_isSo_68 (by decide) ?_
            refine lv_irem hK.1.1 hK.1.2.1 dL_isSo_70 (by decide) ?_
            refine W.eq (g2 := F0 m 71 ls [.int (nI ((100 * g + q) % 100))]) (by rw [show (nI (100 * g + q)) - (nI (100 * g + q)) / 100 * 100 = nI ((100 * g + q) % 100) from pk_rem (by omega) (by decide) (by decide)]) ?_
            refine W.eq (g2 := F0 m 71 ls [.int (nI q)]) (by rw [show nI ((100 * g + q) % 100) = nI q from (by congr 1; omega)]) ?_
            refine lv_aload_n hK.1.1 hK.1.2.1 dL_isSo_71 rfl (lv_at hl 2 rfl) ?_
            refine lv_iload hK.1.1 hK.1.2.1 dL_isSo_72 (lv_at hl 0 rfl) ?_
            refine lv_bipush (v := 100) hK.1.1 hK.1.2.1 dL_isSo_74 (by decide) ?_
            refine lv_idiv hK.1.1 hK.1.2.1 dL_isSo_76 (by decide) ?_
            refine W.eq (g2 := F0 m 77 ls [.int (nI ((100 * g + q) / 100)), .ref (ly_a y 0), .int (nI q)]) (by rw [show (nI (100 * g + q)) / 100 = nI ((100 * g + q) / 100) from pk_div (by omega) (by decide) (by decide)]) ?_
            refine W.eq (g2 := F0 m 77 ls [.int (nI g), .ref (ly_a y 0), .int (nI q)]) (by rw [show nI ((100 * g + q) / 100) = nI g from (by congr 1; omega)]) ?_
            refine gk_callSW (n := 2) (As := [.ref (ly_a y 0), .int (nI g)]) (rest := [.int (nI q)]) hK (c0_L_olds l hfl hR (f := g) g5) (gk_gS q_16_10 q_16_11 q_10_12 q_16_12) ⟨by decide +kernel, by decide +kernel, by decide +kernel⟩ ⟨(Nat.le_of_ble_eq_true rfl), (Nat.le_of_ble_eq_true rfl)⟩ hP hS rfl hl.1 rfl (Nat.le_of_ble_eq_true rfl) dL_isSo_77 ⟨(Nat.le_of_ble_eq_true rfl), (Nat.le_of_ble_eq_true rfl)⟩ (fun v G1 H locs hw hP hS => ?_)
            obtain ⟨rfl, hG9⟩ := hw
            rw [hG9] at hP
            refine W.eq (g2 := F0 m 80 ls [.int (nI (S.2.2.2.2.1 g).length), .int (nI q)]) rfl ?_
            refine lv_icmp_le (tgt := 85) hK.1.1 hK.1.2.1 dL_isSo_80 (by decide) (fun _ => ?_) (fun c => absurd (nI_le q1 (by have := iv_len hI hN g g5; omega)) c)
            refine lv_iinc (v := nI (n + 1)) (lv' := [(4, .int (nI (n + 1))), (5, .int (nI (100 * g + q))), (0, .ref (ly_a y 0)), (1, .ref ar), (2, .ref af), (3, .ref ac)]) hK.1.1 hK.1.2.1 dL_isSo_85 hl (k := 1) rfl (nI_1 n) (by decide) rfl (fun ls hl => ?_)
            refine lv_goto (tgt := 32) hK.1.1 hK.1.2.1 dL_isSo_88 (by decide) ?_
            exact ih2 (4 - (n + 1)) (by omega) (n + 1) ls _ _ rfl (by omega) hP hS (lv_sub hl [0, 2, 3, 4, 5] rfl)
      exact loop2 _ 0 ls _ _ rfl (by omega) hP hS (lv_sub hl [0, 1, 2, 3, 4] rfl)
    · have hk5 : k < 5 := Nat.lt_of_not_le (fun h => c6_1 (nI_le (a := 5) h (by omega)))
      refine lv_aload_n hK.1.1 hK.1.2.1 dL_isSo_9 rfl (lv_at hl 1 rfl) ?_
      refine lv_aload_n hK.1.1 hK.1.2.1 dL_isSo_10 rfl (lv_at hl 2 rfl) ?_
      refine lv_aload_n hK.1.1 hK.1.2.1 dL_isSo_11 rfl (lv_at hl 3 rfl) ?_
      refine lv_aload_n hK.1.1 hK.1.2.1 dL_isSo_12 rfl (lv_at hl 4 rfl) ?_
      refine lv_iload hK.1.1 hK.1.2.1 dL_isSo_13 (lv_at hl 0 rfl) ?_
      refine gk_callS0 (n := 5) (As := [.ref (ly_a y 0), .ref ar, .ref af, .ref ac, .int (nI k)]) (rest := []) hK (c_L_file l hfl hR hI hN hra hfa hlr hlf hca hcc (f := k) hk5) (gk_gS q_18_13 q_18_14 q_10_12 q_18_15) ⟨by decide +kernel, by decide +kernel, by decide +kernel⟩ ⟨(Nat.le_of_ble_eq_true rfl), (Nat.le_of_ble_eq_true rfl)⟩ hP hS rfl hl.1 rfl (Nat.le_of_ble_eq_true rfl) dL_isSo_15 ⟨(by show (48 * k) + 48 ≤ 336; omega), (by show (384 * k) + 384 ≤ 2688; omega)⟩ (fun v G1 H locs hw hP hS => ?_)
      obtain ⟨rfl, hG9⟩ := hw
      rw [hG9] at hP
      refine W.eq (g2 := F0 m 18 ls [.int 1]) rfl ?_
      refine lv_if_ne (tgt := 23) hK.1.1 hK.1.2.1 dL_isSo_18 (by decide) (fun _ => ?_) (fun c => absurd c (by decide))
      refine lv_iinc (v := nI (k + 1)) (lv' := [(4, .int (nI (k + 1))), (0, .ref (ly_a y 0)), (1, .ref ar), (2, .ref af), (3, .ref ac)]) hK.1.1 hK.1.2.1 dL_isSo_23 hl (k := 0) rfl (nI_1 k) (by decide) rfl (fun ls hl => ?_)
      refine lv_goto (tgt := 3) hK.1.1 hK.1.2.1 dL_isSo_26 (by decide) ?_
      refine W.widen (show ((48 * k) + 48) ≤ 48 * (k + 1) by omega) (show ((384 * k) + 384) ≤ 384 * (k + 1) by omega) ?_
      exact ih (5 - (k + 1)) (by omega) (k + 1) ls _ _ rfl (by omega) hP hS (lv_sub hl [0, 1, 2, 3, 4] rfl)
  exact loop _ 0 ls _ _ rfl (by omega) hP hS (lv_sub hl [0, 1, 2, 3, 4] rfl)
set_option maxHeartbeats 4000000 in
set_option maxRecDepth 100000 in
theorem c_L_isTurned (l : Launch) {y : ly_T} {A : Nat → Prop} {G : gk_G} {ed N : Nat} {td : Int32} {ru : Nat → Nat → Int32} {fr : Nat → Nat} {hf hp : Nat → Option Nat} {S : ts_T} {tt : Nat → Int32} {fi : Nat → Nat} (hfl : l.stackTraces = false) (hR : rq y G td ru fr hf S hp) (hI : iv ed N td ru fr hf S hp tt fi) (hN : N ≤ 111) {ar af : Nat} {rr ff : Nat → Int32} (hra : G ar = some (rp_i (ly_k y 0) 27 rr)) (hfa : G af = some (rp_i (ly_k y 0) 20 ff)) (hlr : lr rr ru) {ah : Nat} {hd : Nat → Int32} (hha : G ah = some (rp_i (ly_k y 0) 1 hd)) {f : Nat} (f5 : f < 5) (hf0 : ff (4 * f) = nI (fr f)) (hlive : S.2.2.2.2.2.2 0 (S.1 f) = 0) (hsq9 : hd 0 = 0 → ¬ ru (fr f) 7 = 0 → ∀ n t : Nat, (S.2.2.2.2.1 f)[n]? = some t → n + 1 ≠ (S.2.2.2.2.1 f).length → S.2.2.2.2.2.2 2 t = 0 → t_held hp t = true) (hdt9 : hd 0 = 0 → ∀ n t : Nat, (S.2.2.2.2.1 f)[n]? = some t → t_held hp t = false → ¬ td - S.2.2.2.2.2.2 1 t < ru (fr f) 4 → ¬ ru (fr f) 5 < nI (S.2.2.2.2.1 f).length ∧ ¬ (¬ ru (fr f) 6 = 0 ∧ ru (fr f) 6 < td - S.2.2.2.2.2.2 1 t)) (hhd : hd 0 = 0 ∨ hd 0 = 1) : gk_M0 l yL_isTurned (Cond.code yL_isTurned cL_isTurned 11 (some .boolean)) 7 260 0 0 y A [.ref (ly_a y 0), .ref ar, .ref af, .int (nI f), .ref ah] G (fun v G1 => v = some (.int 1) ∧ G1 = G) := by
  refine gk_of0 (cc := cL_isTurned) (maxL := 11) (ret := (some .boolean)) (own := RL) (by decide +kernel) rfl rfl (Nat.le_of_ble_eq_true rfl) ?_
  intro p e s m below meth c ls hK hret hlk _ hP hS hl
  have hl : lv_has ls 11 [(0, .ref (ly_a y 0)), (1, .ref ar), (2, .ref af), (3, .int (nI f)), (4, .ref ah)] := hl
  obtain ⟨hf3, -, -⟩ := hI.2.2.1 f f5
  have hle := iv_len hI hN f f5
  obtain ⟨⟨-, -, -, g4⟩, -, g6, g7, g8, -⟩ := hI.2.1 (fr f) hf3
  refine lv_bipush (v := 9) hK.1.1 hK.1.2.1 dL_isTurned_0 (by decide) ?_
  refine lv_aload_n hK.1.1 hK.1.2.1 dL_isTurned_2 rfl (lv_at hl 2 rfl) ?_
  refine lv_iconst (v := 4) hK.1.1 hK.1.2.1 dL_isTurned_3 (by decide) ?_
  refine lv_iload_n hK.1.1 hK.1.2.1 dL_isTurned_4 rfl (lv_at hl 3 rfl) ?_
  refine lv_imul hK.1.1 hK.1.2.1 dL_isTurned_5 ?_
  refine W.eq (g2 := F0 m 6 ls [.int (nI (4 * f)), .ref af, .int 9]) (by rw [show 4 * (nI f) = nI (4 * f) from pk_mul _ _]) ?_
  refine gk_iald hK.1 hK.2.2.1.1 hP 0 hfa rfl (i := nI (4 * f)) (vp_in_nI (n := 4 * f) (N := 20) (by omega) (by decide)) dL_isTurned_6 ?_
  refine W.eq (g2 := F0 m 7 ls [.int (nI (fr f)), .int 9]) (by rw [show ff (nI (4 * f)).toNatClampNeg = nI (fr f) from by rw [show (nI (4 * f) : Int32).toNatClampNeg = 4 * f from nI_clamp (n := 4 * f) (by omega)]; exact hf0]) ?_
  refine lv_imul hK.1.1 hK.1.2.1 dL_isTurned_7 ?_
  refine W.eq (g2 := F0 m 8 ls [.int (nI (9 * (fr f)))]) (by rw [show 9 * (nI (fr f)) = nI (9 * (fr f)) from pk_mul _ _]) ?_
  refine lv_istore (lv' := [(5, .int (nI (9 * (fr f)))), (0, .ref (ly_a y 0)), (1, .ref ar), (2, .ref af), (3, .int (nI f)), (4, .ref ah)]) hK.1.1 hK.1.2.1 dL_isTurned_8 hl (by decide) rfl (fun ls hl => ?_)
  refine lv_aload_n hK.1.1 hK.1.2.1 dL_isTurned_10 rfl (lv_at hl 1 rfl) ?_
  refine lv_iload_n hK.1.1 hK.1.2.1 dL_isTurned_11 rfl (lv_at hl 4 rfl) ?_
  refine gk_callSW (n := 2) (As := [.ref (ly_a y 0), .int (nI f)]) (rest := []) hK (c0_L_olds l hfl hR (f := f) f5) (gk_gS q_16_10 q_16_11 q_10_12 q_16_12) ⟨by decide +kernel, by decide +kernel, by decide +kernel⟩ ⟨(Nat.le_of_ble_eq_true rfl), (Nat.le_of_ble_eq_true rfl)⟩ hP hS rfl hl.1 rfl (Nat.le_of_ble_eq_true rfl) dL_isTurned_12 ⟨(Nat.le_of_ble_eq_true rfl), (Nat.le_of_ble_eq_true rfl)⟩ (fun v G1 H locs hw hP hS => ?_)
  obtain ⟨rfl, hG9⟩ := hw
  rw [hG9] at hP
  refine W.eq (g2 := F0 m 15 ls [.int (nI (S.2.2.2.2.1 f).length)]) rfl ?_
  refine lv_istore (lv' := [(6, .int (nI (S.2.2.2.2.1 f).length)), (5, .int (nI (9 * (fr f)))), (0, .ref (ly_a y 0)), (1, .ref ar), (2, .ref af), (3, .int (nI f)), (4, .ref ah)]) hK.1.1 hK.1.2.1 dL_isTurned_15 hl (by decide) rfl (fun ls hl => ?_)
  refine lv_iconst (v := 0) hK.1.1 hK.1.2.1 dL_isTurned_17 (by decide) ?_
  refine lv_istore (lv' := [(7, .int 0), (6, .int (nI (S.2.2.2.2.1 f).length)), (5, .int (nI (9 * (fr f)))), (0, .ref (ly_a y 0)), (1, .ref ar), (2, .ref af), (3, .int (nI f)), (4, .ref ah)]) hK.1.1 hK.1.2.1 dL_isTurned_18 hl (by decide) rfl (fun ls hl => ?_)
  have loop : ∀ (dd n : Nat) (ls : Array Slot) (H : Heap) (locs : List Loc), (S.2.2.2.2.1 f).length - n = dd → n ≤ (S.2.2.2.2.1 f).length → gk_P (ly_D y) A G H → va_S A s.heap H locs → lv_has ls 11 [(7, .int (nI n)), (0, .ref (ly_a y 0)), (1, .ref ar), (2, .ref af), (3, .int (nI f)), (4, .ref ah), (5, .int (nI (9 * fr f))), (6, .int (nI (S.2.2.2.2.1 f).length))] → W p l e { frames := 7, cells := 0, slots := 0, locals := 260 } s m [.ref (ly_a y 0), .ref ar, .ref af, .int (nI f), .ref ah].toArray below meth c H locs 0 0 (MQ below (gk_Q y A (fun v G1 => v = some (.int 1) ∧ G1 = G)) [.ref (ly_a y 0), .ref ar, .ref af, .int (nI f), .ref ah].toArray s 0 0 A) (F0 m 20 ls []) := by
    intro dd
    induction dd using Nat.strongRecOn with
    | _ dd ih =>
    intro n ls H locs hdd hn hP hS hl
    refine lv_iload hK.1.1 hK.1.2.1 dL_isTurned_20 (lv_at hl 0 rfl) ?_
    refine lv_iload hK.1.1 hK.1.2.1 dL_isTurned_22 (lv_at hl 7 rfl) ?_
    refine lv_icmp_ge (tgt := 210) hK.1.1 hK.1.2.1 dL_isTurned_24 (by decide) (fun c24_1 => ?_) (fun c24_1 => ?_)
    · refine lv_aload_n hK.1.1 hK.1.2.1 dL_isTurned_210 rfl (lv_at hl 1 rfl) ?_
      refine lv_iload_n hK.1.1 hK.1.2.1 dL_isTurned_211 rfl (lv_at hl 4 rfl) ?_
      refine gk_callSW (n := 2) (As := [.ref (ly_a y 0), .int (nI f)]) (rest := []) hK (c0_L_live l hfl hR (f := f) f5 (iv_Ll hI)) (gk_gS q_15_4 q_15_5 q_10_12 q_15_6) ⟨by decide +kernel, by decide +kernel, by decide +kernel⟩ ⟨(Nat.le_of_ble_eq_true rfl), (Nat.le_of_ble_eq_true rfl)⟩ hP hS rfl hl.1 rfl (Nat.le_of_ble_eq_true rfl) dL_isTurned_212 ⟨(Nat.le_of_ble_eq_true rfl), (Nat.le_of_ble_eq_true rfl)⟩ (fun v G1 H locs hw hP hS => ?_)
      obtain ⟨rfl, hG9⟩ := hw
      rw [hG9] at hP
      refine W.eq (g2 := F0 m 215 ls [.int (S.2.2.2.2.2.2 0 (S.1 f))]) rfl ?_
      refine lv_if_ne (tgt := 239) hK.1.1 hK.1.2.1 dL_isTurned_215 (by decide) (fun c => absurd hlive c) (fun _ => ?_)
      refine lv_iload hK.1.1 hK.1.2.1 dL_isTurned_218 (lv_at hl 7 rfl) ?_
      refine lv_if_eq (tgt := 235) hK.1.1 hK.1.2.1 dL_isTurned_220 (by decide) (fun c220_2 => ?_) (fun c220_2 => ?_)
      · refine lv_iconst (v := 1) hK.1.1 hK.1.2.1 dL_isTurned_235 (by decide) ?_
        refine lv_goto (tgt := 240) hK.1.1 hK.1.2.1 dL_isTurned_236 (by decide) ?_
        exact gk_zret0 hK.1 hret (by first | decide | exact (rp_nz (by first | assumption | (simp; done))).1) hlk hP hS (Nat.le_of_ble_eq_true rfl) (Nat.le_of_ble_eq_true rfl) dL_isTurned_240 ⟨rfl, rfl⟩
      · have hl0 : (S.2.2.2.2.1 f).length ≠ 0 := fun q => c220_2 (by rw [q]; rfl)
        obtain ⟨t, htk⟩ : ∃ t, (S.2.2.2.2.1 f)[(S.2.2.2.2.1 f).length - 1]? = some t := ⟨_, List.getElem?_eq_getElem (by omega)⟩
        obtain ⟨n8, hn8, hct⟩ := iv_ct hI (iv_in5 hI f f5 t (List.mem_of_getElem? htk))
        refine lv_aload_n hK.1.1 hK.1.2.1 dL_isTurned_223 rfl (lv_at hl 1 rfl) ?_
        refine lv_iload_n hK.1.1 hK.1.2.1 dL_isTurned_224 rfl (lv_at hl 4 rfl) ?_
        refine lv_iload hK.1.1 hK.1.2.1 dL_isTurned_225 (lv_at hl 7 rfl) ?_
        refine lv_iconst (v := 1) hK.1.1 hK.1.2.1 dL_isTurned_227 (by decide) ?_
        refine lv_isub hK.1.1 hK.1.2.1 dL_isTurned_228 ?_
        refine W.eq (g2 := F0 m 229 ls [.int (nI ((S.2.2.2.2.1 f).length - 1)), .int (nI f), .ref (ly_a y 0)]) (by rw [show (nI (S.2.2.2.2.1 f).length) - 1 = nI ((S.2.2.2.2.1 f).length - 1) from pk_sub (b := 1) (by omega)]) ?_
        refine gk_callSW (n := 3) (As := [.ref (ly_a y 0), .int (nI f), .int (nI ((S.2.2.2.2.1 f).length - 1))]) (rest := []) hK (c0_L_lines l hfl hR (f := f) f5 htk (iv_in5 hI)) (gk_gS q_15_11 q_15_12 q_10_12 q_15_13) ⟨by decide +kernel, by decide +kernel, by decide +kernel⟩ ⟨(Nat.le_of_ble_eq_true rfl), (Nat.le_of_ble_eq_true rfl)⟩ hP hS rfl hl.1 rfl (Nat.le_of_ble_eq_true rfl) dL_isTurned_229 ⟨(Nat.le_of_ble_eq_true rfl), (Nat.le_of_ble_eq_true rfl)⟩ (fun v G1 H locs hw hP hS => ?_)
        obtain ⟨rfl, hG9⟩ := hw
        rw [hG9] at hP
        refine W.eq (g2 := F0 m 232 ls [.int (S.2.2.2.2.2.2 0 t)]) rfl ?_
        refine lv_if_lt (tgt := 239) hK.1.1 hK.1.2.1 dL_isTurned_232 (by decide) (fun c => absurd c (by rw [hct]; exact nI_pos (by omega))) (fun _ => ?_)
        refine lv_iconst (v := 1) hK.1.1 hK.1.2.1 dL_isTurned_235 (by decide) ?_
        refine lv_goto (tgt := 240) hK.1.1 hK.1.2.1 dL_isTurned_236 (by decide) ?_
        exact gk_zret0 hK.1 hret (by first | decide | exact (rp_nz (by first | assumption | (simp; done))).1) hlk hP hS (Nat.le_of_ble_eq_true rfl) (Nat.le_of_ble_eq_true rfl) dL_isTurned_240 ⟨rfl, rfl⟩
    · have hn4 : n < (S.2.2.2.2.1 f).length := Nat.lt_of_not_le (fun h => c24_1 (nI_le h (by omega)))
      obtain ⟨t, htk⟩ : ∃ t, (S.2.2.2.2.1 f)[n]? = some t := ⟨_, List.getElem?_eq_getElem hn4⟩
      have hs2 := iv_sq hI t (iv_in5 hI f f5 t (List.mem_of_getElem? htk))
      have J204 : ∀ (ls : Array Slot) (H : Heap) (locs : List Loc), gk_P (ly_D y) A G H → va_S A s.heap H locs → lv_has ls 11 [(7, .int (nI n)), (0, .ref (ly_a y 0)), (1, .ref ar), (2, .ref af), (3, .int (nI f)), (4, .ref ah), (5, .int (nI (9 * fr f))), (6, .int (nI (S.2.2.2.2.1 f).length))] → W p l e { frames := 7, cells := 0, slots := 0, locals := 260 } s m [.ref (ly_a y 0), .ref ar, .ref af, .int (nI f), .ref ah].toArray below meth c H locs 0 0 (MQ below (gk_Q y A (fun v G1 => v = some (.int 1) ∧ G1 = G)) [.ref (ly_a y 0), .ref ar, .ref af, .int (nI f), .ref ah].toArray s 0 0 A) (F0 m 204 ls []) := by
        intro ls H locs hP hS hl
        refine lv_iinc (v := nI (n + 1)) (lv' := [(7, .int (nI (n + 1))), (0, .ref (ly_a y 0)), (1, .ref ar), (2, .ref af), (3, .int (nI f)), (4, .ref ah), (5, .int (nI (9 * fr f))), (6, .int (nI (S.2.2.2.2.1 f).length))]) hK.1.1 hK.1.2.1 dL_isTurned_204 hl (k := 0) rfl (nI_1 n) (by decide) rfl (fun ls hl => ?_)
        refine lv_goto (tgt := 20) hK.1.1 hK.1.2.1 dL_isTurned_207 (by decide) ?_
        exact ih ((S.2.2.2.2.1 f).length - (n + 1)) (by omega) (n + 1) ls _ _ rfl (by omega) hP hS (lv_sub hl [0, 1, 2, 3, 4, 5, 6, 7] rfl)
      have J101 : ∀ (wa : Int32), (wa = 0 → hd 0 = 0) → ∀ (ls : Array Slot) (H : Heap) (locs : List Loc), gk_P (ly_D y) A G H → va_S A s.heap H locs → lv_has ls 11 [(9, .int wa), (7, .int (nI n)), (0, .ref (ly_a y 0)), (1, .ref ar), (2, .ref af), (3, .int (nI f)), (4, .ref ah), (5, .int (nI (9 * fr f))), (6, .int (nI (S.2.2.2.2.1 f).length))] → W p l e { frames := 7, cells := 0, slots := 0, locals := 260 } s m [.ref (ly_a y 0), .ref ar, .ref af, .int (nI f), .ref ah].toArray below meth c H locs 0 0 (MQ below (gk_Q y A (fun v G1 => v = some (.int 1) ∧ G1 = G)) [.ref (ly_a y 0), .ref ar, .ref af, .int (nI f), .ref ah].toArray s 0 0 A) (F0 m 101 ls []) := by
        intro wa hwa ls H locs hP hS hl
        refine lv_aload_n hK.1.1 hK.1.2.1 dL_isTurned_101 rfl (lv_at hl 3 rfl) ?_
        refine lv_iload hK.1.1 hK.1.2.1 dL_isTurned_102 (lv_at hl 7 rfl) ?_
        refine lv_bipush (v := 7) hK.1.1 hK.1.2.1 dL_isTurned_104 (by decide) ?_
        refine lv_iadd hK.1.1 hK.1.2.1 dL_isTurned_106 ?_
        refine W.eq (g2 := F0 m 107 ls [.int (nI ((9 * fr f) + 7)), .ref ar]) (by rw [show (nI (9 * fr f)) + 7 = nI ((9 * fr f) + 7) from nI_add _ _]) ?_
        refine gk_iald hK.1 hK.2.2.1.1 hP 0 hra rfl (i := nI ((9 * fr f) + 7)) (vp_in_nI (n := (9 * fr f) + 7) (N := 27) (by omega) (by decide)) dL_isTurned_107 ?_
        refine W.eq (g2 := F0 m 108 ls [.int (ru (fr f) 8)]) (by rw [show rr (nI ((9 * fr f) + 7)).toNatClampNeg = ru (fr f) 8 from by rw [show (nI ((9 * fr f) + 7) : Int32).toNatClampNeg = (9 * fr f) + 7 from nI_clamp (n := (9 * fr f) + 7) (by omega)]; exact (show rr ((9 * fr f) + 7) = ru (fr f) 8 from hlr _ (hI.2.2.1 f f5).1 7 (by decide))]) ?_
        refine lv_iconst (v := 1) hK.1.1 hK.1.2.1 dL_isTurned_108 (by decide) ?_
        refine lv_icmp_ne (tgt := 131) hK.1.1 hK.1.2.1 dL_isTurned_109 (by decide) (fun c109_3 => ?_) (fun c109_3 => ?_)
        · refine lv_iconst (v := (-1)) hK.1.1 hK.1.2.1 dL_isTurned_131 (by decide) ?_
          refine lv_istore (lv' := [(10, .int (-1)), (9, .int wa), (7, .int (nI n)), (0, .ref (ly_a y 0)), (1, .ref ar), (2, .ref af), (3, .int (nI f)), (4, .ref ah), (5, .int (nI (9 * fr f))), (6, .int (nI (S.2.2.2.2.1 f).length))]) hK.1.1 hK.1.2.1 dL_isTurned_132 hl (by decide) rfl (fun ls hl => ?_)
          refine lv_aload_n hK.1.1 hK.1.2.1 dL_isTurned_134 rfl (lv_at hl 4 rfl) ?_
          refine lv_iload hK.1.1 hK.1.2.1 dL_isTurned_135 (lv_at hl 8 rfl) ?_
          refine lv_bipush (v := 7) hK.1.1 hK.1.2.1 dL_isTurned_137 (by decide) ?_
          refine lv_iadd hK.1.1 hK.1.2.1 dL_isTurned_139 ?_
          refine W.eq (g2 := F0 m 140 ls [.int (nI ((9 * fr f) + 7)), .ref ar]) (by rw [show (nI (9 * fr f)) + 7 = nI ((9 * fr f) + 7) from nI_add _ _]) ?_
          refine gk_iald hK.1 hK.2.2.1.1 hP 0 hra rfl (i := nI ((9 * fr f) + 7)) (vp_in_nI (n := (9 * fr f) + 7) (N := 27) (by omega) (by decide)) dL_isTurned_140 ?_
          refine W.eq (g2 := F0 m 141 ls [.int (ru (fr f) 8)]) (by rw [show rr (nI ((9 * fr f) + 7)).toNatClampNeg = ru (fr f) 8 from by rw [show (nI ((9 * fr f) + 7) : Int32).toNatClampNeg = (9 * fr f) + 7 from nI_clamp (n := (9 * fr f) + 7) (by omega)]; exact (show rr ((9 * fr f) + 7) = ru (fr f) 8 from hlr _ (hI.2.2.1 f f5).1 7 (by decide))]) ?_
          refine lv_iconst (v := 1) hK.1.1 hK.1.2.1 dL_isTurned_141 (by decide) ?_
          refine lv_icmp_ne (tgt := 204) hK.1.1 hK.1.2.1 dL_isTurned_142 (by decide) (fun _ => ?_) (fun c => absurd c c109_3)
          exact J204 ls _ _ hP hS (lv_sub hl [2, 3, 4, 5, 6, 7, 8, 9] rfl)
        · refine lv_aload_n hK.1.1 hK.1.2.1 dL_isTurned_112 rfl (lv_at hl 2 rfl) ?_
          refine gk_callV0 (n := 0) (As := []) (rest := []) hK (c_X4_day l hR) (gk_gV q_3_18 q_3_19 q_3_20 q_1_2 q_3_21) ⟨rfl, by decide +kernel, by decide +kernel, by decide +kernel⟩ ⟨(Nat.le_of_ble_eq_true rfl), (Nat.le_of_ble_eq_true rfl)⟩ hP hS (gk_recv hK.2.2.1.1 hP hR.1 rfl) rfl hl.1 rfl (Nat.le_of_ble_eq_true rfl) dL_isTurned_113 ⟨(Nat.le_of_ble_eq_true rfl), (Nat.le_of_ble_eq_true rfl)⟩ (fun v G1 H locs hw hP hS => ?_)
          obtain ⟨rfl, hG9⟩ := hw
          rw [hG9] at hP
          refine W.eq (g2 := F0 m 116 ls [.int td]) rfl ?_
          refine lv_aload_n hK.1.1 hK.1.2.1 dL_isTurned_116 rfl (lv_at hl 2 rfl) ?_
          refine lv_iload_n hK.1.1 hK.1.2.1 dL_isTurned_117 rfl (lv_at hl 5 rfl) ?_
          refine lv_iload hK.1.1 hK.1.2.1 dL_isTurned_118 (lv_at hl 1 rfl) ?_
          refine gk_callSW (n := 3) (As := [.ref (ly_a y 0), .int (nI f), .int (nI n)]) (rest := [.int td]) hK (c0_L_name l hfl hR (f := f) f5 htk (iv_in5 hI)) (gk_gS q_11_5 q_11_6 q_10_12 q_11_7) ⟨by decide +kernel, by decide +kernel, by decide +kernel⟩ ⟨(Nat.le_of_ble_eq_true rfl), (Nat.le_of_ble_eq_true rfl)⟩ hP hS rfl hl.1 rfl (Nat.le_of_ble_eq_true rfl) dL_isTurned_120 ⟨(Nat.le_of_ble_eq_true rfl), (Nat.le_of_ble_eq_true rfl)⟩ (fun v G1 H locs hw hP hS => ?_)
          obtain ⟨rfl, hG9⟩ := hw
          rw [hG9] at hP
          refine W.eq (g2 := F0 m 123 ls [.int (nmv ru fr S.2.2.2.2.1 S.2.2.2.2.2.2 f n t), .int td]) rfl ?_
          refine lv_sipush (v := 1000) hK.1.1 hK.1.2.1 dL_isTurned_123 (by decide) ?_
          refine lv_idiv hK.1.1 hK.1.2.1 dL_isTurned_126 (by decide) ?_
          refine W.eq (g2 := F0 m 127 ls [.int (S.2.2.2.2.2.2 1 t), .int td]) (by rw [show (nmv ru fr S.2.2.2.2.1 S.2.2.2.2.2.2 f n t) / 1000 = S.2.2.2.2.2.2 1 t from (iv_day hI hN f5 htk (by rw [c109_3]; decide)).1]) ?_
          refine lv_isub hK.1.1 hK.1.2.1 dL_isTurned_127 ?_
          refine lv_goto (tgt := 132) hK.1.1 hK.1.2.1 dL_isTurned_128 (by decide) ?_
          refine lv_istore (lv' := [(10, .int (td - (S.2.2.2.2.2.2 1 t))), (9, .int wa), (7, .int (nI n)), (0, .ref (ly_a y 0)), (1, .ref ar), (2, .ref af), (3, .int (nI f)), (4, .ref ah), (5, .int (nI (9 * fr f))), (6, .int (nI (S.2.2.2.2.1 f).length))]) hK.1.1 hK.1.2.1 dL_isTurned_132 hl (by decide) rfl (fun ls hl => ?_)
          refine lv_aload_n hK.1.1 hK.1.2.1 dL_isTurned_134 rfl (lv_at hl 4 rfl) ?_
          refine lv_iload hK.1.1 hK.1.2.1 dL_isTurned_135 (lv_at hl 8 rfl) ?_
          refine lv_bipush (v := 7) hK.1.1 hK.1.2.1 dL_isTurned_137 (by decide) ?_
          refine lv_iadd hK.1.1 hK.1.2.1 dL_isTurned_139 ?_
          refine W.eq (g2 := F0 m 140 ls [.int (nI ((9 * fr f) + 7)), .ref ar]) (by rw [show (nI (9 * fr f)) + 7 = nI ((9 * fr f) + 7) from nI_add _ _]) ?_
          refine gk_iald hK.1 hK.2.2.1.1 hP 0 hra rfl (i := nI ((9 * fr f) + 7)) (vp_in_nI (n := (9 * fr f) + 7) (N := 27) (by omega) (by decide)) dL_isTurned_140 ?_
          refine W.eq (g2 := F0 m 141 ls [.int (ru (fr f) 8)]) (by rw [show rr (nI ((9 * fr f) + 7)).toNatClampNeg = ru (fr f) 8 from by rw [show (nI ((9 * fr f) + 7) : Int32).toNatClampNeg = (9 * fr f) + 7 from nI_clamp (n := (9 * fr f) + 7) (by omega)]; exact (show rr ((9 * fr f) + 7) = ru (fr f) 8 from hlr _ (hI.2.2.1 f f5).1 7 (by decide))]) ?_
          refine lv_iconst (v := 1) hK.1.1 hK.1.2.1 dL_isTurned_141 (by decide) ?_
          refine lv_icmp_ne (tgt := 204) hK.1.1 hK.1.2.1 dL_isTurned_142 (by decide) (fun c => absurd c109_3 c) (fun _ => ?_)
          refine lv_aload_n hK.1.1 hK.1.2.1 dL_isTurned_145 rfl (lv_at hl 3 rfl) ?_
          refine lv_iload_n hK.1.1 hK.1.2.1 dL_isTurned_146 rfl (lv_at hl 6 rfl) ?_
          refine lv_iload hK.1.1 hK.1.2.1 dL_isTurned_147 (lv_at hl 2 rfl) ?_
          refine gk_callS0 (n := 3) (As := [.ref (ly_a y 0), .int (nI f), .int (nI n)]) (rest := []) hK (c_L_isHeld l hfl hR hI hN (f := f) f5 htk) (gk_gS q_17_0 q_17_1 q_10_12 q_17_2) ⟨by decide +kernel, by decide +kernel, by decide +kernel⟩ ⟨(Nat.le_of_ble_eq_true rfl), (Nat.le_of_ble_eq_true rfl)⟩ hP hS rfl hl.1 rfl (Nat.le_of_ble_eq_true rfl) dL_isTurned_149 ⟨(Nat.le_of_ble_eq_true rfl), (Nat.le_of_ble_eq_true rfl)⟩ (fun v G1 H locs hw hP hS => ?_)
          obtain ⟨rfl, hG9⟩ := hw
          rw [hG9] at hP
          refine W.eq (g2 := F0 m 152 ls [.int (rg_b (t_held hp t))]) rfl ?_
          refine lv_if_ne (tgt := 204) hK.1.1 hK.1.2.1 dL_isTurned_152 (by decide) (fun c152_4 => ?_) (fun c152_4 => ?_)
          · exact J204 ls _ _ hP hS (lv_sub hl [2, 3, 4, 5, 6, 7, 8, 9] rfl)
          · refine lv_iload hK.1.1 hK.1.2.1 dL_isTurned_155 (lv_at hl 1 rfl) ?_
            refine lv_if_ne (tgt := 204) hK.1.1 hK.1.2.1 dL_isTurned_157 (by decide) (fun c157_5 => ?_) (fun c157_5 => ?_)
            · exact J204 ls _ _ hP hS (lv_sub hl [2, 3, 4, 5, 6, 7, 8, 9] rfl)
            · refine lv_iload hK.1.1 hK.1.2.1 dL_isTurned_160 (lv_at hl 0 rfl) ?_
              refine lv_aload_n hK.1.1 hK.1.2.1 dL_isTurned_162 rfl (lv_at hl 4 rfl) ?_
              refine lv_iload hK.1.1 hK.1.2.1 dL_isTurned_163 (lv_at hl 8 rfl) ?_
              refine lv_iconst (v := 3) hK.1.1 hK.1.2.1 dL_isTurned_165 (by decide) ?_
              refine lv_iadd hK.1.1 hK.1.2.1 dL_isTurned_166 ?_
              refine W.eq (g2 := F0 m 167 ls [.int (nI ((9 * fr f) + 3)), .ref ar, .int (td - (S.2.2.2.2.2.2 1 t))]) (by rw [show (nI (9 * fr f)) + 3 = nI ((9 * fr f) + 3) from nI_add _ _]) ?_
              refine gk_iald hK.1 hK.2.2.1.1 hP 0 hra rfl (i := nI ((9 * fr f) + 3)) (vp_in_nI (n := (9 * fr f) + 3) (N := 27) (by omega) (by decide)) dL_isTurned_167 ?_
              refine W.eq (g2 := F0 m 168 ls [.int (ru (fr f) 4), .int (td - (S.2.2.2.2.2.2 1 t))]) (by rw [show rr (nI ((9 * fr f) + 3)).toNatClampNeg = ru (fr f) 4 from by rw [show (nI ((9 * fr f) + 3) : Int32).toNatClampNeg = (9 * fr f) + 3 from nI_clamp (n := (9 * fr f) + 3) (by omega)]; exact (show rr ((9 * fr f) + 3) = ru (fr f) 4 from hlr _ (hI.2.2.1 f f5).1 3 (by decide))]) ?_
              refine lv_icmp_lt (tgt := 204) hK.1.1 hK.1.2.1 dL_isTurned_168 (by decide) (fun c168_6 => ?_) (fun c168_6 => ?_)
              · exact J204 ls _ _ hP hS (lv_sub hl [2, 3, 4, 5, 6, 7, 8, 9] rfl)
              · refine lv_iload hK.1.1 hK.1.2.1 dL_isTurned_171 (lv_at hl 9 rfl) ?_
                refine lv_aload_n hK.1.1 hK.1.2.1 dL_isTurned_173 rfl (lv_at hl 4 rfl) ?_
                refine lv_iload hK.1.1 hK.1.2.1 dL_isTurned_174 (lv_at hl 8 rfl) ?_
                refine lv_iconst (v := 4) hK.1.1 hK.1.2.1 dL_isTurned_176 (by decide) ?_
                refine lv_iadd hK.1.1 hK.1.2.1 dL_isTurned_177 ?_
                refine W.eq (g2 := F0 m 178 ls [.int (nI ((9 * fr f) + 4)), .ref ar, .int (nI (S.2.2.2.2.1 f).length)]) (by rw [show (nI (9 * fr f)) + 4 = nI ((9 * fr f) + 4) from nI_add _ _]) ?_
                refine gk_iald hK.1 hK.2.2.1.1 hP 0 hra rfl (i := nI ((9 * fr f) + 4)) (vp_in_nI (n := (9 * fr f) + 4) (N := 27) (by omega) (by decide)) dL_isTurned_178 ?_
                refine W.eq (g2 := F0 m 179 ls [.int (ru (fr f) 5), .int (nI (S.2.2.2.2.1 f).length)]) (by rw [show rr (nI ((9 * fr f) + 4)).toNatClampNeg = ru (fr f) 5 from by rw [show (nI ((9 * fr f) + 4) : Int32).toNatClampNeg = (9 * fr f) + 4 from nI_clamp (n := (9 * fr f) + 4) (by omega)]; exact (show rr ((9 * fr f) + 4) = ru (fr f) 5 from hlr _ (hI.2.2.1 f f5).1 4 (by decide))]) ?_
                refine lv_icmp_gt (tgt := 202) hK.1.1 hK.1.2.1 dL_isTurned_179 (by decide) (fun c179_7 => ?_) (fun c179_7 => ?_)
                · exact absurd c179_7 (hdt9 (hwa c157_5) n t htk (rg_b0.mp c152_4) c168_6).1
                · refine lv_aload_n hK.1.1 hK.1.2.1 dL_isTurned_182 rfl (lv_at hl 4 rfl) ?_
                  refine lv_iload hK.1.1 hK.1.2.1 dL_isTurned_183 (lv_at hl 8 rfl) ?_
                  refine lv_iconst (v := 5) hK.1.1 hK.1.2.1 dL_isTurned_185 (by decide) ?_
                  refine lv_iadd hK.1.1 hK.1.2.1 dL_isTurned_186 ?_
                  refine W.eq (g2 := F0 m 187 ls [.int (nI ((9 * fr f) + 5)), .ref ar]) (by rw [show (nI (9 * fr f)) + 5 = nI ((9 * fr f) + 5) from nI_add _ _]) ?_
                  refine gk_iald hK.1 hK.2.2.1.1 hP 0 hra rfl (i := nI ((9 * fr f) + 5)) (vp_in_nI (n := (9 * fr f) + 5) (N := 27) (by omega) (by decide)) dL_isTurned_187 ?_
                  refine W.eq (g2 := F0 m 188 ls [.int (ru (fr f) 6)]) (by rw [show rr (nI ((9 * fr f) + 5)).toNatClampNeg = ru (fr f) 6 from by rw [show (nI ((9 * fr f) + 5) : Int32).toNatClampNeg = (9 * fr f) + 5 from nI_clamp (n := (9 * fr f) + 5) (by omega)]; exact (show rr ((9 * fr f) + 5) = ru (fr f) 6 from hlr _ (hI.2.2.1 f f5).1 5 (by decide))]) ?_
                  refine lv_if_le (tgt := 204) hK.1.1 hK.1.2.1 dL_isTurned_188 (by decide) (fun c188_8 => ?_) (fun c188_8 => ?_)
                  · exact J204 ls _ _ hP hS (lv_sub hl [2, 3, 4, 5, 6, 7, 8, 9] rfl)
                  · refine lv_iload hK.1.1 hK.1.2.1 dL_isTurned_191 (lv_at hl 0 rfl) ?_
                    refine lv_aload_n hK.1.1 hK.1.2.1 dL_isTurned_193 rfl (lv_at hl 4 rfl) ?_
                    refine lv_iload hK.1.1 hK.1.2.1 dL_isTurned_194 (lv_at hl 8 rfl) ?_
                    refine lv_iconst (v := 5) hK.1.1 hK.1.2.1 dL_isTurned_196 (by decide) ?_
                    refine lv_iadd hK.1.1 hK.1.2.1 dL_isTurned_197 ?_
                    refine W.eq (g2 := F0 m 198 ls [.int (nI ((9 * fr f) + 5)), .ref ar, .int (td - (S.2.2.2.2.2.2 1 t))]) (by rw [show (nI (9 * fr f)) + 5 = nI ((9 * fr f) + 5) from nI_add _ _]) ?_
                    refine gk_iald hK.1 hK.2.2.1.1 hP 0 hra rfl (i := nI ((9 * fr f) + 5)) (vp_in_nI (n := (9 * fr f) + 5) (N := 27) (by omega) (by decide)) dL_isTurned_198 ?_
                    refine W.eq (g2 := F0 m 199 ls [.int (ru (fr f) 6), .int (td - (S.2.2.2.2.2.2 1 t))]) (by rw [show rr (nI ((9 * fr f) + 5)).toNatClampNeg = ru (fr f) 6 from by rw [show (nI ((9 * fr f) + 5) : Int32).toNatClampNeg = (9 * fr f) + 5 from nI_clamp (n := (9 * fr f) + 5) (by omega)]; exact (show rr ((9 * fr f) + 5) = ru (fr f) 6 from hlr _ (hI.2.2.1 f f5).1 5 (by decide))]) ?_
                    refine lv_icmp_le (tgt := 204) hK.1.1 hK.1.2.1 dL_isTurned_199 (by decide) (fun c199_9 => ?_) (fun c199_9 => ?_)
                    · exact J204 ls _ _ hP hS (lv_sub hl [2, 3, 4, 5, 6, 7, 8, 9] rfl)
                    · exact absurd ⟨fun q => c188_8 (by rw [q]; decide), Int32.not_le.mp c199_9⟩ (hdt9 (hwa c157_5) n t htk (rg_b0.mp c152_4) c168_6).2
      have J58 : ∀ (la wa : Int32), (la = 0 → ¬ nI n = nI (S.2.2.2.2.1 f).length - 1) → (wa = 0 → hd 0 = 0) → ∀ (ls : Array Slot) (H : Heap) (locs : List Loc), gk_P (ly_D y) A G H → va_S A s.heap H locs → lv_has ls 11 [(9, .int wa), (8, .int la), (7, .int (nI n)), (0, .ref (ly_a y 0)), (1, .ref ar), (2, .ref af), (3, .int (nI f)), (4, .ref ah), (5, .int (nI (9 * fr f))), (6, .int (nI (S.2.2.2.2.1 f).length))] → W p l e { frames := 7, cells := 0, slots := 0, locals := 260 } s m [.ref (ly_a y 0), .ref ar, .ref af, .int (nI f), .ref ah].toArray below meth c H locs 0 0 (MQ below (gk_Q y A (fun v G1 => v = some (.int 1) ∧ G1 = G)) [.ref (ly_a y 0), .ref ar, .ref af, .int (nI f), .ref ah].toArray s 0 0 A) (F0 m 58 ls []) := by
        intro la wa hla hwa ls H locs hP hS hl
        refine lv_aload_n hK.1.1 hK.1.2.1 dL_isTurned_58 rfl (lv_at hl 4 rfl) ?_
        refine lv_iload hK.1.1 hK.1.2.1 dL_isTurned_59 (lv_at hl 8 rfl) ?_
        refine lv_bipush (v := 6) hK.1.1 hK.1.2.1 dL_isTurned_61 (by decide) ?_
        refine lv_iadd hK.1.1 hK.1.2.1 dL_isTurned_63 ?_
        refine W.eq (g2 := F0 m 64 ls [.int (nI ((9 * fr f) + 6)), .ref ar]) (by rw [show (nI (9 * fr f)) + 6 = nI ((9 * fr f) + 6) from nI_add _ _]) ?_
        refine gk_iald hK.1 hK.2.2.1.1 hP 0 hra rfl (i := nI ((9 * fr f) + 6)) (vp_in_nI (n := (9 * fr f) + 6) (N := 27) (by omega) (by decide)) dL_isTurned_64 ?_
        refine W.eq (g2 := F0 m 65 ls [.int (ru (fr f) 7)]) (by rw [show rr (nI ((9 * fr f) + 6)).toNatClampNeg = ru (fr f) 7 from by rw [show (nI ((9 * fr f) + 6) : Int32).toNatClampNeg = (9 * fr f) + 6 from nI_clamp (n := (9 * fr f) + 6) (by omega)]; exact (show rr ((9 * fr f) + 6) = ru (fr f) 7 from hlr _ (hI.2.2.1 f f5).1 6 (by decide))]) ?_
        refine lv_iconst (v := 1) hK.1.1 hK.1.2.1 dL_isTurned_65 (by decide) ?_
        refine lv_icmp_ne (tgt := 101) hK.1.1 hK.1.2.1 dL_isTurned_66 (by decide) (fun c66_10 => ?_) (fun c66_10 => ?_)
        · exact J101 (wa) hwa ls _ _ hP hS (lv_sub hl [0, 2, 3, 4, 5, 6, 7, 8, 9] rfl)
        · refine lv_iload hK.1.1 hK.1.2.1 dL_isTurned_69 (lv_at hl 1 rfl) ?_
          refine lv_if_ne (tgt := 101) hK.1.1 hK.1.2.1 dL_isTurned_71 (by decide) (fun c71_11 => ?_) (fun c71_11 => ?_)
          · exact J101 (wa) hwa ls _ _ hP hS (lv_sub hl [0, 2, 3, 4, 5, 6, 7, 8, 9] rfl)
          · refine lv_aload_n hK.1.1 hK.1.2.1 dL_isTurned_74 rfl (lv_at hl 3 rfl) ?_
            refine lv_iload_n hK.1.1 hK.1.2.1 dL_isTurned_75 rfl (lv_at hl 6 rfl) ?_
            refine lv_iload hK.1.1 hK.1.2.1 dL_isTurned_76 (lv_at hl 2 rfl) ?_
            refine gk_callSW (n := 3) (As := [.ref (ly_a y 0), .int (nI f), .int (nI n)]) (rest := []) hK (c0_L_isSqueezed l hfl hR (f := f) f5 htk (iv_in5 hI) (iv_sq hI)) (gk_gS q_16_17 q_16_18 q_10_12 q_16_19) ⟨by decide +kernel, by decide +kernel, by decide +kernel⟩ ⟨(Nat.le_of_ble_eq_true rfl), (Nat.le_of_ble_eq_true rfl)⟩ hP hS rfl hl.1 rfl (Nat.le_of_ble_eq_true rfl) dL_isTurned_78 ⟨(Nat.le_of_ble_eq_true rfl), (Nat.le_of_ble_eq_true rfl)⟩ (fun v G1 H locs hw hP hS => ?_)
            obtain ⟨rfl, hG9⟩ := hw
            rw [hG9] at hP
            refine W.eq (g2 := F0 m 81 ls [.int (S.2.2.2.2.2.2 2 t)]) rfl ?_
            refine lv_if_ne (tgt := 101) hK.1.1 hK.1.2.1 dL_isTurned_81 (by decide) (fun c81_12 => ?_) (fun c81_12 => ?_)
            · exact J101 (wa) hwa ls _ _ hP hS (lv_sub hl [0, 2, 3, 4, 5, 6, 7, 8, 9] rfl)
            · refine lv_aload_n hK.1.1 hK.1.2.1 dL_isTurned_84 rfl (lv_at hl 3 rfl) ?_
              refine lv_iload_n hK.1.1 hK.1.2.1 dL_isTurned_85 rfl (lv_at hl 6 rfl) ?_
              refine lv_iload hK.1.1 hK.1.2.1 dL_isTurned_86 (lv_at hl 2 rfl) ?_
              refine gk_callS0 (n := 3) (As := [.ref (ly_a y 0), .int (nI f), .int (nI n)]) (rest := []) hK (c_L_isHeld l hfl hR hI hN (f := f) f5 htk) (gk_gS q_17_0 q_17_1 q_10_12 q_17_2) ⟨by decide +kernel, by decide +kernel, by decide +kernel⟩ ⟨(Nat.le_of_ble_eq_true rfl), (Nat.le_of_ble_eq_true rfl)⟩ hP hS rfl hl.1 rfl (Nat.le_of_ble_eq_true rfl) dL_isTurned_88 ⟨(Nat.le_of_ble_eq_true rfl), (Nat.le_of_ble_eq_true rfl)⟩ (fun v G1 H locs hw hP hS => ?_)
              obtain ⟨rfl, hG9⟩ := hw
              rw [hG9] at hP
              refine W.eq (g2 := F0 m 91 ls [.int (rg_b (t_held hp t))]) rfl ?_
              refine lv_if_ne (tgt := 101) hK.1.1 hK.1.2.1 dL_isTurned_91 (by decide) (fun c91_13 => ?_) (fun c91_13 => ?_)
              · exact J101 (wa) hwa ls _ _ hP hS (lv_sub hl [0, 2, 3, 4, 5, 6, 7, 8, 9] rfl)
              · refine lv_iload hK.1.1 hK.1.2.1 dL_isTurned_94 (lv_at hl 0 rfl) ?_
                refine lv_if_ne (tgt := 101) hK.1.1 hK.1.2.1 dL_isTurned_96 (by decide) (fun c96_14 => ?_) (fun c96_14 => ?_)
                · exact J101 (wa) hwa ls _ _ hP hS (lv_sub hl [0, 2, 3, 4, 5, 6, 7, 8, 9] rfl)
                · have h9 := hsq9 (hwa c96_14) (by rw [c66_10]; decide) n t htk (fun q => hla c71_11 (by rw [← q, nI_pred])) c81_12
                  rw [h9] at c91_13
                  exact absurd c91_13 (by decide)
      refine lv_iload hK.1.1 hK.1.2.1 dL_isTurned_27 (lv_at hl 0 rfl) ?_
      refine lv_iload hK.1.1 hK.1.2.1 dL_isTurned_29 (lv_at hl 7 rfl) ?_
      refine lv_iconst (v := 1) hK.1.1 hK.1.2.1 dL_isTurned_31 (by decide) ?_
      refine lv_isub hK.1.1 hK.1.2.1 dL_isTurned_32 ?_
      refine lv_icmp_ne (tgt := 40) hK.1.1 hK.1.2.1 dL_isTurned_33 (by decide) (fun c33_15 => ?_) (fun c33_15 => ?_)
      · refine lv_iconst (v := 0) hK.1.1 hK.1.2.1 dL_isTurned_40 (by decide) ?_
        refine lv_istore (lv' := [(8, .int 0), (7, .int (nI n)), (0, .ref (ly_a y 0)), (1, .ref ar), (2, .ref af), (3, .int (nI f)), (4, .ref ah), (5, .int (nI (9 * fr f))), (6, .int (nI (S.2.2.2.2.1 f).length))]) hK.1.1 hK.1.2.1 dL_isTurned_41 hl (by decide) rfl (fun ls hl => ?_)
        refine lv_aload hK.1.1 hK.1.2.1 dL_isTurned_43 (lv_at hl 6 rfl) ?_
        refine lv_iconst (v := 0) hK.1.1 hK.1.2.1 dL_isTurned_45 (by decide) ?_
        refine gk_iald hK.1 hK.2.2.1.1 hP 0 hha rfl (i := 0) (vp_in_nI (n := 0) (N := 1) (by omega) (by decide)) dL_isTurned_46 ?_
        refine W.eq (g2 := F0 m 47 ls [.int (hd 0)]) (by rw [show hd (0 : Int32).toNatClampNeg = hd 0 from by rw [show (0 : Int32).toNatClampNeg = 0 from nI_clamp (n := 0) (by omega)]]) ?_
        refine lv_iconst (v := 1) hK.1.1 hK.1.2.1 dL_isTurned_47 (by decide) ?_
        refine lv_icmp_ne (tgt := 55) hK.1.1 hK.1.2.1 dL_isTurned_48 (by decide) (fun c48_16 => ?_) (fun c48_16 => ?_)
        · refine lv_iconst (v := 0) hK.1.1 hK.1.2.1 dL_isTurned_55 (by decide) ?_
          refine lv_istore (lv' := [(9, .int 0), (8, .int 0), (7, .int (nI n)), (0, .ref (ly_a y 0)), (1, .ref ar), (2, .ref af), (3, .int (nI f)), (4, .ref ah), (5, .int (nI (9 * fr f))), (6, .int (nI (S.2.2.2.2.1 f).length))]) hK.1.1 hK.1.2.1 dL_isTurned_56 hl (by decide) rfl (fun ls hl => ?_)
          exact J58 (0) (0) (fun _ => c33_15) (fun _ => hhd.resolve_right c48_16) ls _ _ hP hS (lv_sub hl [0, 1, 2, 3, 4, 5, 6, 7, 8, 9] rfl)
        · refine lv_iconst (v := 1) hK.1.1 hK.1.2.1 dL_isTurned_51 (by decide) ?_
          refine lv_goto (tgt := 56) hK.1.1 hK.1.2.1 dL_isTurned_52 (by decide) ?_
          refine lv_istore (lv' := [(9, .int 1), (8, .int 0), (7, .int (nI n)), (0, .ref (ly_a y 0)), (1, .ref ar), (2, .ref af), (3, .int (nI f)), (4, .ref ah), (5, .int (nI (9 * fr f))), (6, .int (nI (S.2.2.2.2.1 f).length))]) hK.1.1 hK.1.2.1 dL_isTurned_56 hl (by decide) rfl (fun ls hl => ?_)
          exact J58 (0) (1) (fun _ => c33_15) (fun q => absurd q (by decide)) ls _ _ hP hS (lv_sub hl [0, 1, 2, 3, 4, 5, 6, 7, 8, 9] rfl)
      · refine lv_iconst (v := 1) hK.1.1 hK.1.2.1 dL_isTurned_36 (by decide) ?_
        refine lv_goto (tgt := 41) hK.1.1 hK.1.2.1 dL_isTurned_37 (by decide) ?_
        refine lv_istore (lv' := [(8, .int 1), (7, .int (nI n)), (0, .ref (ly_a y 0)), (1, .ref ar), (2, .ref af), (3, .int (nI f)), (4, .ref ah), (5, .int (nI (9 * fr f))), (6, .int (nI (S.2.2.2.2.1 f).length))]) hK.1.1 hK.1.2.1 dL_isTurned_41 hl (by decide) rfl (fun ls hl => ?_)
        refine lv_aload hK.1.1 hK.1.2.1 dL_isTurned_43 (lv_at hl 6 rfl) ?_
        refine lv_iconst (v := 0) hK.1.1 hK.1.2.1 dL_isTurned_45 (by decide) ?_
        refine gk_iald hK.1 hK.2.2.1.1 hP 0 hha rfl (i := 0) (vp_in_nI (n := 0) (N := 1) (by omega) (by decide)) dL_isTurned_46 ?_
        refine W.eq (g2 := F0 m 47 ls [.int (hd 0)]) (by rw [show hd (0 : Int32).toNatClampNeg = hd 0 from by rw [show (0 : Int32).toNatClampNeg = 0 from nI_clamp (n := 0) (by omega)]]) ?_
        refine lv_iconst (v := 1) hK.1.1 hK.1.2.1 dL_isTurned_47 (by decide) ?_
        refine lv_icmp_ne (tgt := 55) hK.1.1 hK.1.2.1 dL_isTurned_48 (by decide) (fun c48_17 => ?_) (fun c48_17 => ?_)
        · refine lv_iconst (v := 0) hK.1.1 hK.1.2.1 dL_isTurned_55 (by decide) ?_
          refine lv_istore (lv' := [(9, .int 0), (8, .int 1), (7, .int (nI n)), (0, .ref (ly_a y 0)), (1, .ref ar), (2, .ref af), (3, .int (nI f)), (4, .ref ah), (5, .int (nI (9 * fr f))), (6, .int (nI (S.2.2.2.2.1 f).length))]) hK.1.1 hK.1.2.1 dL_isTurned_56 hl (by decide) rfl (fun ls hl => ?_)
          exact J58 (1) (0) (fun q => absurd q (by decide)) (fun _ => hhd.resolve_right c48_17) ls _ _ hP hS (lv_sub hl [0, 1, 2, 3, 4, 5, 6, 7, 8, 9] rfl)
        · refine lv_iconst (v := 1) hK.1.1 hK.1.2.1 dL_isTurned_51 (by decide) ?_
          refine lv_goto (tgt := 56) hK.1.1 hK.1.2.1 dL_isTurned_52 (by decide) ?_
          refine lv_istore (lv' := [(9, .int 1), (8, .int 1), (7, .int (nI n)), (0, .ref (ly_a y 0)), (1, .ref ar), (2, .ref af), (3, .int (nI f)), (4, .ref ah), (5, .int (nI (9 * fr f))), (6, .int (nI (S.2.2.2.2.1 f).length))]) hK.1.1 hK.1.2.1 dL_isTurned_56 hl (by decide) rfl (fun ls hl => ?_)
          exact J58 (1) (1) (fun q => absurd q (by decide)) (fun q => absurd q (by decide)) ls _ _ hP hS (lv_sub hl [0, 1, 2, 3, 4, 5, 6, 7, 8, 9] rfl)
  exact loop _ 0 ls _ _ rfl (by omega) hP hS (lv_sub hl [0, 3, 4, 5, 6, 7, 2, 1] rfl)
