/-! the law's own small methods, and whether a file is due -/
set_option maxHeartbeats 4000000 in
set_option maxRecDepth 100000 in
theorem c_L_low (l : Launch) {y : ly_T} {A : Nat → Prop} {G : gk_G} {x : Int32} {n : Nat} (h0 : 0 < n) (hn : n < 2 ^ 31) : gk_M0 l yL_low (Cond.code yL_low cL_low 2 (some .int)) 0 0 0 0 y A [.int x, .int (nI n)] G (fun v G1 => (∃ j, j < n ∧ v = some (.int (nI j))) ∧ G1 = G) := by
  refine gk_of0 (cc := cL_low) (maxL := 2) (ret := (some .int)) (own := RL) (by decide +kernel) rfl rfl (Nat.le_of_ble_eq_true rfl) ?_
  intro p e s m below meth c ls hK hret hlk _ hP hS hl
  have hl : lv_has ls 2 [(0, .int x), (1, .int (nI n))] := hl
  obtain ⟨j, hj, ej⟩ := low_v x h0 hn
  refine lv_iload_n hK.1.1 hK.1.2.1 dL_low_0 rfl (lv_at hl 0 rfl) ?_
  refine lv_ldc (v := 2147483647) hK.1.1 hK.1.2.1 hK.1.2.2.1 (hK.1.2.2.2 _ q_12_12) dL_low_1 ?_
  refine lv_iand hK.1.1 hK.1.2.1 dL_low_3 ?_
  refine lv_iload_n hK.1.1 hK.1.2.1 dL_low_4 rfl (lv_at hl 1 rfl) ?_
  refine lv_irem hK.1.1 hK.1.2.1 dL_low_5 (nI_ne0 h0 hn) ?_
  exact gk_iret0 hK.1 hret hlk hP hS (Nat.le_of_ble_eq_true rfl) (Nat.le_of_ble_eq_true rfl) dL_low_6 ⟨⟨j, hj, by rw [ej]⟩, rfl⟩
theorem held_B {e N : Nat} {td : Int32} {ru : Nat → Nat → Int32} {fr : Nat → Nat} {hf hp : Nat → Option Nat} {S : ts_T} {tt : Nat → Int32} {fi : Nat → Nat} (hI : iv e N td ru fr hf S hp tt fi) (hN : N ≤ 111) {f k t : Nat} {B : Bool} (f5 : f < 5) (hk : (S.2.2.2.2.1 f)[k]? = some t) (hB : B = true ↔ ∃ j, j < 4 ∧ hz hf hp S.2.2.2.2.1 j = nI (100 * f + 1 + k)) : t_held hp t = B := by
  have hl := iv_len hI hN f f5
  have hkl := (List.getElem?_eq_some_iff.mp hk).1
  rw [Bool.eq_iff_iff, hB]
  constructor
  · intro q
    obtain ⟨j, hj, hjt⟩ := t_held_ex q
    refine ⟨j, hj, ?_⟩
    rcases iv_hz hI hN hj with ⟨-, z, -⟩ | ⟨g, u, p, g5, p1, p2, z1, z2, z3, z4⟩
    · rw [hjt] at z; cases z
    · rw [hjt] at z2; cases z2
      have hgf : g = f := by
        rcases hI.2.2.2.2.2.1 j hj with ⟨z, -⟩ | ⟨g2, u, g25, y1, y2, y3⟩
        · rw [z1] at z; cases z
        · rw [z1] at y1; cases y1
          rw [hjt] at y2; cases y2
          by_cases h9 : g = f
          · exact h9
          · exact absurd (List.mem_of_getElem? hk) (iv_apart hI g5 f5 (Ne.symm h9) y3).2
      subst hgf
      rw [z3]
      rcases z4 with ⟨-, rfl⟩ | ⟨y1, y2⟩
      · exact absurd (List.mem_of_getElem? hk) (hI.2.2.2.1 g g5).1.2.2
      · have := x_idx (hI.2.2.2.1 g g5).2.1 y2 hk
        congr 1
        omega
  · rintro ⟨j, hj, hz9⟩
    rcases iv_hz hI hN hj with ⟨-, -, z⟩ | ⟨g, u, p, g5, p1, p2, z1, z2, z3, z4⟩
    · rw [z] at hz9
      exact absurd hz9.symm (n_m1 (by omega))
    · rw [z3] at hz9
      have h9 := (nI_eq (by omega) (by omega)).mp hz9
      have hgf : g = f := by omega
      subst hgf
      rcases z4 with ⟨y1, -⟩ | ⟨y1, y2⟩
      · omega
      · have hpk : p - 1 = k := by omega
        rw [hpk, hk] at y2
        cases y2
        exact t_held_of hj z2
set_option maxHeartbeats 4000000 in
set_option maxRecDepth 100000 in
theorem c_L_isHeld (l : Launch) {y : ly_T} {A : Nat → Prop} {G : gk_G} {ed N : Nat} {td : Int32} {ru : Nat → Nat → Int32} {fr : Nat → Nat} {hf hp : Nat → Option Nat} {S : ts_T} {tt : Nat → Int32} {fi : Nat → Nat} (hfl : l.stackTraces = false) (hR : rq y G td ru fr hf S hp) (hI : iv ed N td ru fr hf S hp tt fi) (hN : N ≤ 111) {f k t : Nat} (f5 : f < 5) (hk : (S.2.2.2.2.1 f)[k]? = some t) : gk_M0 l yL_isHeld (Cond.code yL_isHeld cL_isHeld 5 (some .boolean)) 6 220 0 0 y A [.ref (ly_a y 0), .int (nI f), .int (nI k)] G (fun v G1 => v = some (.int (rg_b (t_held hp t))) ∧ G1 = G) := by
  refine gk_of0 (cc := cL_isHeld) (maxL := 5) (ret := (some .boolean)) (own := RL) (by decide +kernel) rfl rfl (Nat.le_of_ble_eq_true rfl) ?_
  intro p e s m below meth c ls hK hret hlk _ hP hS hl
  have hl : lv_has ls 5 [(0, .ref (ly_a y 0)), (1, .int (nI f)), (2, .int (nI k))] := hl
  refine lv_iconst (v := 0) hK.1.1 hK.1.2.1 dL_isHeld_0 (by decide) ?_
  refine lv_istore_n (lv' := [(3, .int 0), (0, .ref (ly_a y 0)), (1, .int (nI f)), (2, .int (nI k))]) hK.1.1 hK.1.2.1 dL_isHeld_1 rfl hl (by decide) rfl (fun ls hl => ?_)
  refine lv_iconst (v := 0) hK.1.1 hK.1.2.1 dL_isHeld_2 (by decide) ?_
  refine lv_istore (lv' := [(4, .int 0), (3, .int 0), (0, .ref (ly_a y 0)), (1, .int (nI f)), (2, .int (nI k))]) hK.1.1 hK.1.2.1 dL_isHeld_3 hl (by decide) rfl (fun ls hl => ?_)
  have loop : ∀ (dd n : Nat) (B : Bool) (ls : Array Slot) (H : Heap) (locs : List Loc), 4 - n = dd → n ≤ 4 → (B = true ↔ ∃ j, j < n ∧ hz hf hp S.2.2.2.2.1 j = nI (100 * f + 1 + k)) → gk_P (ly_D y) A G H → va_S A s.heap H locs → lv_has ls 5 [(4, .int (nI n)), (3, .int (rg_b B)), (0, .ref (ly_a y 0)), (1, .int (nI f)), (2, .int (nI k))] → W p l e { frames := 6, cells := 0, slots := 0, locals := 220 } s m [.ref (ly_a y 0), .int (nI f), .int (nI k)].toArray below meth c H locs 0 0 (MQ below (gk_Q y A (fun v G1 => v = some (.int (rg_b (t_held hp t))) ∧ G1 = G)) [.ref (ly_a y 0), .int (nI f), .int (nI k)].toArray s 0 0 A) (F0 m 5 ls []) := by
    intro dd
    induction dd using Nat.strongRecOn with
    | _ dd ih =>
    intro n B ls H locs hdd hn hB hP hS hl
    refine lv_iload hK.1.1 hK.1.2.1 dL_isHeld_5 (lv_at hl 0 rfl) ?_
    refine lv_iconst (v := 4) hK.1.1 hK.1.2.1 dL_isHeld_7 (by decide) ?_
    refine lv_icmp_ge (tgt := 44) hK.1.1 hK.1.2.1 dL_isHeld_8 (by decide) (fun c8_1 => ?_) (fun c8_1 => ?_)
    · have hn4 : n = 4 := Nat.le_antisymm hn ((nI_leI (a := 4) (by omega) (by omega)).mp c8_1)
      refine lv_iload_n hK.1.1 hK.1.2.1 dL_isHeld_44 rfl (lv_at hl 1 rfl) ?_
      exact gk_zret0 hK.1 hret (rp_nz (rg_b01 B)).1 hlk hP hS (Nat.le_of_ble_eq_true rfl) (Nat.le_of_ble_eq_true rfl) dL_isHeld_45 ⟨by rw [held_B hI hN f5 hk (by rw [← hn4]; exact hB)], rfl⟩
    · have hn4 : n < 4 := Nat.lt_of_not_le (fun h => c8_1 (nI_le (a := 4) h (by omega)))
      refine lv_iload_n hK.1.1 hK.1.2.1 dL_isHeld_11 rfl (lv_at hl 1 rfl) ?_
      refine lv_if_ne (tgt := 32) hK.1.1 hK.1.2.1 dL_isHeld_12 (by decide) (fun c12_2 => ?_) (fun c12_2 => ?_)
      · have hBt : B = true := by cases hz9 : B with | true => rfl | false => exact absurd (rg_b0.mpr hz9) c12_2
        refine lv_iconst (v := 1) hK.1.1 hK.1.2.1 dL_isHeld_32 (by decide) ?_
        refine lv_goto (tgt := 37) hK.1.1 hK.1.2.1 dL_isHeld_33 (by decide) ?_
        refine lv_istore_n (lv' := [(3, .int 1), (4, .int (nI n)), (0, .ref (ly_a y 0)), (1, .int (nI f)), (2, .int (nI k))]) hK.1.1 hK.1.2.1 dL_isHeld_37 rfl hl (by decide) rfl (fun ls hl => ?_)
        refine lv_iinc (v := nI (n + 1)) (lv' := [(4, .int (nI (n + 1))), (3, .int 1), (0, .ref (ly_a y 0)), (1, .int (nI f)), (2, .int (nI k))]) hK.1.1 hK.1.2.1 dL_isHeld_38 hl (k := 1) rfl (nI_1 n) (by decide) rfl (fun ls hl => ?_)
        refine lv_goto (tgt := 5) hK.1.1 hK.1.2.1 dL_isHeld_41 (by decide) ?_
        exact ih (4 - (n + 1)) (by omega) (n + 1) true ls _ _ rfl (by omega) ⟨fun _ => by obtain ⟨j, h1, h2⟩ := hB.mp hBt; exact ⟨j, by omega, h2⟩, fun _ => rfl⟩ hP hS (lv_sub hl [0, 1, 2, 3, 4] rfl)
      · have hBf : ¬ ∃ j, j < n ∧ hz hf hp S.2.2.2.2.1 j = nI (100 * f + 1 + k) := fun q => by have h1 := rg_b0.mp c12_2; rw [hB.mpr q] at h1; cases h1
        refine lv_aload_n hK.1.1 hK.1.2.1 dL_isHeld_15 rfl (lv_at hl 2 rfl) ?_
        refine lv_iload hK.1.1 hK.1.2.1 dL_isHeld_16 (lv_at hl 0 rfl) ?_
        refine gk_callSW (n := 2) (As := [.ref (ly_a y 0), .int (nI n)]) (rest := []) hK (c0_L_holds l hfl hR (h := n) hn4 (iv_Ho hI)) (gk_gS q_10_10 q_10_11 q_10_12 q_10_13) ⟨by decide +kernel, by decide +kernel, by decide +kernel⟩ ⟨(Nat.le_of_ble_eq_true rfl), (Nat.le_of_ble_eq_true rfl)⟩ hP hS rfl hl.1 rfl (Nat.le_of_ble_eq_true rfl) dL_isHeld_18 ⟨(Nat.le_of_ble_eq_true rfl), (Nat.le_of_ble_eq_true rfl)⟩ (fun v G1 H locs hw hP hS => ?_)
        obtain ⟨x9, hx9, rfl, hG9⟩ := hw
        rw [hG9] at hP
        obtain rfl := hz_eq hx9
        refine W.eq (g2 := F0 m 21 ls [.int (hz hf hp S.2.2.2.2.1 n)]) rfl ?_
        refine lv_bipush (v := 100) hK.1.1 hK.1.2.1 dL_isHeld_21 (by decide) ?_
        refine lv_iload_n hK.1.1 hK.1.2.1 dL_isHeld_23 rfl (lv_at hl 3 rfl) ?_
        refine lv_imul hK.1.1 hK.1.2.1 dL_isHeld_24 ?_
        refine W.eq (g2 := F0 m 25 ls [.int (nI (100 * f)), .int (hz hf hp S.2.2.2.2.1 n)]) (by rw [show 100 * (nI f) = nI (100 * f) from pk_mul _ _]) ?_
        refine lv_iconst (v := 1) hK.1.1 hK.1.2.1 dL_isHeld_25 (by decide) ?_
        refine lv_iadd hK.1.1 hK.1.2.1 dL_isHeld_26 ?_
        refine W.eq (g2 := F0 m 27 ls [.int (nI ((100 * f) + 1)), .int (hz hf hp S.2.2.2.2.1 n)]) (by rw [show (nI (100 * f)) + 1 = nI ((100 * f) + 1) from nI_add _ _]) ?_
        refine lv_iload_n hK.1.1 hK.1.2.1 dL_isHeld_27 rfl (lv_at hl 4 rfl) ?_
        refine lv_iadd hK.1.1 hK.1.2.1 dL_isHeld_28 ?_
        refine W.eq (g2 := F0 m 29 ls [.int (nI (((100 * f) + 1) + k)), .int (hz hf hp S.2.2.2.2.1 n)]) (by rw [show (nI ((100 * f) + 1)) + (nI k) = nI (((100 * f) + 1) + k) from nI_add _ _]) ?_
        refine lv_icmp_ne (tgt := 36) hK.1.1 hK.1.2.1 dL_isHeld_29 (by decide) (fun c29_3 => ?_) (fun c29_3 => ?_)
        · refine lv_iconst (v := 0) hK.1.1 hK.1.2.1 dL_isHeld_36 (by decide) ?_
          refine lv_istore_n (lv' := [(3, .int 0), (4, .int (nI n)), (0, .ref (ly_a y 0)), (1, .int (nI f)), (2, .int (nI k))]) hK.1.1 hK.1.2.1 dL_isHeld_37 rfl hl (by decide) rfl (fun ls hl => ?_)
          refine lv_iinc (v := nI (n + 1)) (lv' := [(4, .int (nI (n + 1))), (3, .int 0), (0, .ref (ly_a y 0)), (1, .int (nI f)), (2, .int (nI k))]) hK.1.1 hK.1.2.1 dL_isHeld_38 hl (k := 1) rfl (nI_1 n) (by decide) rfl (fun ls hl => ?_)
          refine lv_goto (tgt := 5) hK.1.1 hK.1.2.1 dL_isHeld_41 (by decide) ?_
          exact ih (4 - (n + 1)) (by omega) (n + 1) false ls _ _ rfl (by omega) ⟨fun q => (by cases q), fun ⟨j, h1, h2⟩ => (by by_cases hj : j = n; (rw [hj] at h2; exact absurd h2 c29_3); (exact absurd ⟨j, by omega, h2⟩ hBf))⟩ hP hS (lv_sub hl [0, 1, 2, 3, 4] rfl)
        · refine lv_iconst (v := 1) hK.1.1 hK.1.2.1 dL_isHeld_32 (by decide) ?_
          refine lv_goto (tgt := 37) hK.1.1 hK.1.2.1 dL_isHeld_33 (by decide) ?_
          refine lv_istore_n (lv' := [(3, .int 1), (4, .int (nI n)), (0, .ref (ly_a y 0)), (1, .int (nI f)), (2, .int (nI k))]) hK.1.1 hK.1.2.1 dL_isHeld_37 rfl hl (by decide) rfl (fun ls hl => ?_)
          refine lv_iinc (v := nI (n + 1)) (lv' := [(4, .int (nI (n + 1))), (3, .int 1), (0, .ref (ly_a y 0)), (1, .int (nI f)), (2, .int (nI k))]) hK.1.1 hK.1.2.1 dL_isHeld_38 hl (k := 1) rfl (nI_1 n) (by decide) rfl (fun ls hl => ?_)
          refine lv_goto (tgt := 5) hK.1.1 hK.1.2.1 dL_isHeld_41 (by decide) ?_
          exact ih (4 - (n + 1)) (by omega) (n + 1) true ls _ _ rfl (by omega) ⟨fun _ => ⟨n, by omega, c29_3⟩, fun _ => rfl⟩ hP hS (lv_sub hl [0, 1, 2, 3, 4] rfl)
  exact loop _ 0 false ls _ _ rfl (by omega) ⟨fun q => (by cases q), fun ⟨j, hj, _⟩ => absurd hj (Nat.not_lt_zero j)⟩ hP hS (lv_sub hl [0, 1, 2, 3, 4] rfl)
set_option maxHeartbeats 4000000 in
set_option maxRecDepth 100000 in
theorem c_L_due (l : Launch) {y : ly_T} {A : Nat → Prop} {G : gk_G} {ed N : Nat} {td : Int32} {ru : Nat → Nat → Int32} {fr : Nat → Nat} {hf hp : Nat → Option Nat} {S : ts_T} {tt : Nat → Int32} {fi : Nat → Nat} (hfl : l.stackTraces = false) (hR : rq y G td ru fr hf S hp) (hI : iv ed N td ru fr hf S hp tt fi) (hN : N ≤ 111) {ar af : Nat} {rr ff : Nat → Int32} (hra : G ar = some (rp_i (ly_k y 0) 27 rr)) (hfa : G af = some (rp_i (ly_k y 0) 20 ff)) (hlr : lr rr ru) (hlf : lf ff fr S tt) {f d : Nat} (f5 : f < 5) (hd : d ≤ 5300) : gk_M0 l yL_due (Cond.code yL_due cL_due 8 (some .boolean)) 3 100 0 0 y A [.ref (ly_a y 0), .ref ar, .ref af, .int (nI f), .int (nI d)] G (fun v G1 => v = some (.int (rg_b (t_dueS (nI d) ru fr S f))) ∧ G1 = G) := by
  refine gk_of0 (cc := cL_due) (maxL := 8) (ret := (some .boolean)) (own := RL) (by decide +kernel) rfl rfl (Nat.le_of_ble_eq_true rfl) ?_
  intro p e s m below meth c ls hK hret hlk _ hP hS hl
  have hl : lv_has ls 8 [(0, .ref (ly_a y 0)), (1, .ref ar), (2, .ref af), (3, .int (nI f)), (4, .int (nI d))] := hl
  obtain ⟨hf3, ⟨a, hae, ha⟩, het⟩ := hI.2.2.1 f f5
  have he9 := hI.1.2
  obtain ⟨⟨g1, g2, g3, g4⟩, -⟩ := hI.2.1 (fr f) hf3
  obtain ⟨n9, hn9, hne⟩ := iv_ct hI (iv_Ll hI f f5)
  have hnn : ¬ S.2.2.2.2.2.2 0 (S.1 f) < 0 := by rw [hne]; exact nI_pos (by omega)
  have J34 : ∀ (B : Bool) (ls : Array Slot) (H : Heap) (locs : List Loc), (B = true ↔ (¬ ru (fr f) 1 = 0 ∧ ru (fr f) 1 ≤ S.2.2.2.2.2.2 0 (S.1 f))) → gk_P (ly_D y) A G H → va_S A s.heap H locs → lv_has ls 8 [(5, .int (nI (9 * fr f))), (0, .ref (ly_a y 0)), (1, .ref ar), (2, .ref af), (3, .int (nI f)), (4, .int (nI d))] → W p l e { frames := 3, cells := 0, slots := 0, locals := 100 } s m [.ref (ly_a y 0), .ref ar, .ref af, .int (nI f), .int (nI d)].toArray below meth c H locs 0 0 (MQ below (gk_Q y A (fun v G1 => v = some (.int (rg_b (t_dueS (nI d) ru fr S f))) ∧ G1 = G)) [.ref (ly_a y 0), .ref ar, .ref af, .int (nI f), .int (nI d)].toArray s 0 0 A) (F0 m 34 ls [.int (rg_b B)]) := by
    intro B ls H locs hB hP hS hl
    refine lv_istore (lv' := [(6, .int (rg_b B)), (5, .int (nI (9 * fr f))), (0, .ref (ly_a y 0)), (1, .ref ar), (2, .ref af), (3, .int (nI f)), (4, .int (nI d))]) hK.1.1 hK.1.2.1 dL_due_34 hl (by decide) rfl (fun ls hl => ?_)
    refine lv_aload_n hK.1.1 hK.1.2.1 dL_due_36 rfl (lv_at hl 4 rfl) ?_
    refine lv_iconst (v := 4) hK.1.1 hK.1.2.1 dL_due_37 (by decide) ?_
    refine lv_iload_n hK.1.1 hK.1.2.1 dL_due_38 rfl (lv_at hl 5 rfl) ?_
    refine lv_imul hK.1.1 hK.1.2.1 dL_due_39 ?_
    refine W.eq (g2 := F0 m 40 ls [.int (nI (4 * f)), .ref af]) (by rw [show 4 * (nI f) = nI (4 * f) from pk_mul _ _]) ?_
    refine lv_iconst (v := 1) hK.1.1 hK.1.2.1 dL_due_40 (by decide) ?_
    refine lv_iadd hK.1.1 hK.1.2.1 dL_due_41 ?_
    refine W.eq (g2 := F0 m 42 ls [.int (nI ((4 * f) + 1)), .ref af]) (by rw [show (nI (4 * f)) + 1 = nI ((4 * f) + 1) from nI_add _ _]) ?_
    refine gk_iald hK.1 hK.2.2.1.1 hP 0 hfa rfl (i := nI ((4 * f) + 1)) (vp_in_nI (n := (4 * f) + 1) (N := 20) (by omega) (by decide)) dL_due_42 ?_
    refine W.eq (g2 := F0 m 43 ls [.int (nI a)]) (by rw [show ff (nI ((4 * f) + 1)).toNatClampNeg = nI a from by rw [show (nI ((4 * f) + 1) : Int32).toNatClampNeg = (4 * f) + 1 from nI_clamp (n := (4 * f) + 1) (by omega)]; exact ((hlf f f5).2.1.trans ha)]) ?_
    refine lv_iconst (v := 1) hK.1.1 hK.1.2.1 dL_due_43 (by decide) ?_
    refine lv_iadd hK.1.1 hK.1.2.1 dL_due_44 ?_
    refine W.eq (g2 := F0 m 45 ls [.int (nI (a + 1))]) (by rw [show (nI a) + 1 = nI (a + 1) from nI_add _ _]) ?_
    refine lv_istore (lv' := [(7, .int (nI (a + 1))), (6, .int (rg_b B)), (5, .int (nI (9 * fr f))), (0, .ref (ly_a y 0)), (1, .ref ar), (2, .ref af), (3, .int (nI f)), (4, .int (nI d))]) hK.1.1 hK.1.2.1 dL_due_45 hl (by decide) rfl (fun ls hl => ?_)
    have loop : ∀ (dd i : Nat) (B : Bool) (ls : Array Slot) (H : Heap) (locs : List Loc), 30 - i = dd → i ≤ 30 → (∀ j, j < i → a + 1 + j ≤ d) → (B = true ↔ ((¬ ru (fr f) 1 = 0 ∧ ru (fr f) 1 ≤ S.2.2.2.2.2.2 0 (S.1 f)) ∨ (∃ j, j < i ∧ (nI ((a + 1 + j) % 7) = ru (fr f) 2 ∨ nI ((a + 1 + j) % 30) = ru (fr f) 3)))) → gk_P (ly_D y) A G H → va_S A s.heap H locs → lv_has ls 8 [(7, .int (nI (a + 1 + i))), (6, .int (rg_b B)), (5, .int (nI (9 * fr f))), (0, .ref (ly_a y 0)), (1, .ref ar), (2, .ref af), (3, .int (nI f)), (4, .int (nI d))] → W p l e { frames := 3, cells := 0, slots := 0, locals := 100 } s m [.ref (ly_a y 0), .ref ar, .ref af, .int (nI f), .int (nI d)].toArray below meth c H locs 0 0 (MQ below (gk_Q y A (fun v G1 => v = some (.int (rg_b (t_dueS (nI d) ru fr S f))) ∧ G1 = G)) [.ref (ly_a y 0), .ref ar, .ref af, .int (nI f), .int (nI d)].toArray s 0 0 A) (F0 m 47 ls []) := by
      intro dd
      induction dd using Nat.strongRecOn with
      | _ dd ih =>
      intro i B ls H locs hdd hi hin hB hP hS hl
      refine lv_iload hK.1.1 hK.1.2.1 dL_due_47 (lv_at hl 0 rfl) ?_
      refine lv_iload hK.1.1 hK.1.2.1 dL_due_49 (lv_at hl 7 rfl) ?_
      refine lv_icmp_gt (tgt := 115) hK.1.1 hK.1.2.1 dL_due_51 (by decide) (fun c51_1 => ?_) (fun c51_1 => ?_)
      · have hend : i = 30 ∨ d < a + 1 + i := Or.inr ((nI_ltI (by omega) (by omega)).mp c51_1)
        have hv := due_B (by omega) hd g2 g3 hi hin hend hB
        refine lv_aload_n hK.1.1 hK.1.2.1 dL_due_115 rfl (lv_at hl 3 rfl) ?_
        refine lv_iload_n hK.1.1 hK.1.2.1 dL_due_116 rfl (lv_at hl 6 rfl) ?_
        refine gk_callSW (n := 2) (As := [.ref (ly_a y 0), .int (nI f)]) (rest := []) hK (c0_L_live l hfl hR (f := f) f5 (iv_Ll hI)) (gk_gS q_15_4 q_15_5 q_10_12 q_15_6) ⟨by decide +kernel, by decide +kernel, by decide +kernel⟩ ⟨(Nat.le_of_ble_eq_true rfl), (Nat.le_of_ble_eq_true rfl)⟩ hP hS rfl hl.1 rfl (Nat.le_of_ble_eq_true rfl) dL_due_117 ⟨(Nat.le_of_ble_eq_true rfl), (Nat.le_of_ble_eq_true rfl)⟩ (fun v G1 H locs hw hP hS => ?_)
        obtain ⟨rfl, hG9⟩ := hw
        rw [hG9] at hP
        refine W.eq (g2 := F0 m 120 ls [.int (S.2.2.2.2.2.2 0 (S.1 f))]) rfl ?_
        refine lv_if_le (tgt := 161) hK.1.1 hK.1.2.1 dL_due_120 (by decide) (fun c120_2 => ?_) (fun c120_2 => ?_)
        · refine lv_iconst (v := 0) hK.1.1 hK.1.2.1 dL_due_161 (by decide) ?_
          exact gk_zret0 hK.1 hret (by first | decide | exact (rp_nz (by first | assumption | (simp; done))).1) hlk hP hS (Nat.le_of_ble_eq_true rfl) (Nat.le_of_ble_eq_true rfl) dL_due_162 ⟨by rw [show t_dueS (nI d) ru fr S f = false from by rw [t_dueS, due_val (B := B) hnn (by rw [ha]; exact hv), ha]; simp [c120_2]]; rfl, rfl⟩
        · refine lv_aload_n hK.1.1 hK.1.2.1 dL_due_123 rfl (lv_at hl 5 rfl) ?_
          refine lv_iconst (v := 4) hK.1.1 hK.1.2.1 dL_due_124 (by decide) ?_
          refine lv_iload_n hK.1.1 hK.1.2.1 dL_due_125 rfl (lv_at hl 6 rfl) ?_
          refine lv_imul hK.1.1 hK.1.2.1 dL_due_126 ?_
          refine W.eq (g2 := F0 m 127 ls [.int (nI (4 * f)), .ref af]) (by rw [show 4 * (nI f) = nI (4 * f) from pk_mul _ _]) ?_
          refine lv_iconst (v := 2) hK.1.1 hK.1.2.1 dL_due_127 (by decide) ?_
          refine lv_iadd hK.1.1 hK.1.2.1 dL_due_128 ?_
          refine W.eq (g2 := F0 m 129 ls [.int (nI ((4 * f) + 2)), .ref af]) (by rw [show (nI (4 * f)) + 2 = nI ((4 * f) + 2) from nI_add _ _]) ?_
          refine gk_iald hK.1 hK.2.2.1.1 hP 0 hfa rfl (i := nI ((4 * f) + 2)) (vp_in_nI (n := (4 * f) + 2) (N := 20) (by omega) (by decide)) dL_due_129 ?_
          refine W.eq (g2 := F0 m 130 ls [.int (S.2.2.1 f)]) (by rw [show ff (nI ((4 * f) + 2)).toNatClampNeg = S.2.2.1 f from by rw [show (nI ((4 * f) + 2) : Int32).toNatClampNeg = (4 * f) + 2 from nI_clamp (n := (4 * f) + 2) (by omega)]; exact (hlf f f5).2.2.1]) ?_
          refine lv_if_eq (tgt := 152) hK.1.1 hK.1.2.1 dL_due_130 (by decide) (fun c130_3 => ?_) (fun c130_3 => ?_)
          · refine lv_iload hK.1.1 hK.1.2.1 dL_due_152 (lv_at hl 1 rfl) ?_
            refine lv_if_eq (tgt := 161) hK.1.1 hK.1.2.1 dL_due_154 (by decide) (fun c154_4 => ?_) (fun c154_4 => ?_)
            · refine lv_iconst (v := 0) hK.1.1 hK.1.2.1 dL_due_161 (by decide) ?_
              exact gk_zret0 hK.1 hret (by first | decide | exact (rp_nz (by first | assumption | (simp; done))).1) hlk hP hS (Nat.le_of_ble_eq_true rfl) (Nat.le_of_ble_eq_true rfl) dL_due_162 ⟨by rw [show t_dueS (nI d) ru fr S f = false from by rw [t_dueS, due_val (B := B) hnn (by rw [ha]; exact hv), ha]; simp [c120_2, c130_3, (rg_b0.mp c154_4)]]; rfl, rfl⟩
            · refine lv_iconst (v := 1) hK.1.1 hK.1.2.1 dL_due_157 (by decide) ?_
              refine lv_goto (tgt := 162) hK.1.1 hK.1.2.1 dL_due_158 (by decide) ?_
              exact gk_zret0 hK.1 hret (by first | decide | exact (rp_nz (by first | assumption | (simp; done))).1) hlk hP hS (Nat.le_of_ble_eq_true rfl) (Nat.le_of_ble_eq_true rfl) dL_due_162 ⟨by rw [show t_dueS (nI d) ru fr S f = true from by rw [t_dueS, due_val (B := B) hnn (by rw [ha]; exact hv), ha]; simp [c120_2, c130_3, (show B = true by cases hz9 : B with | true => rfl | false => exact absurd (rg_b0.mpr hz9) c154_4)]]; rfl, rfl⟩
          · refine lv_iload hK.1.1 hK.1.2.1 dL_due_133 (lv_at hl 7 rfl) ?_
            refine lv_aload_n hK.1.1 hK.1.2.1 dL_due_135 rfl (lv_at hl 5 rfl) ?_
            refine lv_iconst (v := 4) hK.1.1 hK.1.2.1 dL_due_136 (by decide) ?_
            refine lv_iload_n hK.1.1 hK.1.2.1 dL_due_137 rfl (lv_at hl 6 rfl) ?_
            refine lv_imul hK.1.1 hK.1.2.1 dL_due_138 ?_
            refine W.eq (g2 := F0 m 139 ls [.int (nI (4 * f)), .ref af, .int (nI d)]) (by rw [show 4 * (nI f) = nI (4 * f) from pk_mul _ _]) ?_
            refine lv_iconst (v := 1) hK.1.1 hK.1.2.1 dL_due_139 (by decide) ?_
            refine lv_iadd hK.1.1 hK.1.2.1 dL_due_140 ?_
            refine W.eq (g2 := F0 m 141 ls [.int (nI ((4 * f) + 1)), .ref af, .int (nI d)]) (by rw [show (nI (4 * f)) + 1 = nI ((4 * f) + 1) from nI_add _ _]) ?_
            refine gk_iald hK.1 hK.2.2.1.1 hP 0 hfa rfl (i := nI ((4 * f) + 1)) (vp_in_nI (n := (4 * f) + 1) (N := 20) (by omega) (by decide)) dL_due_141 ?_
            refine W.eq (g2 := F0 m 142 ls [.int (nI a), .int (nI d)]) (by rw [show ff (nI ((4 * f) + 1)).toNatClampNeg = nI a from by rw [show (nI ((4 * f) + 1) : Int32).toNatClampNeg = (4 * f) + 1 from nI_clamp (n := (4 * f) + 1) (by omega)]; exact ((hlf f f5).2.1.trans ha)]) ?_
            refine lv_isub hK.1.1 hK.1.2.1 dL_due_142 ?_
            refine lv_aload_n hK.1.1 hK.1.2.1 dL_due_143 rfl (lv_at hl 4 rfl) ?_
            refine lv_iload hK.1.1 hK.1.2.1 dL_due_144 (lv_at hl 2 rfl) ?_
            refine lv_iconst (v := 3) hK.1.1 hK.1.2.1 dL_due_146 (by decide) ?_
            refine lv_iadd hK.1.1 hK.1.2.1 dL_due_147 ?_
            refine W.eq (g2 := F0 m 148 ls [.int (nI ((9 * fr f) + 3)), .ref ar, .int ((nI d) - (nI a))]) (by rw [show (nI (9 * fr f)) + 3 = nI ((9 * fr f) + 3) from nI_add _ _]) ?_
            refine gk_iald hK.1 hK.2.2.1.1 hP 0 hra rfl (i := nI ((9 * fr f) + 3)) (vp_in_nI (n := (9 * fr f) + 3) (N := 27) (by omega) (by decide)) dL_due_148 ?_
            refine W.eq (g2 := F0 m 149 ls [.int (ru (fr f) 4), .int ((nI d) - (nI a))]) (by rw [show rr (nI ((9 * fr f) + 3)).toNatClampNeg = ru (fr f) 4 from by rw [show (nI ((9 * fr f) + 3) : Int32).toNatClampNeg = (9 * fr f) + 3 from nI_clamp (n := (9 * fr f) + 3) (by omega)]; exact (show rr ((9 * fr f) + 3) = ru (fr f) 4 from hlr _ (hI.2.2.1 f f5).1 3 (by decide))]) ?_
            refine lv_icmp_lt (tgt := 161) hK.1.1 hK.1.2.1 dL_due_149 (by decide) (fun c149_5 => ?_) (fun c149_5 => ?_)
            · refine lv_iconst (v := 0) hK.1.1 hK.1.2.1 dL_due_161 (by decide) ?_
              exact gk_zret0 hK.1 hret (by first | decide | exact (rp_nz (by first | assumption | (simp; done))).1) hlk hP hS (Nat.le_of_ble_eq_true rfl) (Nat.le_of_ble_eq_true rfl) dL_due_162 ⟨by rw [show t_dueS (nI d) ru fr S f = false from by rw [t_dueS, due_val (B := B) hnn (by rw [ha]; exact hv), ha]; simp [c120_2, c130_3, c149_5]]; rfl, rfl⟩
            · refine lv_iload hK.1.1 hK.1.2.1 dL_due_152 (lv_at hl 1 rfl) ?_
              refine lv_if_eq (tgt := 161) hK.1.1 hK.1.2.1 dL_due_154 (by decide) (fun c154_6 => ?_) (fun c154_6 => ?_)
              · refine lv_iconst (v := 0) hK.1.1 hK.1.2.1 dL_due_161 (by decide) ?_
                exact gk_zret0 hK.1 hret (by first | decide | exact (rp_nz (by first | assumption | (simp; done))).1) hlk hP hS (Nat.le_of_ble_eq_true rfl) (Nat.le_of_ble_eq_true rfl) dL_due_162 ⟨by rw [show t_dueS (nI d) ru fr S f = false from by rw [t_dueS, due_val (B := B) hnn (by rw [ha]; exact hv), ha]; simp [c120_2, c130_3, c149_5, (rg_b0.mp c154_6)]]; rfl, rfl⟩
              · refine lv_iconst (v := 1) hK.1.1 hK.1.2.1 dL_due_157 (by decide) ?_
                refine lv_goto (tgt := 162) hK.1.1 hK.1.2.1 dL_due_158 (by decide) ?_
                exact gk_zret0 hK.1 hret (by first | decide | exact (rp_nz (by first | assumption | (simp; done))).1) hlk hP hS (Nat.le_of_ble_eq_true rfl) (Nat.le_of_ble_eq_true rfl) dL_due_162 ⟨by rw [show t_dueS (nI d) ru fr S f = true from by rw [t_dueS, due_val (B := B) hnn (by rw [ha]; exact hv), ha]; simp [c120_2, c130_3, c149_5, (show B = true by cases hz9 : B with | true => rfl | false => exact absurd (rg_b0.mpr hz9) c154_6)]]; rfl, rfl⟩
      · have hle : a + 1 + i ≤ d := Nat.le_of_not_lt (fun q => c51_1 (nI_lt q (by omega)))
        refine lv_iload hK.1.1 hK.1.2.1 dL_due_54 (lv_at hl 0 rfl) ?_
        refine lv_aload_n hK.1.1 hK.1.2.1 dL_due_56 rfl (lv_at hl 5 rfl) ?_
        refine lv_iconst (v := 4) hK.1.1 hK.1.2.1 dL_due_57 (by decide) ?_
        refine lv_iload_n hK.1.1 hK.1.2.1 dL_due_58 rfl (lv_at hl 6 rfl) ?_
        refine lv_imul hK.1.1 hK.1.2.1 dL_due_59 ?_
        refine W.eq (g2 := F0 m 60 ls [.int (nI (4 * f)), .ref af, .int (nI (a + 1 + i))]) (by rw [show 4 * (nI f) = nI (4 * f) from pk_mul _ _]) ?_
        refine lv_iconst (v := 1) hK.1.1 hK.1.2.1 dL_due_60 (by decide) ?_
        refine lv_iadd hK.1.1 hK.1.2.1 dL_due_61 ?_
        refine W.eq (g2 := F0 m 62 ls [.int (nI ((4 * f) + 1)), .ref af, .int (nI (a + 1 + i))]) (by rw [show (nI (4 * f)) + 1 = nI ((4 * f) + 1) from nI_add _ _]) ?_
        refine gk_iald hK.1 hK.2.2.1.1 hP 0 hfa rfl (i := nI ((4 * f) + 1)) (vp_in_nI (n := (4 * f) + 1) (N := 20) (by omega) (by decide)) dL_due_62 ?_
        refine W.eq (g2 := F0 m 63 ls [.int (nI a), .int (nI (a + 1 + i))]) (by rw [show ff (nI ((4 * f) + 1)).toNatClampNeg = nI a from by rw [show (nI ((4 * f) + 1) : Int32).toNatClampNeg = (4 * f) + 1 from nI_clamp (n := (4 * f) + 1) (by omega)]; exact ((hlf f f5).2.1.trans ha)]) ?_
        refine lv_bipush (v := 31) hK.1.1 hK.1.2.1 dL_due_63 (by decide) ?_
        refine lv_iadd hK.1.1 hK.1.2.1 dL_due_65 ?_
        refine W.eq (g2 := F0 m 66 ls [.int (nI (a + 31)), .int (nI (a + 1 + i))]) (by rw [show (nI a) + 31 = nI (a + 31) from nI_add _ _]) ?_
        refine lv_icmp_ge (tgt := 115) hK.1.1 hK.1.2.1 dL_due_66 (by decide) (fun c66_7 => ?_) (fun c66_7 => ?_)
        · have hend : i = 30 ∨ d < a + 1 + i := Or.inl (by have := (nI_leI (by omega) (by omega)).mp c66_7; omega)
          have hv := due_B (by omega) hd g2 g3 hi hin hend hB
          refine lv_aload_n hK.1.1 hK.1.2.1 dL_due_115 rfl (lv_at hl 3 rfl) ?_
          refine lv_iload_n hK.1.1 hK.1.2.1 dL_due_116 rfl (lv_at hl 6 rfl) ?_
          refine gk_callSW (n := 2) (As := [.ref (ly_a y 0), .int (nI f)]) (rest := []) hK (c0_L_live l hfl hR (f := f) f5 (iv_Ll hI)) (gk_gS q_15_4 q_15_5 q_10_12 q_15_6) ⟨by decide +kernel, by decide +kernel, by decide +kernel⟩ ⟨(Nat.le_of_ble_eq_true rfl), (Nat.le_of_ble_eq_true rfl)⟩ hP hS rfl hl.1 rfl (Nat.le_of_ble_eq_true rfl) dL_due_117 ⟨(Nat.le_of_ble_eq_true rfl), (Nat.le_of_ble_eq_true rfl)⟩ (fun v G1 H locs hw hP hS => ?_)
          obtain ⟨rfl, hG9⟩ := hw
          rw [hG9] at hP
          refine W.eq (g2 := F0 m 120 ls [.int (S.2.2.2.2.2.2 0 (S.1 f))]) rfl ?_
          refine lv_if_le (tgt := 161) hK.1.1 hK.1.2.1 dL_due_120 (by decide) (fun c120_8 => ?_) (fun c120_8 => ?_)
          · refine lv_iconst (v := 0) hK.1.1 hK.1.2.1 dL_due_161 (by decide) ?_
            exact gk_zret0 hK.1 hret (by first | decide | exact (rp_nz (by first | assumption | (simp; done))).1) hlk hP hS (Nat.le_of_ble_eq_true rfl) (Nat.le_of_ble_eq_true rfl) dL_due_162 ⟨by rw [show t_dueS (nI d) ru fr S f = false from by rw [t_dueS, due_val (B := B) hnn (by rw [ha]; exact hv), ha]; simp [c120_8]]; rfl, rfl⟩
          · refine lv_aload_n hK.1.1 hK.1.2.1 dL_due_123 rfl (lv_at hl 5 rfl) ?_
            refine lv_iconst (v := 4) hK.1.1 hK.1.2.1 dL_due_124 (by decide) ?_
            refine lv_iload_n hK.1.1 hK.1.2.1 dL_due_125 rfl (lv_at hl 6 rfl) ?_
            refine lv_imul hK.1.1 hK.1.2.1 dL_due_126 ?_
            refine W.eq (g2 := F0 m 127 ls [.int (nI (4 * f)), .ref af]) (by rw [show 4 * (nI f) = nI (4 * f) from pk_mul _ _]) ?_
            refine lv_iconst (v := 2) hK.1.1 hK.1.2.1 dL_due_127 (by decide) ?_
            refine lv_iadd hK.1.1 hK.1.2.1 dL_due_128 ?_
            refine W.eq (g2 := F0 m 129 ls [.int (nI ((4 * f) + 2)), .ref af]) (by rw [show (nI (4 * f)) + 2 = nI ((4 * f) + 2) from nI_add _ _]) ?_
            refine gk_iald hK.1 hK.2.2.1.1 hP 0 hfa rfl (i := nI ((4 * f) + 2)) (vp_in_nI (n := (4 * f) + 2) (N := 20) (by omega) (by decide)) dL_due_129 ?_
            refine W.eq (g2 := F0 m 130 ls [.int (S.2.2.1 f)]) (by rw [show ff (nI ((4 * f) + 2)).toNatClampNeg = S.2.2.1 f from by rw [show (nI ((4 * f) + 2) : Int32).toNatClampNeg = (4 * f) + 2 from nI_clamp (n := (4 * f) + 2) (by omega)]; exact (hlf f f5).2.2.1]) ?_
            refine lv_if_eq (tgt := 152) hK.1.1 hK.1.2.1 dL_due_130 (by decide) (fun c130_9 => ?_) (fun c130_9 => ?_)
            · refine lv_iload hK.1.1 hK.1.2.1 dL_due_152 (lv_at hl 1 rfl) ?_
              refine lv_if_eq (tgt := 161) hK.1.1 hK.1.2.1 dL_due_154 (by decide) (fun c154_10 => ?_) (fun c154_10 => ?_)
              · refine lv_iconst (v := 0) hK.1.1 hK.1.2.1 dL_due_161 (by decide) ?_
                exact gk_zret0 hK.1 hret (by first | decide | exact (rp_nz (by first | assumption | (simp; done))).1) hlk hP hS (Nat.le_of_ble_eq_true rfl) (Nat.le_of_ble_eq_true rfl) dL_due_162 ⟨by rw [show t_dueS (nI d) ru fr S f = false from by rw [t_dueS, due_val (B := B) hnn (by rw [ha]; exact hv), ha]; simp [c120_8, c130_9, (rg_b0.mp c154_10)]]; rfl, rfl⟩
              · refine lv_iconst (v := 1) hK.1.1 hK.1.2.1 dL_due_157 (by decide) ?_
                refine lv_goto (tgt := 162) hK.1.1 hK.1.2.1 dL_due_158 (by decide) ?_
                exact gk_zret0 hK.1 hret (by first | decide | exact (rp_nz (by first | assumption | (simp; done))).1) hlk hP hS (Nat.le_of_ble_eq_true rfl) (Nat.le_of_ble_eq_true rfl) dL_due_162 ⟨by rw [show t_dueS (nI d) ru fr S f = true from by rw [t_dueS, due_val (B := B) hnn (by rw [ha]; exact hv), ha]; simp [c120_8, c130_9, (show B = true by cases hz9 : B with | true => rfl | false => exact absurd (rg_b0.mpr hz9) c154_10)]]; rfl, rfl⟩
            · refine lv_iload hK.1.1 hK.1.2.1 dL_due_133 (lv_at hl 7 rfl) ?_
              refine lv_aload_n hK.1.1 hK.1.2.1 dL_due_135 rfl (lv_at hl 5 rfl) ?_
              refine lv_iconst (v := 4) hK.1.1 hK.1.2.1 dL_due_136 (by decide) ?_
              refine lv_iload_n hK.1.1 hK.1.2.1 dL_due_137 rfl (lv_at hl 6 rfl) ?_
              refine lv_imul hK.1.1 hK.1.2.1 dL_due_138 ?_
              refine W.eq (g2 := F0 m 139 ls [.int (nI (4 * f)), .ref af, .int (nI d)]) (by rw [show 4 * (nI f) = nI (4 * f) from pk_mul _ _]) ?_
              refine lv_iconst (v := 1) hK.1.1 hK.1.2.1 dL_due_139 (by decide) ?_
              refine lv_iadd hK.1.1 hK.1.2.1 dL_due_140 ?_
              refine W.eq (g2 := F0 m 141 ls [.int (nI ((4 * f) + 1)), .ref af, .int (nI d)]) (by rw [show (nI (4 * f)) + 1 = nI ((4 * f) + 1) from nI_add _ _]) ?_
              refine gk_iald hK.1 hK.2.2.1.1 hP 0 hfa rfl (i := nI ((4 * f) + 1)) (vp_in_nI (n := (4 * f) + 1) (N := 20) (by omega) (by decide)) dL_due_141 ?_
              refine W.eq (g2 := F0 m 142 ls [.int (nI a), .int (nI d)]) (by rw [show ff (nI ((4 * f) + 1)).toNatClampNeg = nI a from by rw [show (nI ((4 * f) + 1) : Int32).toNatClampNeg = (4 * f) + 1 from nI_clamp (n := (4 * f) + 1) (by omega)]; exact ((hlf f f5).2.1.trans ha)]) ?_
              refine lv_isub hK.1.1 hK.1.2.1 dL_due_142 ?_
              refine lv_aload_n hK.1.1 hK.1.2.1 dL_due_143 rfl (lv_at hl 4 rfl) ?_
              refine lv_iload hK.1.1 hK.1.2.1 dL_due_144 (lv_at hl 2 rfl) ?_
              refine lv_iconst (v := 3) hK.1.1 hK.1.2.1 dL_due_146 (by decide) ?_
              refine lv_iadd hK.1.1 hK.1.2.1 dL_due_147 ?_
              refine W.eq (g2 := F0 m 148 ls [.int (nI ((9 * fr f) + 3)), .ref ar, .int ((nI d) - (nI a))]) (by rw [show (nI (9 * fr f)) + 3 = nI ((9 * fr f) + 3) from nI_add _ _]) ?_
              refine gk_iald hK.1 hK.2.2.1.1 hP 0 hra rfl (i := nI ((9 * fr f) + 3)) (vp_in_nI (n := (9 * fr f) + 3) (N := 27) (by omega) (by decide)) dL_due_148 ?_
              refine W.eq (g2 := F0 m 149 ls [.int (ru (fr f) 4), .int ((nI d) - (nI a))]) (by rw [show rr (nI ((9 * fr f) + 3)).toNatClampNeg = ru (fr f) 4 from by rw [show (nI ((9 * fr f) + 3) : Int32).toNatClampNeg = (9 * fr f) + 3 from nI_clamp (n := (9 * fr f) + 3) (by omega)]; exact (show rr ((9 * fr f) + 3) = ru (fr f) 4 from hlr _ (hI.2.2.1 f f5).1 3 (by decide))]) ?_
              refine lv_icmp_lt (tgt := 161) hK.1.1 hK.1.2.1 dL_due_149 (by decide) (fun c149_11 => ?_) (fun c149_11 => ?_)
              · refine lv_iconst (v := 0) hK.1.1 hK.1.2.1 dL_due_161 (by decide) ?_
                exact gk_zret0 hK.1 hret (by first | decide | exact (rp_nz (by first | assumption | (simp; done))).1) hlk hP hS (Nat.le_of_ble_eq_true rfl) (Nat.le_of_ble_eq_true rfl) dL_due_162 ⟨by rw [show t_dueS (nI d) ru fr S f = false from by rw [t_dueS, due_val (B := B) hnn (by rw [ha]; exact hv), ha]; simp [c120_8, c130_9, c149_11]]; rfl, rfl⟩
              · refine lv_iload hK.1.1 hK.1.2.1 dL_due_152 (lv_at hl 1 rfl) ?_
                refine lv_if_eq (tgt := 161) hK.1.1 hK.1.2.1 dL_due_154 (by decide) (fun c154_12 => ?_) (fun c154_12 => ?_)
                · refine lv_iconst (v := 0) hK.1.1 hK.1.2.1 dL_due_161 (by decide) ?_
                  exact gk_zret0 hK.1 hret (by first | decide | exact (rp_nz (by first | assumption | (simp; done))).1) hlk hP hS (Nat.le_of_ble_eq_true rfl) (Nat.le_of_ble_eq_true rfl) dL_due_162 ⟨by rw [show t_dueS (nI d) ru fr S f = false from by rw [t_dueS, due_val (B := B) hnn (by rw [ha]; exact hv), ha]; simp [c120_8, c130_9, c149_11, (rg_b0.mp c154_12)]]; rfl, rfl⟩
                · refine lv_iconst (v := 1) hK.1.1 hK.1.2.1 dL_due_157 (by decide) ?_
                  refine lv_goto (tgt := 162) hK.1.1 hK.1.2.1 dL_due_158 (by decide) ?_
                  exact gk_zret0 hK.1 hret (by first | decide | exact (rp_nz (by first | assumption | (simp; done))).1) hlk hP hS (Nat.le_of_ble_eq_true rfl) (Nat.le_of_ble_eq_true rfl) dL_due_162 ⟨by rw [show t_dueS (nI d) ru fr S f = true from by rw [t_dueS, due_val (B := B) hnn (by rw [ha]; exact hv), ha]; simp [c120_8, c130_9, c149_11, (show B = true by cases hz9 : B with | true => rfl | false => exact absurd (rg_b0.mpr hz9) c154_12)]]; rfl, rfl⟩
        · have hi30 : i < 30 := by have := mt (fun q => nI_le q (by omega)) c66_7; omega
          refine lv_iload hK.1.1 hK.1.2.1 dL_due_69 (lv_at hl 1 rfl) ?_
          refine lv_if_ne (tgt := 102) hK.1.1 hK.1.2.1 dL_due_71 (by decide) (fun c71_13 => ?_) (fun c71_13 => ?_)
          · have hBt : B = true := by cases hz9 : B with | true => rfl | false => exact absurd (rg_b0.mpr hz9) c71_13
            refine lv_iconst (v := 1) hK.1.1 hK.1.2.1 dL_due_102 (by decide) ?_
            refine lv_goto (tgt := 107) hK.1.1 hK.1.2.1 dL_due_103 (by decide) ?_
            refine lv_istore (lv' := [(6, .int 1), (7, .int (nI (a + 1 + i))), (5, .int (nI (9 * fr f))), (0, .ref (ly_a y 0)), (1, .ref ar), (2, .ref af), (3, .int (nI f)), (4, .int (nI d))]) hK.1.1 hK.1.2.1 dL_due_107 hl (by decide) rfl (fun ls hl => ?_)
            refine lv_iinc (v := nI ((a + 1 + i) + 1)) (lv' := [(7, .int (nI ((a + 1 + i) + 1))), (6, .int 1), (5, .int (nI (9 * fr f))), (0, .ref (ly_a y 0)), (1, .ref ar), (2, .ref af), (3, .int (nI f)), (4, .int (nI d))]) hK.1.1 hK.1.2.1 dL_due_109 hl (k := 1) rfl (nI_1 (a + 1 + i)) (by decide) rfl (fun ls hl => ?_)
            refine lv_goto (tgt := 47) hK.1.1 hK.1.2.1 dL_due_112 (by decide) ?_
            exact ih (30 - (i + 1)) (by omega) (i + 1) true ls _ _ rfl (by omega) (fun j hj => by omega) ⟨fun _ => by rcases hB.mp hBt with q | ⟨j, h1, h2⟩; (exact Or.inl q); (exact Or.inr ⟨j, by omega, h2⟩), fun _ => rfl⟩ hP hS (lv_sub hl [0, 1, 2, 3, 4, 5, 6, 7] rfl)
          · have hBf : ¬ ((¬ ru (fr f) 1 = 0 ∧ ru (fr f) 1 ≤ S.2.2.2.2.2.2 0 (S.1 f)) ∨ (∃ j, j < i ∧ (nI ((a + 1 + j) % 7) = ru (fr f) 2 ∨ nI ((a + 1 + j) % 30) = ru (fr f) 3))) := fun q => by have h1 := rg_b0.mp c71_13; rw [hB.mpr q] at h1; cases h1
            refine lv_iload hK.1.1 hK.1.2.1 dL_due_74 (lv_at hl 0 rfl) ?_
            refine lv_bipush (v := 7) hK.1.1 hK.1.2.1 dL_due_76 (by decide) ?_
            refine lv_irem hK.1.1 hK.1.2.1 dL_due_78 (by decide) ?_
            refine W.eq (g2 := F0 m 79 ls [.int (nI ((a + 1 + i) % 7))]) (by rw [show (nI (a + 1 + i)) - (nI (a + 1 + i)) / 7 * 7 = nI ((a + 1 + i) % 7) from pk_rem (by omega) (by decide) (by decide)]) ?_
            refine lv_aload_n hK.1.1 hK.1.2.1 dL_due_79 rfl (lv_at hl 4 rfl) ?_
            refine lv_iload hK.1.1 hK.1.2.1 dL_due_80 (lv_at hl 2 rfl) ?_
            refine lv_iconst (v := 1) hK.1.1 hK.1.2.1 dL_due_82 (by decide) ?_
            refine lv_iadd hK.1.1 hK.1.2.1 dL_due_83 ?_
            refine W.eq (g2 := F0 m 84 ls [.int (nI ((9 * fr f) + 1)), .ref ar, .int (nI ((a + 1 + i) % 7))]) (by rw [show (nI (9 * fr f)) + 1 = nI ((9 * fr f) + 1) from nI_add _ _]) ?_
            refine gk_iald hK.1 hK.2.2.1.1 hP 0 hra rfl (i := nI ((9 * fr f) + 1)) (vp_in_nI (n := (9 * fr f) + 1) (N := 27) (by omega) (by decide)) dL_due_84 ?_
            refine W.eq (g2 := F0 m 85 ls [.int (ru (fr f) 2), .int (nI ((a + 1 + i) % 7))]) (by rw [show rr (nI ((9 * fr f) + 1)).toNatClampNeg = ru (fr f) 2 from by rw [show (nI ((9 * fr f) + 1) : Int32).toNatClampNeg = (9 * fr f) + 1 from nI_clamp (n := (9 * fr f) + 1) (by omega)]; exact (show rr ((9 * fr f) + 1) = ru (fr f) 2 from hlr _ (hI.2.2.1 f f5).1 1 (by decide))]) ?_
            refine lv_icmp_eq (tgt := 102) hK.1.1 hK.1.2.1 dL_due_85 (by decide) (fun c85_14 => ?_) (fun c85_14 => ?_)
            · refine lv_iconst (v := 1) hK.1.1 hK.1.2.1 dL_due_102 (by decide) ?_
              refine lv_goto (tgt := 107) hK.1.1 hK.1.2.1 dL_due_103 (by decide) ?_
              refine lv_istore (lv' := [(6, .int 1), (7, .int (nI (a + 1 + i))), (5, .int (nI (9 * fr f))), (0, .ref (ly_a y 0)), (1, .ref ar), (2, .ref af), (3, .int (nI f)), (4, .int (nI d))]) hK.1.1 hK.1.2.1 dL_due_107 hl (by decide) rfl (fun ls hl => ?_)
              refine lv_iinc (v := nI ((a + 1 + i) + 1)) (lv' := [(7, .int (nI ((a + 1 + i) + 1))), (6, .int 1), (5, .int (nI (9 * fr f))), (0, .ref (ly_a y 0)), (1, .ref ar), (2, .ref af), (3, .int (nI f)), (4, .int (nI d))]) hK.1.1 hK.1.2.1 dL_due_109 hl (k := 1) rfl (nI_1 (a + 1 + i)) (by decide) rfl (fun ls hl => ?_)
              refine lv_goto (tgt := 47) hK.1.1 hK.1.2.1 dL_due_112 (by decide) ?_
              exact ih (30 - (i + 1)) (by omega) (i + 1) true ls _ _ rfl (by omega) (fun j hj => by omega) ⟨fun _ => Or.inr ⟨i, by omega, Or.inl c85_14⟩, fun _ => rfl⟩ hP hS (lv_sub hl [0, 1, 2, 3, 4, 5, 6, 7] rfl)
            · refine lv_iload hK.1.1 hK.1.2.1 dL_due_88 (lv_at hl 0 rfl) ?_
              refine lv_bipush (v := 30) hK.1.1 hK.1.2.1 dL_due_90 (by decide) ?_
              refine lv_irem hK.1.1 hK.1.2.1 dL_due_92 (by decide) ?_
              refine W.eq (g2 := F0 m 93 ls [.int (nI ((a + 1 + i) % 30))]) (by rw [show (nI (a + 1 + i)) - (nI (a + 1 + i)) / 30 * 30 = nI ((a + 1 + i) % 30) from pk_rem (by omega) (by decide) (by decide)]) ?_
              refine lv_aload_n hK.1.1 hK.1.2.1 dL_due_93 rfl (lv_at hl 4 rfl) ?_
              refine lv_iload hK.1.1 hK.1.2.1 dL_due_94 (lv_at hl 2 rfl) ?_
              refine lv_iconst (v := 2) hK.1.1 hK.1.2.1 dL_due_96 (by decide) ?_
              refine lv_iadd hK.1.1 hK.1.2.1 dL_due_97 ?_
              refine W.eq (g2 := F0 m 98 ls [.int (nI ((9 * fr f) + 2)), .ref ar, .int (nI ((a + 1 + i) % 30))]) (by rw [show (nI (9 * fr f)) + 2 = nI ((9 * fr f) + 2) from nI_add _ _]) ?_
              refine gk_iald hK.1 hK.2.2.1.1 hP 0 hra rfl (i := nI ((9 * fr f) + 2)) (vp_in_nI (n := (9 * fr f) + 2) (N := 27) (by omega) (by decide)) dL_due_98 ?_
              refine W.eq (g2 := F0 m 99 ls [.int (ru (fr f) 3), .int (nI ((a + 1 + i) % 30))]) (by rw [show rr (nI ((9 * fr f) + 2)).toNatClampNeg = ru (fr f) 3 from by rw [show (nI ((9 * fr f) + 2) : Int32).toNatClampNeg = (9 * fr f) + 2 from nI_clamp (n := (9 * fr f) + 2) (by omega)]; exact (show rr ((9 * fr f) + 2) = ru (fr f) 3 from hlr _ (hI.2.2.1 f f5).1 2 (by decide))]) ?_
              refine lv_icmp_ne (tgt := 106) hK.1.1 hK.1.2.1 dL_due_99 (by decide) (fun c99_15 => ?_) (fun c99_15 => ?_)
              · refine lv_iconst (v := 0) hK.1.1 hK.1.2.1 dL_due_106 (by decide) ?_
                refine lv_istore (lv' := [(6, .int 0), (7, .int (nI (a + 1 + i))), (5, .int (nI (9 * fr f))), (0, .ref (ly_a y 0)), (1, .ref ar), (2, .ref af), (3, .int (nI f)), (4, .int (nI d))]) hK.1.1 hK.1.2.1 dL_due_107 hl (by decide) rfl (fun ls hl => ?_)
                refine lv_iinc (v := nI ((a + 1 + i) + 1)) (lv' := [(7, .int (nI ((a + 1 + i) + 1))), (6, .int 0), (5, .int (nI (9 * fr f))), (0, .ref (ly_a y 0)), (1, .ref ar), (2, .ref af), (3, .int (nI f)), (4, .int (nI d))]) hK.1.1 hK.1.2.1 dL_due_109 hl (k := 1) rfl (nI_1 (a + 1 + i)) (by decide) rfl (fun ls hl => ?_)
                refine lv_goto (tgt := 47) hK.1.1 hK.1.2.1 dL_due_112 (by decide) ?_
                exact ih (30 - (i + 1)) (by omega) (i + 1) false ls _ _ rfl (by omega) (fun j hj => by omega) ⟨fun q => (by cases q), fun q => (by rcases q with q | ⟨j, h1, h2⟩; (exact absurd (Or.inl q) hBf); (by_cases hj : j = i; (rw [hj] at h2; exact absurd h2 (fun z => z.elim c85_14 c99_15)); (exact absurd (Or.inr ⟨j, by omega, h2⟩) hBf)))⟩ hP hS (lv_sub hl [0, 1, 2, 3, 4, 5, 6, 7] rfl)
              · refine lv_iconst (v := 1) hK.1.1 hK.1.2.1 dL_due_102 (by decide) ?_
                refine lv_goto (tgt := 107) hK.1.1 hK.1.2.1 dL_due_103 (by decide) ?_
                refine lv_istore (lv' := [(6, .int 1), (7, .int (nI (a + 1 + i))), (5, .int (nI (9 * fr f))), (0, .ref (ly_a y 0)), (1, .ref ar), (2, .ref af), (3, .int (nI f)), (4, .int (nI d))]) hK.1.1 hK.1.2.1 dL_due_107 hl (by decide) rfl (fun ls hl => ?_)
                refine lv_iinc (v := nI ((a + 1 + i) + 1)) (lv' := [(7, .int (nI ((a + 1 + i) + 1))), (6, .int 1), (5, .int (nI (9 * fr f))), (0, .ref (ly_a y 0)), (1, .ref ar), (2, .ref af), (3, .int (nI f)), (4, .int (nI d))]) hK.1.1 hK.1.2.1 dL_due_109 hl (k := 1) rfl (nI_1 (a + 1 + i)) (by decide) rfl (fun ls hl => ?_)
                refine lv_goto (tgt := 47) hK.1.1 hK.1.2.1 dL_due_112 (by decide) ?_
                exact ih (30 - (i + 1)) (by omega) (i + 1) true ls _ _ rfl (by omega) (fun j hj => by omega) ⟨fun _ => Or.inr ⟨i, by omega, Or.inr c99_15⟩, fun _ => rfl⟩ hP hS (lv_sub hl [0, 1, 2, 3, 4, 5, 6, 7] rfl)
    exact loop _ 0 B ls _ _ rfl (by omega) (fun j hj => absurd hj (Nat.not_lt_zero j)) ⟨fun q => Or.inl (hB.mp q), fun q => q.elim hB.mpr (fun ⟨j, hj, _⟩ => absurd hj (Nat.not_lt_zero j))⟩ hP hS (lv_sub hl [0, 1, 2, 3, 4, 5, 6, 7] rfl)
  refine lv_bipush (v := 9) hK.1.1 hK.1.2.1 dL_due_0 (by decide) ?_
  refine lv_aload_n hK.1.1 hK.1.2.1 dL_due_2 rfl (lv_at hl 2 rfl) ?_
  refine lv_iconst (v := 4) hK.1.1 hK.1.2.1 dL_due_3 (by decide) ?_
  refine lv_iload_n hK.1.1 hK.1.2.1 dL_due_4 rfl (lv_at hl 3 rfl) ?_
  refine lv_imul hK.1.1 hK.1.2.1 dL_due_5 ?_
  refine W.eq (g2 := F0 m 6 ls [.int (nI (4 * f)), .ref af, .int 9]) (by rw [show 4 * (nI f) = nI (4 * f) from pk_mul _ _]) ?_
  refine gk_iald hK.1 hK.2.2.1.1 hP 0 hfa rfl (i := nI (4 * f)) (vp_in_nI (n := 4 * f) (N := 20) (by omega) (by decide)) dL_due_6 ?_
  refine W.eq (g2 := F0 m 7 ls [.int (nI (fr f)), .int 9]) (by rw [show ff (nI (4 * f)).toNatClampNeg = nI (fr f) from by rw [show (nI (4 * f) : Int32).toNatClampNeg = 4 * f from nI_clamp (n := 4 * f) (by omega)]; exact (hlf f f5).1]) ?_
  refine lv_imul hK.1.1 hK.1.2.1 dL_due_7 ?_
  refine W.eq (g2 := F0 m 8 ls [.int (nI (9 * (fr f)))]) (by rw [show 9 * (nI (fr f)) = nI (9 * (fr f)) from pk_mul _ _]) ?_
  refine lv_istore (lv' := [(5, .int (nI (9 * (fr f)))), (0, .ref (ly_a y 0)), (1, .ref ar), (2, .ref af), (3, .int (nI f)), (4, .int (nI d))]) hK.1.1 hK.1.2.1 dL_due_8 hl (by decide) rfl (fun ls hl => ?_)
  refine lv_aload_n hK.1.1 hK.1.2.1 dL_due_10 rfl (lv_at hl 2 rfl) ?_
  refine lv_iload hK.1.1 hK.1.2.1 dL_due_11 (lv_at hl 0 rfl) ?_
  refine gk_iald hK.1 hK.2.2.1.1 hP 0 hra rfl (i := nI (9 * (fr f))) (vp_in_nI (n := 9 * (fr f)) (N := 27) (by omega) (by decide)) dL_due_13 ?_
  refine W.eq (g2 := F0 m 14 ls [.int (ru (fr f) 1)]) (by rw [show rr (nI (9 * (fr f))).toNatClampNeg = ru (fr f) 1 from by rw [show (nI (9 * (fr f)) : Int32).toNatClampNeg = 9 * (fr f) from nI_clamp (n := 9 * (fr f)) (by omega)]; exact (show rr (9 * (fr f)) = ru (fr f) 1 from hlr _ (hI.2.2.1 f f5).1 0 (by decide))]) ?_
  refine lv_if_le (tgt := 33) hK.1.1 hK.1.2.1 dL_due_14 (by decide) (fun c14_16 => ?_) (fun c14_16 => ?_)
  · refine lv_iconst (v := 0) hK.1.1 hK.1.2.1 dL_due_33 (by decide) ?_
    exact J34 false ls _ _ ⟨fun q => (by cases q), fun q => absurd ((x_le0 g1.1).mp c14_16) q.1⟩ hP hS (lv_sub hl [0, 1, 2, 3, 4, 5] rfl)
  · have hsz := c14_16
    refine lv_aload_n hK.1.1 hK.1.2.1 dL_due_17 rfl (lv_at hl 1 rfl) ?_
    refine lv_iload_n hK.1.1 hK.1.2.1 dL_due_18 rfl (lv_at hl 4 rfl) ?_
    refine gk_callSW (n := 2) (As := [.ref (ly_a y 0), .int (nI f)]) (rest := []) hK (c0_L_live l hfl hR (f := f) f5 (iv_Ll hI)) (gk_gS q_15_4 q_15_5 q_10_12 q_15_6) ⟨by decide +kernel, by decide +kernel, by decide +kernel⟩ ⟨(Nat.le_of_ble_eq_true rfl), (Nat.le_of_ble_eq_true rfl)⟩ hP hS rfl hl.1 rfl (Nat.le_of_ble_eq_true rfl) dL_due_19 ⟨(Nat.le_of_ble_eq_true rfl), (Nat.le_of_ble_eq_true rfl)⟩ (fun v G1 H locs hw hP hS => ?_)
    obtain ⟨rfl, hG9⟩ := hw
    rw [hG9] at hP
    refine W.eq (g2 := F0 m 22 ls [.int (S.2.2.2.2.2.2 0 (S.1 f))]) rfl ?_
    refine lv_aload_n hK.1.1 hK.1.2.1 dL_due_22 rfl (lv_at hl 2 rfl) ?_
    refine lv_iload hK.1.1 hK.1.2.1 dL_due_23 (lv_at hl 0 rfl) ?_
    refine gk_iald hK.1 hK.2.2.1.1 hP 0 hra rfl (i := nI (9 * (fr f))) (vp_in_nI (n := 9 * (fr f)) (N := 27) (by omega) (by decide)) dL_due_25 ?_
    refine W.eq (g2 := F0 m 26 ls [.int (ru (fr f) 1), .int (S.2.2.2.2.2.2 0 (S.1 f))]) (by rw [show rr (nI (9 * (fr f))).toNatClampNeg = ru (fr f) 1 from by rw [show (nI (9 * (fr f)) : Int32).toNatClampNeg = 9 * (fr f) from nI_clamp (n := 9 * (fr f)) (by omega)]; exact (show rr (9 * (fr f)) = ru (fr f) 1 from hlr _ (hI.2.2.1 f f5).1 0 (by decide))]) ?_
    refine lv_icmp_lt (tgt := 33) hK.1.1 hK.1.2.1 dL_due_26 (by decide) (fun c26_17 => ?_) (fun c26_17 => ?_)
    · refine lv_iconst (v := 0) hK.1.1 hK.1.2.1 dL_due_33 (by decide) ?_
      exact J34 false ls _ _ ⟨fun q => (by cases q), fun q => absurd c26_17 (Int32.not_lt.mpr q.2)⟩ hP hS (lv_sub hl [0, 1, 2, 3, 4, 5] rfl)
    · refine lv_iconst (v := 1) hK.1.1 hK.1.2.1 dL_due_29 (by decide) ?_
      refine lv_goto (tgt := 34) hK.1.1 hK.1.2.1 dL_due_30 (by decide) ?_
      exact J34 true ls _ _ ⟨fun _ => ⟨fun q => hsz ((x_le0 g1.1).mpr q), Int32.not_lt.mp c26_17⟩, fun _ => rfl⟩ hP hS (lv_sub hl [0, 1, 2, 3, 4, 5] rfl)
