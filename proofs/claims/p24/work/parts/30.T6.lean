/-! the class: a run -/
/-- the bit of f -/
def t_bit (b : Int32) (f : Nat) : Int32 := (b >>> (nI f &&& 31)) &&& 1
/-- a file of the rule r is among them -/
def t_among (fr : Nat → Nat) (b : Int32) (r : Nat) : Bool := (List.range 5).any (fun f => decide (¬ t_bit b f = 0) && decide (fr f = r))
theorem t_among_t {fr : Nat → Nat} {b : Int32} {r f : Nat} (hf : f < 5) (h1 : ¬ t_bit b f = 0) (h2 : fr f = r) : t_among fr b r = true := List.any_eq_true.mpr ⟨f, List.mem_range.mpr hf, by simp [h1, h2]⟩
theorem t_among_f {fr : Nat → Nat} {b : Int32} {r : Nat} (h : ∀ f, f < 5 → ¬ (¬ t_bit b f = 0 ∧ fr f = r)) : t_among fr b r = false := List.any_eq_false.mpr (fun f hf => by
  have := h f (List.mem_range.mp hf)
  simp only [Bool.and_eq_true, decide_eq_true_eq]
  exact this)
/-- the first n holders of files of the rule r hold the live part -/
def t_tl (fr lv : Nat → Nat) (hf : Nat → Option Nat) (r : Nat) (hp : Nat → Option Nat) (n : Nat) : Nat → Option Nat := fun h => if h < n then (match hf h with
  | some f => if fr f = r then some (lv f) else hp h
  | none => hp h) else hp h
theorem t_tl0 (fr lv : Nat → Nat) (hf : Nat → Option Nat) (r : Nat) (hp : Nat → Option Nat) : t_tl fr lv hf r hp 0 = hp := by
  funext h
  simp [t_tl]
theorem t_tl_n {fr lv : Nat → Nat} {hf : Nat → Option Nat} {r : Nat} {hp : Nat → Option Nat} {n : Nat} (h : hf n = none) : t_tl fr lv hf r hp (n + 1) = t_tl fr lv hf r hp n := by
  funext k
  simp only [t_tl]
  by_cases hk : k = n
  · subst hk; simp [h]
  · simp only [show (k < n + 1) = (k < n) from propext (by omega)]
theorem t_tl_o {fr lv : Nat → Nat} {hf : Nat → Option Nat} {r f : Nat} {hp : Nat → Option Nat} {n : Nat} (h : hf n = some f) (h2 : ¬ fr f = r) : t_tl fr lv hf r hp (n + 1) = t_tl fr lv hf r hp n := by
  funext k
  simp only [t_tl]
  by_cases hk : k = n
  · subst hk; simp [h, h2]
  · simp only [show (k < n + 1) = (k < n) from propext (by omega)]
theorem t_tl_y {fr lv : Nat → Nat} {hf : Nat → Option Nat} {r f : Nat} {hp : Nat → Option Nat} {n : Nat} (h : hf n = some f) (h2 : fr f = r) : t_tl fr lv hf r hp (n + 1) = va_up (t_tl fr lv hf r hp n) n (some (lv f)) := by
  funext k
  simp only [t_tl, va_up]
  by_cases hk : k = n
  · subst hk; simp [h, h2]
  · simp only [show (k < n + 1) = (k < n) from propext (by omega), if_neg hk]
set_option maxHeartbeats 4000000 in
set_option maxRecDepth 100000 in
theorem c_X4_hasFileAmong (l : Launch) {y : ly_T} {A : Nat → Prop} {G : gk_G} {td : Int32} {ru : Nat → Nat → Int32} {fr lv : Nat → Nat} {lt et tl : Nat → Int32} {hf hp : Nat → Option Nat} {ol : Nat → List Nat} {PS : Nat → Prop} {pf : Nat → Nat → Int32} {r : Nat} {b : Int32}  (hR : rp y G td ru fr lv lt et tl hf hp ol PS pf) (hr3 : r < 3) : gk_M0 l yX4_hasFileAmong (Cond.code yX4_hasFileAmong cX4_hasFileAmong 4 (some .boolean)) 0 0 0 0 y A [.ref (ly_a y 0), .ref (ly_f y 0 r), .int b] G (fun v G1 => v = some (.int (rg_b (t_among fr b r))) ∧ G1 = G) := by
  refine gk_of0 (cc := cX4_hasFileAmong) (maxL := 4) (ret := (some .boolean)) (own := RX4) (by decide +kernel) rfl rfl (Nat.le_of_ble_eq_true rfl) ?_
  intro p e s m below meth c ls hK hret hlk _ hP hS hl
  have hl : lv_has ls 4 [(0, .ref (ly_a y 0)), (1, .ref (ly_f y 0 r)), (2, .int b)] := hl
  refine lv_iconst (v := 0) hK.1.1 hK.1.2.1 dX4_hasFileAmong_0 (by decide) ?_
  refine lv_istore_n (lv' := [(3, .int 0), (0, .ref (ly_a y 0)), (1, .ref (ly_f y 0 r)), (2, .int b)]) hK.1.1 hK.1.2.1 dX4_hasFileAmong_1 rfl hl (by decide) rfl (fun ls hl => ?_)
  have loop : ∀ (dd : Nat) (k : Nat) (ls : Array Slot) (H : Heap) (locs : List Loc), 5 - k = dd → (k ≤ 5) → (∀ j, j < k → ¬ (¬ t_bit b j = 0 ∧ fr j = r)) → gk_P (ly_D y) A G H → va_S A s.heap H locs → lv_has ls 4 [(3, .int (nI k)), (0, .ref (ly_a y 0)), (1, .ref (ly_f y 0 r)), (2, .int b)] → W p l e { frames := 0, cells := 0, slots := 0, locals := 0 } s m [.ref (ly_a y 0), .ref (ly_f y 0 r), .int b].toArray below meth c H locs 0 0 (MQ below (gk_Q y A (fun v G1 => v = some (.int (rg_b (t_among fr b r))) ∧ G1 = G)) [.ref (ly_a y 0), .ref (ly_f y 0 r), .int b].toArray s 0 0 A) (F0 m 2 ls []) := by
    intro dd
    induction dd using Nat.strongRecOn with
    | _ dd ih =>
    intro k ls H locs hdd hk hno hP hS hl
    refine lv_iload_n hK.1.1 hK.1.2.1 dX4_hasFileAmong_2 rfl (lv_at hl 0 rfl) ?_
    refine lv_iconst (v := 5) hK.1.1 hK.1.2.1 dX4_hasFileAmong_3 (by decide) ?_
    refine lv_icmp_ge (tgt := 36) hK.1.1 hK.1.2.1 dX4_hasFileAmong_4 (by decide) (fun c4_1 => ?_) (fun c4_1 => ?_)
    · have hk5 : k = 5 := Nat.le_antisymm hk ((nI_leI (a := 5) (by omega) (by omega)).mp c4_1)
      refine lv_iconst (v := 0) hK.1.1 hK.1.2.1 dX4_hasFileAmong_36 (by decide) ?_
      exact gk_zret0 hK.1 hret (by first | decide | exact (rp_nz (by first | assumption | (simp; done))).1) hlk hP hS (Nat.le_of_ble_eq_true rfl) (Nat.le_of_ble_eq_true rfl) dX4_hasFileAmong_37 ⟨by rw [t_among_f (fun f hf => hno f (by omega))]; rfl, rfl⟩
    · have hk5 : k < 5 := Nat.lt_of_not_le (fun h => c4_1 (nI_le (a := 5) h (by omega)))
      refine lv_iload_n hK.1.1 hK.1.2.1 dX4_hasFileAmong_7 rfl (lv_at hl 3 rfl) ?_
      refine lv_iload_n hK.1.1 hK.1.2.1 dX4_hasFileAmong_8 rfl (lv_at hl 0 rfl) ?_
      refine lv_ishr hK.1.1 hK.1.2.1 dX4_hasFileAmong_9 ?_
      refine lv_iconst (v := 1) hK.1.1 hK.1.2.1 dX4_hasFileAmong_10 (by decide) ?_
      refine lv_iand hK.1.1 hK.1.2.1 dX4_hasFileAmong_11 ?_
      refine lv_if_eq (tgt := 30) hK.1.1 hK.1.2.1 dX4_hasFileAmong_12 (by decide) (fun c12_2 => ?_) (fun c12_2 => ?_)
      · have hnk : ¬ (¬ t_bit b k = 0 ∧ fr k = r) := fun h => h.1 c12_2
        refine lv_iinc (v := nI (k + 1)) (lv' := [(3, .int (nI (k + 1))), (0, .ref (ly_a y 0)), (1, .ref (ly_f y 0 r)), (2, .int b)]) hK.1.1 hK.1.2.1 dX4_hasFileAmong_30 hl (k := 0) rfl (nI_1 k) (by decide) rfl (fun ls hl => ?_)
        refine lv_goto (tgt := 2) hK.1.1 hK.1.2.1 dX4_hasFileAmong_33 (by decide) ?_
        exact ih (5 - (k + 1)) (by omega)  (k + 1) ls _ _ rfl (by omega) (fun j hj hz => by by_cases hjk : j = k; (rw [hjk] at hz; exact hnk hz); (exact hno j (by omega) hz)) hP hS (lv_sub hl [0, 1, 2, 3] rfl)
      · have hbt : ¬ t_bit b k = 0 := c12_2
        refine lv_aload_n hK.1.1 hK.1.2.1 dX4_hasFileAmong_15 rfl (lv_at hl 1 rfl) ?_
        refine tr_17 hK hP hR dX4_hasFileAmong_16 ?_
        refine lv_iload_n hK.1.1 hK.1.2.1 dX4_hasFileAmong_19 rfl (lv_at hl 0 rfl) ?_
        refine ta_files hK hP hR (i := k) hk5 dX4_hasFileAmong_20 ?_
        refine tr_75 hK hP hR hk5 dX4_hasFileAmong_21 ?_
        refine lv_aload_n hK.1.1 hK.1.2.1 dX4_hasFileAmong_24 rfl (lv_at hl 2 rfl) ?_
        refine lv_acmp_ne (rx := some (ly_f y 0 (fr k))) (ry := some (ly_f y 0 r)) (tgt := 30) hK.1.1 hK.1.2.1 dX4_hasFileAmong_25 (by decide) (fun c25_3 => ?_) (fun c25_3 => ?_)
        · have hnk : ¬ (¬ t_bit b k = 0 ∧ fr k = r) := fun h => c25_3 (by rw [h.2])
          refine lv_iinc (v := nI (k + 1)) (lv' := [(3, .int (nI (k + 1))), (0, .ref (ly_a y 0)), (1, .ref (ly_f y 0 r)), (2, .int b)]) hK.1.1 hK.1.2.1 dX4_hasFileAmong_30 hl (k := 0) rfl (nI_1 k) (by decide) rfl (fun ls hl => ?_)
          refine lv_goto (tgt := 2) hK.1.1 hK.1.2.1 dX4_hasFileAmong_33 (by decide) ?_
          exact ih (5 - (k + 1)) (by omega)  (k + 1) ls _ _ rfl (by omega) (fun j hj hz => by by_cases hjk : j = k; (rw [hjk] at hz; exact hnk hz); (exact hno j (by omega) hz)) hP hS (lv_sub hl [0, 1, 2, 3] rfl)
        · have hye : fr k = r := rp_rinj hR.2.2.1 (hR.2.2.2.1 k hk5).1 hr3 (Option.some.inj c25_3)
          refine lv_iconst (v := 1) hK.1.1 hK.1.2.1 dX4_hasFileAmong_28 (by decide) ?_
          exact gk_zret0 hK.1 hret (by first | decide | exact (rp_nz (by first | assumption | (simp; done))).1) hlk hP hS (Nat.le_of_ble_eq_true rfl) (Nat.le_of_ble_eq_true rfl) dX4_hasFileAmong_29 ⟨by rw [t_among_t hk5 hbt hye]; rfl, rfl⟩
  exact loop _ 0 ls _ _ rfl (by omega) (fun j hj => absurd hj (Nat.not_lt_zero j)) hP hS (lv_sub hl [0, 1, 2, 3] rfl)
set_option maxHeartbeats 4000000 in
set_option maxRecDepth 100000 in
theorem c_X4_tellHoldersOf (l : Launch) {y : ly_T} {A : Nat → Prop} {G : gk_G} {td : Int32} {ru : Nat → Nat → Int32} {fr lv : Nat → Nat} {lt et tl : Nat → Int32} {hf hp : Nat → Option Nat} {ol : Nat → List Nat} {PS : Nat → Prop} {pf : Nat → Nat → Int32} {r : Nat}  (hR : rp y G td ru fr lv lt et tl hf hp ol PS pf) (hr3 : r < 3) : gk_M0 l yX4_tellHoldersOf (Cond.code yX4_tellHoldersOf cX4_tellHoldersOf 4 none) 0 0 0 0 y A [.ref (ly_a y 0), .ref (ly_f y 0 r)] G (fun v G1 => v = none ∧ rp y G1 td ru fr lv lt et tl hf (t_tl fr lv hf r hp 4) ol PS pf) := by
  refine gk_of0 (cc := cX4_tellHoldersOf) (maxL := 4) (ret := none) (own := RX4) (by decide +kernel) rfl rfl (Nat.le_of_ble_eq_true rfl) ?_
  intro p e s m below meth c ls hK hret hlk _ hP hS hl
  have hl : lv_has ls 4 [(0, .ref (ly_a y 0)), (1, .ref (ly_f y 0 r))] := hl
  refine lv_iconst (v := 0) hK.1.1 hK.1.2.1 dX4_tellHoldersOf_0 (by decide) ?_
  refine lv_istore_n (lv' := [(2, .int 0), (0, .ref (ly_a y 0)), (1, .ref (ly_f y 0 r))]) hK.1.1 hK.1.2.1 dX4_tellHoldersOf_1 rfl hl (by decide) rfl (fun ls hl => ?_)
  have loop : ∀ (dd : Nat) (k : Nat) (ls : Array Slot) (H : Heap) (locs : List Loc) (G : gk_G), 4 - k = dd → (k ≤ 4) → gk_P (ly_D y) A G H → va_S A s.heap H locs → rp y G td ru fr lv lt et tl hf (t_tl fr lv hf r hp k) ol PS pf → lv_has ls 4 [(2, .int (nI k)), (0, .ref (ly_a y 0)), (1, .ref (ly_f y 0 r))] → W p l e { frames := 0, cells := 0, slots := 0, locals := 0 } s m [.ref (ly_a y 0), .ref (ly_f y 0 r)].toArray below meth c H locs 0 0 (MQ below (gk_Q y A (fun v G1 => v = none ∧ rp y G1 td ru fr lv lt et tl hf (t_tl fr lv hf r hp 4) ol PS pf)) [.ref (ly_a y 0), .ref (ly_f y 0 r)].toArray s 0 0 A) (F0 m 2 ls []) := by
    intro dd
    induction dd using Nat.strongRecOn with
    | _ dd ih =>
    intro k ls H locs G hdd hk hP hS hR hl
    refine lv_iload_n hK.1.1 hK.1.2.1 dX4_tellHoldersOf_2 rfl (lv_at hl 0 rfl) ?_
    refine lv_iconst (v := 4) hK.1.1 hK.1.2.1 dX4_tellHoldersOf_3 (by decide) ?_
    refine lv_icmp_ge (tgt := 48) hK.1.1 hK.1.2.1 dX4_tellHoldersOf_4 (by decide) (fun c4_1 => ?_) (fun c4_1 => ?_)
    · have hk4 : k = 4 := Nat.le_antisymm hk ((nI_leI (a := 4) (by omega) (by omega)).mp c4_1)
      subst hk4
      exact gk_vret0 hK.1 hret hlk hP hS (Nat.le_of_ble_eq_true rfl) (Nat.le_of_ble_eq_true rfl) dX4_tellHoldersOf_48 ⟨rfl, hR⟩
    · have hk4 : k < 4 := Nat.lt_of_not_le (fun h => c4_1 (nI_le (a := 4) h (by omega)))
      refine lv_aload_n hK.1.1 hK.1.2.1 dX4_tellHoldersOf_7 rfl (lv_at hl 1 rfl) ?_
      refine tr_23 hK hP hR dX4_tellHoldersOf_8 ?_
      refine lv_iload_n hK.1.1 hK.1.2.1 dX4_tellHoldersOf_11 rfl (lv_at hl 0 rfl) ?_
      refine ta_holders hK hP hR (i := k) hk4 dX4_tellHoldersOf_12 ?_
      rcases ef_3 : hf k with _ | f_2
      · refine tr_86 hK hP hR hk4 dX4_tellHoldersOf_13 ?_
        rw [ef_3]
        refine W.eq (g2 := F0 m 16 ls [.null]) rfl ?_
        refine lv_astore_nN (lv' := [(3, .null), (2, .int (nI k)), (0, .ref (ly_a y 0)), (1, .ref (ly_f y 0 r))]) hK.1.1 hK.1.2.1 dX4_tellHoldersOf_16 rfl hl (by decide) rfl (fun ls hl => ?_)
        refine lv_aload_nN hK.1.1 hK.1.2.1 dX4_tellHoldersOf_17 rfl (lv_at hl 0 rfl) ?_
        refine lv_ifnullN (tgt := 42) hK.1.1 hK.1.2.1 dX4_tellHoldersOf_18 (by decide) ?_
        refine lv_iinc (v := nI (k + 1)) (lv' := [(2, .int (nI (k + 1))), (3, .null), (0, .ref (ly_a y 0)), (1, .ref (ly_f y 0 r))]) hK.1.1 hK.1.2.1 dX4_tellHoldersOf_42 hl (k := 1) rfl (nI_1 k) (by decide) rfl (fun ls hl => ?_)
        refine lv_goto (tgt := 2) hK.1.1 hK.1.2.1 dX4_tellHoldersOf_45 (by decide) ?_
        exact ih (4 - (k + 1)) (by omega)  (k + 1) ls _ _ _ rfl (by omega) hP hS (by rw [t_tl_n ef_3]; exact hR) (lv_sub hl [0, 2, 3] rfl)
      · have hf_2 : f_2 < 5 := (hR.2.2.2.2.1.1 k hk4).1 f_2 ef_3
        refine tr_86 hK hP hR hk4 dX4_tellHoldersOf_13 ?_
        rw [ef_3]
        refine W.eq (g2 := F0 m 16 ls [.ref (ly_f y 1 f_2)]) rfl ?_
        refine lv_astore_n (lv' := [(3, .ref (ly_f y 1 f_2)), (2, .int (nI k)), (0, .ref (ly_a y 0)), (1, .ref (ly_f y 0 r))]) hK.1.1 hK.1.2.1 dX4_tellHoldersOf_16 rfl hl (by decide) rfl (fun ls hl => ?_)
        refine lv_aload_n hK.1.1 hK.1.2.1 dX4_tellHoldersOf_17 rfl (lv_at hl 0 rfl) ?_
        refine lv_ifnull hK.1.1 hK.1.2.1 dX4_tellHoldersOf_18 ?_
        refine lv_aload_n hK.1.1 hK.1.2.1 dX4_tellHoldersOf_21 rfl (lv_at hl 0 rfl) ?_
        refine tr_75 hK hP hR hf_2 dX4_tellHoldersOf_22 ?_
        refine lv_aload_n hK.1.1 hK.1.2.1 dX4_tellHoldersOf_25 rfl (lv_at hl 3 rfl) ?_
        refine lv_acmp_ne (rx := some (ly_f y 0 (fr f_2))) (ry := some (ly_f y 0 r)) (tgt := 42) hK.1.1 hK.1.2.1 dX4_tellHoldersOf_26 (by decide) (fun c26_4 => ?_) (fun c26_4 => ?_)
        · refine lv_iinc (v := nI (k + 1)) (lv' := [(2, .int (nI (k + 1))), (3, .ref (ly_f y 1 f_2)), (0, .ref (ly_a y 0)), (1, .ref (ly_f y 0 r))]) hK.1.1 hK.1.2.1 dX4_tellHoldersOf_42 hl (k := 1) rfl (nI_1 k) (by decide) rfl (fun ls hl => ?_)
          refine lv_goto (tgt := 2) hK.1.1 hK.1.2.1 dX4_tellHoldersOf_45 (by decide) ?_
          exact ih (4 - (k + 1)) (by omega)  (k + 1) ls _ _ _ rfl (by omega) hP hS (by rw [t_tl_o ef_3 (fun h => c26_4 (by rw [h]))]; exact hR) (lv_sub hl [0, 2, 3] rfl)
        · refine lv_aload_n hK.1.1 hK.1.2.1 dX4_tellHoldersOf_29 rfl (lv_at hl 2 rfl) ?_
          refine tr_23 hK hP hR dX4_tellHoldersOf_30 ?_
          refine lv_iload_n hK.1.1 hK.1.2.1 dX4_tellHoldersOf_33 rfl (lv_at hl 1 rfl) ?_
          refine ta_holders hK hP hR (i := k) hk4 dX4_tellHoldersOf_34 ?_
          refine lv_aload_n hK.1.1 hK.1.2.1 dX4_tellHoldersOf_35 rfl (lv_at hl 0 rfl) ?_
          refine tr_90 hK hP hR hf_2 dX4_tellHoldersOf_36 ?_
          refine tw_94 hK hP hS hR hk4 (some (lv f_2)) dX4_tellHoldersOf_39 (fun H locs G hP hS hR => ?_)
          refine lv_iinc (v := nI (k + 1)) (lv' := [(2, .int (nI (k + 1))), (3, .ref (ly_f y 1 f_2)), (0, .ref (ly_a y 0)), (1, .ref (ly_f y 0 r))]) hK.1.1 hK.1.2.1 dX4_tellHoldersOf_42 hl (k := 1) rfl (nI_1 k) (by decide) rfl (fun ls hl => ?_)
          refine lv_goto (tgt := 2) hK.1.1 hK.1.2.1 dX4_tellHoldersOf_45 (by decide) ?_
          exact ih (4 - (k + 1)) (by omega)  (k + 1) ls _ _ _ rfl (by omega) hP hS (by rw [t_tl_y ef_3 (rp_rinj hR.2.2.1 (hR.2.2.2.1 _ hf_2).1 hr3 (Option.some.inj c26_4))]; exact hR) (lv_sub hl [0, 2, 3] rfl)
  exact loop _ 0 ls _ _ _ rfl (by omega) hP hS (by rw [t_tl0]; exact hR) (lv_sub hl [0, 1, 2] rfl)
/-- what turns change: the live parts, last turns, whether ever turned, thrown lines, old parts; the parts there are and their fields -/
abbrev ts_T : Type := (Nat → Nat) × (Nat → Int32) × (Nat → Int32) × (Nat → Int32) × (Nat → List Nat) × (Nat → Prop) × (Nat → Nat → Int32)
def ts_ok (S : ts_T) : Prop := (∀ f, f < 5 → S.2.2.2.2.2.1 (S.1 f)) ∧ ∀ f, f < 5 → ∀ q ∈ S.2.2.2.2.1 f, S.2.2.2.2.2.1 q
def t_dueS (td : Int32) (ru : Nat → Nat → Int32) (fr : Nat → Nat) (S : ts_T) (f : Nat) : Bool := t_due (S.2.2.2.2.2.2 0 (S.1 f)) (ru (fr f) 1) (ru (fr f) 2) (ru (fr f) 3) (ru (fr f) 4) (S.2.2.1 f) (S.2.1 f) td
def t_turn (td : Int32) (ru : Nat → Nat → Int32) (fr : Nat → Nat) (hp : Nat → Option Nat) (S : ts_T) (f q : Nat) : ts_T :=
  (va_up S.1 f q, va_up S.2.1 f td, va_up S.2.2.1 f 1, va_up S.2.2.2.1 f (t_sum (t_tpf td ru fr S.1 hp S.2.2.2.2.1 S.2.2.2.2.2.2 f q) (S.2.2.2.1 f) (t_tth td ru fr S.1 hp S.2.2.2.2.1 S.2.2.2.2.2.2 f q)),
    va_up S.2.2.2.2.1 f (t_tkp td ru fr S.1 hp S.2.2.2.2.1 S.2.2.2.2.2.2 f q), (fun t => S.2.2.2.2.2.1 t ∨ t = q), t_tpf td ru fr S.1 hp S.2.2.2.2.1 S.2.2.2.2.2.2 f q)
theorem t_kp_sub (go : Nat → Nat → Bool) : ∀ (l : List Nat) (m : Nat), ∀ q ∈ t_kp go m l, q ∈ l := by
  intro l
  induction l with
  | nil => intro m q hq; exact hq
  | cons t r ih =>
    intro m q hq
    unfold t_kp at hq
    split at hq
    · exact List.mem_cons_of_mem _ (ih _ q hq)
    · rcases List.mem_cons.mp hq with h | h
      · rw [h]; exact List.mem_cons_self
      · exact List.mem_cons_of_mem _ (ih _ q h)
theorem t_turn_ok {td : Int32} {ru : Nat → Nat → Int32} {fr : Nat → Nat} {hp : Nat → Option Nat} {S : ts_T} {f q : Nat} (h : ts_ok S) (hf5 : f < 5) : ts_ok (t_turn td ru fr hp S f q) := by
  refine ⟨fun k hk => ?_, fun k hk z hz => ?_⟩
  · show S.2.2.2.2.2.1 (va_up S.1 f q k) ∨ va_up S.1 f q k = q
    by_cases hkf : k = f
    · rw [hkf, va_up_self]; exact Or.inr rfl
    · rw [va_up_ne _ _ hkf]; exact Or.inl (h.1 k hk)
  · show S.2.2.2.2.2.1 z ∨ z = q
    have hz : z ∈ va_up S.2.2.2.2.1 f (t_tkp td ru fr S.1 hp S.2.2.2.2.1 S.2.2.2.2.2.2 f q) k := hz
    by_cases hkf : k = f
    · rw [hkf, va_up_self] at hz
      rcases List.mem_append.mp (t_kp_sub _ _ _ z hz) with h9 | h9
      · exact Or.inl (h.2 f hf5 z h9)
      · rw [List.mem_singleton.mp h9]; exact Or.inl (h.1 f hf5)
    · rw [va_up_ne _ _ hkf] at hz
      exact Or.inl (h.2 k hk z hz)
/-- the first k files of a run: b has the bits of those turned -/
def t_runR (td : Int32) (ru : Nat → Nat → Int32) (fr : Nat → Nat) (hp : Nat → Option Nat) (S0 : ts_T) : Nat → ts_T → Int32 → Prop
  | 0, S, b => S = S0 ∧ b = 0
  | k + 1, S, b => ∃ (S1 : ts_T) (b1 : Int32), t_runR td ru fr hp S0 k S1 b1 ∧ ((t_dueS td ru fr S1 k = true ∧ ∃ q, ¬ S1.2.2.2.2.2.1 q ∧ S = t_turn td ru fr hp S1 k q ∧ b = b1 ||| (1 <<< (nI k &&& 31))) ∨ (t_dueS td ru fr S1 k = false ∧ S = S1 ∧ b = b1))
/-- the holders behind a run: the first k rules -/
def t_tls (b : Int32) (ru : Nat → Nat → Int32) (fr lv : Nat → Nat) (hf hp : Nat → Option Nat) : Nat → (Nat → Option Nat)
  | 0 => hp
  | k + 1 => if ¬ ru k 9 = 0 ∧ t_among fr b k = true then t_tl fr lv hf k (t_tls b ru fr lv hf hp k) 4 else t_tls b ru fr lv hf hp k
set_option maxHeartbeats 4000000 in
set_option maxRecDepth 100000 in
theorem c_X4_run (l : Launch) {y : ly_T} {A : Nat → Prop} {G : gk_G} {td : Int32} {ru : Nat → Nat → Int32} {fr lv : Nat → Nat} {lt et tl : Nat → Int32} {hf hp : Nat → Option Nat} {ol : Nat → List Nat} {PS : Nat → Prop} {pf : Nat → Nat → Int32}  (hR : rp y G td ru fr lv lt et tl hf hp ol PS pf) (hLl : ∀ f, f < 5 → PS (lv f)) (hin5 : ∀ f, f < 5 → ∀ q ∈ ol f, PS q) (hlen5 : ∀ f, f < 5 → (ol f).length < 512) : gk_M0 l yX4_run (Cond.code yX4_run cX4_run 3 (some .int)) 8 270 10 7515 y A [.ref (ly_a y 0)] G (fun v G1 => ∃ S b, t_runR td ru fr hp (lv, lt, et, tl, ol, PS, pf) 5 S b ∧ v = some (.int b) ∧ rp y G1 td ru fr S.1 S.2.1 S.2.2.1 S.2.2.2.1 hf (t_tls b ru fr S.1 hf hp 3) S.2.2.2.2.1 S.2.2.2.2.2.1 S.2.2.2.2.2.2) := by
  refine gk_of0 (cc := cX4_run) (maxL := 3) (ret := (some .int)) (own := RX4) (by decide +kernel) rfl rfl (Nat.le_of_ble_eq_true rfl) ?_
  intro p e s m below meth c ls hK hret hlk _ hP hS hl
  have hl : lv_has ls 3 [(0, .ref (ly_a y 0))] := hl
  refine lv_iconst (v := 0) hK.1.1 hK.1.2.1 dX4_run_0 (by decide) ?_
  refine lv_istore_n (lv' := [(1, .int 0), (0, .ref (ly_a y 0))]) hK.1.1 hK.1.2.1 dX4_run_1 rfl hl (by decide) rfl (fun ls hl => ?_)
  refine lv_iconst (v := 0) hK.1.1 hK.1.2.1 dX4_run_2 (by decide) ?_
  refine lv_istore_n (lv' := [(2, .int 0), (1, .int 0), (0, .ref (ly_a y 0))]) hK.1.1 hK.1.2.1 dX4_run_3 rfl hl (by decide) rfl (fun ls hl => ?_)
  have loop : ∀ (dd : Nat) (k : Nat) (S : ts_T) (b : Int32) (ls : Array Slot) (H : Heap) (locs : List Loc) (G : gk_G), 5 - k = dd → (k ≤ 5) → (t_runR td ru fr hp (lv, lt, et, tl, ol, PS, pf) k S b) → (ts_ok S) → (∀ f, k ≤ f → f < 5 → (S.2.2.2.2.1 f).length < 512) → gk_P (ly_D y) A G H → va_S A s.heap H locs → rp y G td ru fr S.1 S.2.1 S.2.2.1 S.2.2.2.1 hf hp S.2.2.2.2.1 S.2.2.2.2.2.1 S.2.2.2.2.2.2 → lv_has ls 3 [(2, .int (nI k)), (1, .int b), (0, .ref (ly_a y 0))] → W p l e { frames := 8, cells := 10, slots := 7515, locals := 270 } s m [.ref (ly_a y 0)].toArray below meth c H locs (2 * k) (1503 * k) (MQ below (gk_Q y A (fun v G1 => ∃ S b, t_runR td ru fr hp (lv, lt, et, tl, ol, PS, pf) 5 S b ∧ v = some (.int b) ∧ rp y G1 td ru fr S.1 S.2.1 S.2.2.1 S.2.2.2.1 hf (t_tls b ru fr S.1 hf hp 3) S.2.2.2.2.1 S.2.2.2.2.2.1 S.2.2.2.2.2.2)) [.ref (ly_a y 0)].toArray s 10 7515 A) (F0 m 4 ls []) := by
    intro dd
    induction dd using Nat.strongRecOn with
    | _ dd ih =>
    intro k S b ls H locs G hdd hk hrel hok hlen hP hS hR hl
    refine lv_iload_n hK.1.1 hK.1.2.1 dX4_run_4 rfl (lv_at hl 0 rfl) ?_
    refine lv_iconst (v := 5) hK.1.1 hK.1.2.1 dX4_run_5 (by decide) ?_
    refine lv_icmp_ge (tgt := 48) hK.1.1 hK.1.2.1 dX4_run_6 (by decide) (fun c6_1 => ?_) (fun c6_1 => ?_)
    · have hk5 : k = 5 := Nat.le_antisymm hk ((nI_leI (a := 5) (by omega) (by omega)).mp c6_1)
      subst hk5
      refine lv_iconst (v := 0) hK.1.1 hK.1.2.1 dX4_run_48 (by decide) ?_
      refine lv_istore_n (lv' := [(2, .int 0), (1, .int b), (0, .ref (ly_a y 0))]) hK.1.1 hK.1.2.1 dX4_run_49 rfl hl (by decide) rfl (fun ls hl => ?_)
      have loop2 : ∀ (dd : Nat) (r : Nat) (ls : Array Slot) (H : Heap) (locs : List Loc) (G : gk_G), 3 - r = dd → (r ≤ 3) → gk_P (ly_D y) A G H → va_S A s.heap H locs → rp y G td ru fr S.1 S.2.1 S.2.2.1 S.2.2.2.1 hf (t_tls b ru fr S.1 hf hp r) S.2.2.2.2.1 S.2.2.2.2.2.1 S.2.2.2.2.2.2 → lv_has ls 3 [(2, .int (nI r)), (1, .int b), (0, .ref (ly_a y 0))] → W p l e { frames := 8, cells := 10, slots := 7515, locals := 270 } s m [.ref (ly_a y 0)].toArray below meth c H locs (2 * 5) (1503 * 5) (MQ below (gk_Q y A (fun v G1 => ∃ S b, t_runR td ru fr hp (lv, lt, et, tl, ol, PS, pf) 5 S b ∧ v = some (.int b) ∧ rp y G1 td ru fr S.1 S.2.1 S.2.2.1 S.2.2.2.1 hf (t_tls b ru fr S.1 hf hp 3) S.2.2.2.2.1 S.2.2.2.2.2.1 S.2.2.2.2.2.2)) [.ref (ly_a y 0)].toArray s 10 7515 A) (F0 m 50 ls []) := by
        intro dd
        induction dd using Nat.strongRecOn with
        | _ dd ih =>
        intro r ls H locs G hdd hr hP hS hR hl
        refine lv_iload_n hK.1.1 hK.1.2.1 dX4_run_50 rfl (lv_at hl 0 rfl) ?_
        refine lv_iconst (v := 3) hK.1.1 hK.1.2.1 dX4_run_51 (by decide) ?_
        refine lv_icmp_ge (tgt := 97) hK.1.1 hK.1.2.1 dX4_run_52 (by decide) (fun c52_2 => ?_) (fun c52_2 => ?_)
        · have hr3 : r = 3 := Nat.le_antisymm hr ((nI_leI (a := 3) (by omega) (by omega)).mp c52_2)
          subst hr3
          refine lv_iload_n hK.1.1 hK.1.2.1 dX4_run_97 rfl (lv_at hl 1 rfl) ?_
          exact gk_iret0 hK.1 hret hlk hP hS (Nat.le_of_ble_eq_true rfl) (Nat.le_of_ble_eq_true rfl) dX4_run_98 ⟨S, b, hrel, rfl, hR⟩
        · have hr3 : r < 3 := Nat.lt_of_not_le (fun h => c52_2 (nI_le (a := 3) h (by omega)))
          refine lv_aload_n hK.1.1 hK.1.2.1 dX4_run_55 rfl (lv_at hl 2 rfl) ?_
          refine tr_11 hK hP hR dX4_run_56 ?_
          refine lv_iload_n hK.1.1 hK.1.2.1 dX4_run_59 rfl (lv_at hl 0 rfl) ?_
          refine ta_rules hK hP hR (i := r) hr3 dX4_run_60 ?_
          refine tr_68 hK hP hR hr3 dX4_run_61 ?_
          refine lv_if_eq (tgt := 91) hK.1.1 hK.1.2.1 dX4_run_64 (by decide) (fun c64_3 => ?_) (fun c64_3 => ?_)
          · have hts := c64_3
            refine lv_iinc (v := nI (r + 1)) (lv' := [(2, .int (nI (r + 1))), (1, .int b), (0, .ref (ly_a y 0))]) hK.1.1 hK.1.2.1 dX4_run_91 hl (k := 0) rfl (nI_1 r) (by decide) rfl (fun ls hl => ?_)
            refine lv_goto (tgt := 50) hK.1.1 hK.1.2.1 dX4_run_94 (by decide) ?_
            exact ih (3 - (r + 1)) (by omega)  (r + 1) ls _ _ _ rfl (by omega) hP hS (by rw [show t_tls b ru fr S.1 hf hp (r + 1) = _ from if_neg (fun h => h.1 hts)]; exact hR) (lv_sub hl [0, 1, 2] rfl)
          · have hts := c64_3
            refine lv_aload_n hK.1.1 hK.1.2.1 dX4_run_67 rfl (lv_at hl 2 rfl) ?_
            refine lv_aload_n hK.1.1 hK.1.2.1 dX4_run_68 rfl (lv_at hl 2 rfl) ?_
            refine tr_11 hK hP hR dX4_run_69 ?_
            refine lv_iload_n hK.1.1 hK.1.2.1 dX4_run_72 rfl (lv_at hl 0 rfl) ?_
            refine ta_rules hK hP hR (i := r) hr3 dX4_run_73 ?_
            refine lv_iload_n hK.1.1 hK.1.2.1 dX4_run_74 rfl (lv_at hl 1 rfl) ?_
            refine gk_callV0 (n := 2) (As := [.ref (ly_f y 0 r), .int b]) (rest := []) hK (c_X4_hasFileAmong l hR (b := b) hr3) (gk_gV q_10_1 q_10_2 q_10_3 q_1_2 q_10_4) ⟨rfl, by decide +kernel, by decide +kernel, by decide +kernel⟩ ⟨(Nat.le_of_ble_eq_true rfl), (Nat.le_of_ble_eq_true rfl)⟩ hP hS (gk_recv hK.2.2.1.1 hP hR.1 rfl) rfl hl.1 rfl (Nat.le_of_ble_eq_true rfl) dX4_run_75 ⟨(Nat.le_of_ble_eq_true rfl), (Nat.le_of_ble_eq_true rfl)⟩ (fun v G1 H locs hw hP hS => ?_)
            obtain ⟨rfl, hG9⟩ := hw
            rw [hG9] at hP
            refine W.eq (g2 := F0 m 78 ls [.int (rg_b (t_among fr b r))]) rfl ?_
            refine lv_if_eq (tgt := 91) hK.1.1 hK.1.2.1 dX4_run_78 (by decide) (fun c78_4 => ?_) (fun c78_4 => ?_)
            · have ham : t_among fr b r = false := rg_b0.mp c78_4
              refine lv_iinc (v := nI (r + 1)) (lv' := [(2, .int (nI (r + 1))), (1, .int b), (0, .ref (ly_a y 0))]) hK.1.1 hK.1.2.1 dX4_run_91 hl (k := 0) rfl (nI_1 r) (by decide) rfl (fun ls hl => ?_)
              refine lv_goto (tgt := 50) hK.1.1 hK.1.2.1 dX4_run_94 (by decide) ?_
              exact ih (3 - (r + 1)) (by omega)  (r + 1) ls _ _ _ rfl (by omega) hP hS (by rw [show t_tls b ru fr S.1 hf hp (r + 1) = _ from if_neg (fun h => by rw [ham] at h; cases h.2)]; exact hR) (lv_sub hl [0, 1, 2] rfl)
            · have ham : t_among fr b r = true := by cases hz : t_among fr b r with | true => rfl | false => exact absurd (rg_b0.mpr hz) c78_4
              refine lv_aload_n hK.1.1 hK.1.2.1 dX4_run_81 rfl (lv_at hl 2 rfl) ?_
              refine lv_aload_n hK.1.1 hK.1.2.1 dX4_run_82 rfl (lv_at hl 2 rfl) ?_
              refine tr_11 hK hP hR dX4_run_83 ?_
              refine lv_iload_n hK.1.1 hK.1.2.1 dX4_run_86 rfl (lv_at hl 0 rfl) ?_
              refine ta_rules hK hP hR (i := r) hr3 dX4_run_87 ?_
              refine gk_callV0 (n := 1) (As := [.ref (ly_f y 0 r)]) (rest := []) hK (c_X4_tellHoldersOf l hR hr3) (gk_gV q_10_5 q_10_6 q_10_7 q_1_2 q_10_8) ⟨rfl, by decide +kernel, by decide +kernel, by decide +kernel⟩ ⟨(Nat.le_of_ble_eq_true rfl), (Nat.le_of_ble_eq_true rfl)⟩ hP hS (gk_recv hK.2.2.1.1 hP hR.1 rfl) rfl hl.1 rfl (Nat.le_of_ble_eq_true rfl) dX4_run_88 ⟨(Nat.le_of_ble_eq_true rfl), (Nat.le_of_ble_eq_true rfl)⟩ (fun v G1 H locs hw hP hS => ?_)
              obtain ⟨rfl, hR⟩ := hw
              refine W.eq (g2 := F0 m 91 ls []) rfl ?_
              refine lv_iinc (v := nI (r + 1)) (lv' := [(2, .int (nI (r + 1))), (1, .int b), (0, .ref (ly_a y 0))]) hK.1.1 hK.1.2.1 dX4_run_91 hl (k := 0) rfl (nI_1 r) (by decide) rfl (fun ls hl => ?_)
              refine lv_goto (tgt := 50) hK.1.1 hK.1.2.1 dX4_run_94 (by decide) ?_
              exact ih (3 - (r + 1)) (by omega)  (r + 1) ls _ _ _ rfl (by omega) hP hS (by rw [show t_tls b ru fr S.1 hf hp (r + 1) = _ from if_pos ⟨hts, ham⟩]; exact hR) (lv_sub hl [0, 1, 2] rfl)
      exact loop2 _ 0 ls _ _ _ rfl (by omega) hP hS hR (lv_sub hl [0, 1, 2] rfl)
    · have hk5 : k < 5 := Nat.lt_of_not_le (fun h => c6_1 (nI_le (a := 5) h (by omega)))
      refine lv_aload_n hK.1.1 hK.1.2.1 dX4_run_9 rfl (lv_at hl 2 rfl) ?_
      refine tr_17 hK hP hR dX4_run_10 ?_
      refine lv_iload_n hK.1.1 hK.1.2.1 dX4_run_13 rfl (lv_at hl 0 rfl) ?_
      refine ta_files hK hP hR (i := k) hk5 dX4_run_14 ?_
      refine lv_aload_n hK.1.1 hK.1.2.1 dX4_run_15 rfl (lv_at hl 2 rfl) ?_
      refine tr_109 hK hP hR dX4_run_16 ?_
      refine gk_callS0 (n := 2) (As := [.ref (ly_f y 1 k), .int td]) (rest := []) hK (c_X4_isDueOn l hR (d := td) hk5 hok.1) (gk_gS q_4_4 q_4_5 q_1_2 q_4_6) ⟨by decide +kernel, by decide +kernel, by decide +kernel⟩ ⟨(Nat.le_of_ble_eq_true rfl), (Nat.le_of_ble_eq_true rfl)⟩ hP hS rfl hl.1 rfl (Nat.le_of_ble_eq_true rfl) dX4_run_19 ⟨(by show 2 * k + 0 ≤ 10; omega), (by show 1503 * k + 0 ≤ 7515; omega)⟩ (fun v G1 H locs hw hP hS => ?_)
      obtain ⟨rfl, hG9⟩ := hw
      rw [hG9] at hP
      refine W.eq (g2 := F0 m 22 ls [.int (rg_b (t_due (S.2.2.2.2.2.2 0 (S.1 k)) (ru (fr k) 1) (ru (fr k) 2) (ru (fr k) 3) (ru (fr k) 4) (S.2.2.1 k) (S.2.1 k) td))]) rfl ?_
      refine lv_if_eq (tgt := 42) hK.1.1 hK.1.2.1 dX4_run_22 (by decide) (fun c22_5 => ?_) (fun c22_5 => ?_)
      · have hdue : t_dueS td ru fr S k = false := rg_b0.mp c22_5
        refine lv_iinc (v := nI (k + 1)) (lv' := [(2, .int (nI (k + 1))), (1, .int b), (0, .ref (ly_a y 0))]) hK.1.1 hK.1.2.1 dX4_run_42 hl (k := 0) rfl (nI_1 k) (by decide) rfl (fun ls hl => ?_)
        refine lv_goto (tgt := 4) hK.1.1 hK.1.2.1 dX4_run_45 (by decide) ?_
        refine W.widen (show (2 * k + 0) ≤ 2 * (k + 1) by omega) (show (1503 * k + 0) ≤ 1503 * (k + 1) by omega) ?_
        exact ih (5 - (k + 1)) (by omega)  (k + 1) S b ls _ _ _ rfl (by omega) ⟨S, b, hrel, Or.inr ⟨hdue, rfl, rfl⟩⟩ hok (fun f h1 h2 => hlen f (by omega) h2) hP hS hR (lv_sub hl [0, 1, 2] rfl)
      · have hdue : t_dueS td ru fr S k = true := by cases hz : t_dueS td ru fr S k with | true => rfl | false => exact absurd (rg_b0.mpr hz) c22_5
        refine lv_aload_n hK.1.1 hK.1.2.1 dX4_run_25 rfl (lv_at hl 2 rfl) ?_
        refine lv_aload_n hK.1.1 hK.1.2.1 dX4_run_26 rfl (lv_at hl 2 rfl) ?_
        refine tr_17 hK hP hR dX4_run_27 ?_
        refine lv_iload_n hK.1.1 hK.1.2.1 dX4_run_30 rfl (lv_at hl 0 rfl) ?_
        refine ta_files hK hP hR (i := k) hk5 dX4_run_31 ?_
        refine gk_callV0 (n := 1) (As := [.ref (ly_f y 1 k)]) (rest := []) hK (c_X4_turnToday l hR (f := k) hk5 hok.1 (hok.2 k hk5) (hlen k (Nat.le_refl _) hk5)) (gk_gV q_5_5 q_5_6 q_5_7 q_1_2 q_5_8) ⟨rfl, by decide +kernel, by decide +kernel, by decide +kernel⟩ ⟨(Nat.le_of_ble_eq_true rfl), (Nat.le_of_ble_eq_true rfl)⟩ hP hS (gk_recv hK.2.2.1.1 hP hR.1 rfl) rfl hl.1 rfl (Nat.le_of_ble_eq_true rfl) dX4_run_32 ⟨(by show (2 * k + 0) + 2 ≤ 10; omega), (by show (1503 * k + 0) + 1503 ≤ 7515; omega)⟩ (fun v G1 H locs hw hP hS => ?_)
        obtain ⟨q, hq9, rfl, hR⟩ := hw
        refine W.eq (g2 := F0 m 35 ls [.int (nI (t_tth td ru fr S.1 hp S.2.2.2.2.1 S.2.2.2.2.2.2 k q).length)]) rfl ?_
        refine lv_pop hK.1.1 hK.1.2.1 dX4_run_35 rfl ?_
        refine lv_iload_n hK.1.1 hK.1.2.1 dX4_run_36 rfl (lv_at hl 1 rfl) ?_
        refine lv_iconst (v := 1) hK.1.1 hK.1.2.1 dX4_run_37 (by decide) ?_
        refine lv_iload_n hK.1.1 hK.1.2.1 dX4_run_38 rfl (lv_at hl 0 rfl) ?_
        refine lv_ishl hK.1.1 hK.1.2.1 dX4_run_39 ?_
        refine lv_ior hK.1.1 hK.1.2.1 dX4_run_40 ?_
        refine lv_istore_n (lv' := [(1, .int (b ||| (1 <<< ((nI k) &&& 31)))), (2, .int (nI k)), (0, .ref (ly_a y 0))]) hK.1.1 hK.1.2.1 dX4_run_41 rfl hl (by decide) rfl (fun ls hl => ?_)
        refine lv_iinc (v := nI (k + 1)) (lv' := [(2, .int (nI (k + 1))), (1, .int (b ||| (1 <<< ((nI k) &&& 31)))), (0, .ref (ly_a y 0))]) hK.1.1 hK.1.2.1 dX4_run_42 hl (k := 1) rfl (nI_1 k) (by decide) rfl (fun ls hl => ?_)
        refine lv_goto (tgt := 4) hK.1.1 hK.1.2.1 dX4_run_45 (by decide) ?_
        refine W.widen (show ((2 * k + 0) + 2) ≤ 2 * (k + 1) by omega) (show ((1503 * k + 0) + 1503) ≤ 1503 * (k + 1) by omega) ?_
        exact ih (5 - (k + 1)) (by omega)  (k + 1) (t_turn td ru fr hp S k q) (b ||| (1 <<< (nI k &&& 31))) ls _ _ _ rfl (by omega) ⟨S, b, hrel, Or.inl ⟨hdue, q, hq9, rfl, rfl⟩⟩ (t_turn_ok hok hk5) (fun f h1 h2 => by show (va_up S.2.2.2.2.1 k (t_tkp td ru fr S.1 hp S.2.2.2.2.1 S.2.2.2.2.2.2 k q) f).length < 512; rw [va_up_ne _ _ (by omega)]; exact hlen f (by omega) h2) hP hS hR (lv_sub hl [0, 1, 2] rfl)
  exact loop _ 0 (lv, lt, et, tl, ol, PS, pf) 0 ls _ _ _ rfl (by omega) ⟨rfl, rfl⟩ ⟨hLl, hin5⟩ (fun f _ h => hlen5 f h) hP hS hR (lv_sub hl [0, 1, 2] rfl)
