/-! the constructor of the class -/
/-- what has been made: a list of addresses and cells; the first is older -/
def cN (G G1 : gk_G) (xs : List (Nat × va_E)) : Prop := (∀ (i a : Nat) (e : va_E), xs[i]? = some (a, e) → G1 a = some e) ∧ (xs.map Prod.fst).Nodup ∧ (∀ (i a : Nat) (e : va_E), 0 < i → xs[i]? = some (a, e) → G a = none) ∧ ∀ b, ¬ b ∈ xs.map Prod.fst → G1 b = G b
theorem cN_new {G G1 : gk_G} {xs : List (Nat × va_E)} {a : Nat} {e : va_E} (h : cN G G1 xs) (hn : G1 a = none) : cN G (gk_up G1 a e) (xs ++ [(a, e)]) := by
  obtain ⟨h1, h2, h3, h4⟩ := h
  have hm : ¬ a ∈ xs.map Prod.fst := fun z => by
    obtain ⟨⟨b, e2⟩, hb, rfl⟩ := List.mem_map.mp z
    obtain ⟨i, hi⟩ := List.getElem?_of_mem hb
    rw [h1 i b e2 hi] at hn
    cases hn
  have hne : ∀ i b e2, xs[i]? = some (b, e2) → b ≠ a := fun i b e2 hi z => hm (z ▸ List.mem_map.mpr ⟨_, List.mem_of_getElem? hi, rfl⟩)
  refine ⟨fun i b e2 hi => ?_, ?_, fun i b e2 h0 hi => ?_, fun b hb => ?_⟩
  · by_cases hl : i < xs.length
    · rw [List.getElem?_append_left hl] at hi
      rw [gk_un _ _ (hne i b e2 hi)]
      exact h1 i b e2 hi
    · rw [List.getElem?_append_right (by omega)] at hi
      obtain ⟨rfl, rfl⟩ : a = b ∧ e = e2 := by
        have := List.mem_singleton.mp (List.mem_of_getElem? hi)
        simpa [eq_comm] using this
      exact gk_us _ _ _
  · rw [List.map_append, List.nodup_append]
    refine ⟨h2, by simp, fun x hx z hz => ?_⟩
    have hz : z = a := by simpa using hz
    rw [hz]
    exact fun q => hm (q ▸ hx)
  · by_cases hl : i < xs.length
    · rw [List.getElem?_append_left hl] at hi
      exact h3 i b e2 h0 hi
    · rw [List.getElem?_append_right (by omega)] at hi
      obtain ⟨rfl, rfl⟩ : a = b ∧ e = e2 := by
        have := List.mem_singleton.mp (List.mem_of_getElem? hi)
        simpa [eq_comm] using this
      rw [← h4 a hm]
      exact hn
  · have hb2 : ¬ b ∈ xs.map Prod.fst ∧ b ≠ a := by
      rw [List.map_append] at hb
      exact ⟨fun z => hb (List.mem_append_left _ z), fun z => hb (List.mem_append_right _ (by simp [z]))⟩
    rw [gk_un _ _ hb2.2]
    exact h4 b hb2.1
theorem cN_set {G G1 : gk_G} {xs : List (Nat × va_E)} {a i : Nat} {e0 e : va_E} (h : cN G G1 xs) (hi : xs[i]? = some (a, e0)) : cN G (gk_up G1 a e) (xs.set i (a, e)) := by
  obtain ⟨h1, h2, h3, h4⟩ := h
  have hl := (List.getElem?_eq_some_iff.mp hi).1
  have hmap : (xs.set i (a, e)).map Prod.fst = xs.map Prod.fst := by
    apply List.ext_getElem?
    intro j
    rw [List.getElem?_map, List.getElem?_map]
    by_cases hj : j = i
    · subst hj
      rw [List.getElem?_set_self hl, hi]
      rfl
    · rw [List.getElem?_set_ne (Ne.symm hj)]
  refine ⟨fun j b e2 hj => ?_, by rw [hmap]; exact h2, fun j b e2 h0 hj => ?_, fun b hb => ?_⟩
  · by_cases hji : j = i
    · subst hji
      rw [List.getElem?_set_self hl] at hj
      cases hj
      exact gk_us _ _ _
    · rw [List.getElem?_set_ne (Ne.symm hji)] at hj
      rw [gk_un _ _ (fun z => ?_)]
      · exact h1 j b e2 hj
      · subst z
        refine hji (x_idx h2 (t := b) ?_ ?_)
        · rw [List.getElem?_map, hj]; rfl
        · rw [List.getElem?_map, hi]; rfl
  · by_cases hji : j = i
    · subst hji
      rw [List.getElem?_set_self hl] at hj
      cases hj
      exact h3 j a e0 h0 hi
    · rw [List.getElem?_set_ne (Ne.symm hji)] at hj
      exact h3 j b e2 h0 hj
  · rw [hmap] at hb
    have hba : b ≠ a := fun z => hb (by rw [z]; exact List.mem_map.mpr ⟨_, List.mem_of_getElem? hi, rfl⟩)
    rw [gk_un _ _ hba]
    exact h4 b hb
theorem cN_1 {G : gk_G} {q : Nat} {e : va_E} (hL : G q = some e) : cN G G [(q, e)] := by
  refine ⟨fun i a e2 h => ?_, by simp, fun i a e2 h0 h => ?_, fun b _ => rfl⟩
  · cases i with
    | zero => cases h; exact hL
    | succ i => cases h
  · cases i with
    | zero => exact absurd h0 (Nat.lt_irrefl 0)
    | succ i => cases h
theorem gk_ext3 {G G1 : gk_G} {q a t : Nat} {e1 e2 e3 : va_E} (h1 : a ≠ q) (h2 : t ≠ q) (h3 : a ≠ t) (k1 : G1 q = some e1) (k2 : G1 a = some e2) (k3 : G1 t = some e3) (k4 : ∀ b, b ≠ q → b ≠ a → b ≠ t → G1 b = G b) : G1 = gk_up (gk_up (gk_up G q e1) a e2) t e3 := by
  funext b
  by_cases hb : b = t
  · rw [hb, gk_us]; exact k3
  · rw [gk_un _ _ hb]
    by_cases hb2 : b = a
    · rw [hb2, gk_us]; exact k2
    · rw [gk_un _ _ hb2]
      by_cases hb3 : b = q
      · rw [hb3, gk_us]; exact k1
      · rw [gk_un _ _ hb3]
        exact k4 b hb3 hb2 hb
set_option maxHeartbeats 4000000 in
set_option maxRecDepth 100000 in
theorem c_X4_init (l : Launch) {y : ly_T} {A : Nat → Prop} {G : gk_G} {q : Nat} (hL : G q = some (.inr (5, [.null, .null, .null, .int 0]))) : gk_M0 l yX4_init (Cond.code yX4_init cX4_init 2 none) 5 150 25 115 y A [.ref q] G (fun v G1 => v = none ∧ ∃ ra fa ha r0 r1 r2 f0 l0 t0 f1 l1 t1 f2 l2 t2 f3 l3 t3 f4 l4 t4 h0 h1 h2 h3, cN G G1 [(q, (.inr (5, [.ref ra, .ref fa, .ref ha, .int 0]))), (ra, (rp_r (ly_k y 3) 3 (va_up (va_up (va_up (fun _ => none) 0 (some r0)) 1 (some r1)) 2 (some r2)))), (fa, (rp_r (ly_k y 4) 5 (va_up (va_up (va_up (va_up (va_up (fun _ => none) 0 (some f0)) 1 (some f1)) 2 (some f2)) 3 (some f3)) 4 (some f4)))), (ha, (rp_r (ly_k y 5) 4 (va_up (va_up (va_up (va_up (fun _ => none) 0 (some h0)) 1 (some h1)) 2 (some h2)) 3 (some h3)))), (r0, (.inr (4, [.int (nI 0), .int 0, .int (-1), .int (-1), .int 0, .int 3, .int 0, .int 0, .int 0, .int 0]))), (r1, (.inr (4, [.int (nI 1), .int 0, .int (-1), .int (-1), .int 0, .int 3, .int 0, .int 0, .int 0, .int 0]))), (r2, (.inr (4, [.int (nI 2), .int 0, .int (-1), .int (-1), .int 0, .int 3, .int 0, .int 0, .int 0, .int 0]))), (f0, (.inr (2, [.int (nI 0), .ref l0, .ref r0, .ref t0, .int 0, .int 0, .int 0]))), (l0, (.inr (0, [.int 0, .ref (ly_a y 6), .int 0]))), (t0, (.inr (3, [.int 0, .int 0, .int 0]))), (f1, (.inr (2, [.int (nI 1), .ref l1, .ref r0, .ref t1, .int 0, .int 0, .int 0]))), (l1, (.inr (0, [.int 0, .ref (ly_a y 6), .int 0]))), (t1, (.inr (3, [.int 0, .int 0, .int 0]))), (f2, (.inr (2, [.int (nI 2), .ref l2, .ref r0, .ref t2, .int 0, .int 0, .int 0]))), (l2, (.inr (0, [.int 0, .ref (ly_a y 6), .int 0]))), (t2, (.inr (3, [.int 0, .int 0, .int 0]))), (f3, (.inr (2, [.int (nI 3), .ref l3, .ref r0, .ref t3, .int 0, .int 0, .int 0]))), (l3, (.inr (0, [.int 0, .ref (ly_a y 6), .int 0]))), (t3, (.inr (3, [.int 0, .int 0, .int 0]))), (f4, (.inr (2, [.int (nI 4), .ref l4, .ref r0, .ref t4, .int 0, .int 0, .int 0]))), (l4, (.inr (0, [.int 0, .ref (ly_a y 6), .int 0]))), (t4, (.inr (3, [.int 0, .int 0, .int 0]))), (h0, (.inr (1, [.null, .null]))), (h1, (.inr (1, [.null, .null]))), (h2, (.inr (1, [.null, .null]))), (h3, (.inr (1, [.null, .null])))]) := by
  refine gk_of0 (cc := cX4_init) (maxL := 2) (ret := none) (own := RX4) (by decide +kernel) rfl rfl (Nat.le_of_ble_eq_true rfl) ?_
  intro p e s m below meth c ls hK hret hlk hnm hP hS hl
  have hl : lv_has ls 2 [(0, .ref q)] := hl
  refine lv_aload_n hK.1.1 hK.1.2.1 dX4_init_0 rfl (lv_at hl 0 rfl) ?_
  refine gk_obj hK q_1_8 hl.1 ⟨(Nat.le_of_ble_eq_true rfl), (Nat.le_of_ble_eq_true rfl)⟩ (Nat.le_of_ble_eq_true rfl) dX4_init_1 ?_
  have hI : cN G G [(q, (.inr (5, [.null, .null, .null, .int 0])))] := cN_1 hL
  obtain ⟨M0, hM0⟩ : ∃ z, z = G := ⟨_, rfl⟩
  rw [← hM0] at hP
  have hI : cN G M0 [(q, (.inr (5, [.null, .null, .null, .int 0])))] := by rw [hM0]; exact hI
  refine lv_aload_n hK.1.1 hK.1.2.1 dX4_init_4 rfl (lv_at hl 0 rfl) ?_
  refine lv_iconst (v := 3) hK.1.1 hK.1.2.1 dX4_init_5 (by decide) ?_
  refine gk_newq hK.1 hK.2.2.1.1 hP hS hK.2.2.2 (C := RX3) q_1_11 hK.2.2.1.2.2.1.1.2.2.2 3 rfl (N' := 3) (by decide) (by decide) (by decide) (Nat.le_of_ble_eq_true rfl) (Nat.le_of_ble_eq_true rfl) dX4_init_6 (fun ra H hn hP hS => ?_)
  have hI := cN_new (e := (rp_r (ly_k y 3) 3 (fun _ => none))) hI hn
  obtain ⟨M1, hM1⟩ : ∃ z, z = gk_up M0 ra (rp_r (ly_k y 3) 3 (fun _ => none)) := ⟨_, rfl⟩
  have hP : gk_P (ly_D y) A M1 H := by rw [hM1]; exact hP
  have hI : cN G M1 [(q, (.inr (5, [.null, .null, .null, .int 0]))), (ra, (rp_r (ly_k y 3) 3 (fun _ => none)))] := by rw [hM1]; exact hI
  refine gk_putF hK.1 hK.2.2.1.1 hP hS (k := 0) (hI.1 0 _ _ rfl) rfl inlX4 tyX4 tyX4_ok nmX4 (by decide) q_1_12 (fun _ h => h) rfl hnm rfl rfl rfl (Nat.le_of_ble_eq_true rfl) dX4_init_9 (fun H locs hP hS => ?_)
  have hI := cN_set (i := 0) (e := (.inr (5, [.ref ra, .null, .null, .int 0]))) hI rfl
  obtain ⟨M2, hM2⟩ : ∃ z, z = gk_up M1 q (.inr (5, [.ref ra, .null, .null, .int 0])) := ⟨_, rfl⟩
  have hP : gk_P (ly_D y) A M2 H := by rw [hM2]; exact hP
  have hI : cN G M2 [(q, (.inr (5, [.ref ra, .null, .null, .int 0]))), (ra, (rp_r (ly_k y 3) 3 (fun _ => none)))] := by rw [hM2]; exact hI
  refine lv_aload_n hK.1.1 hK.1.2.1 dX4_init_12 rfl (lv_at hl 0 rfl) ?_
  refine lv_iconst (v := 5) hK.1.1 hK.1.2.1 dX4_init_13 (by decide) ?_
  refine gk_newq hK.1 hK.2.2.1.1 hP hS hK.2.2.2 (C := RX1) q_1_13 hK.2.2.1.2.2.1.1.2.2.1 4 rfl (N' := 5) (by decide) (by decide) (by decide) (Nat.le_of_ble_eq_true rfl) (Nat.le_of_ble_eq_true rfl) dX4_init_14 (fun fa H hn hP hS => ?_)
  have hI := cN_new (e := (rp_r (ly_k y 4) 5 (fun _ => none))) hI hn
  obtain ⟨M3, hM3⟩ : ∃ z, z = gk_up M2 fa (rp_r (ly_k y 4) 5 (fun _ => none)) := ⟨_, rfl⟩
  have hP : gk_P (ly_D y) A M3 H := by rw [hM3]; exact hP
  have hI : cN G M3 [(q, (.inr (5, [.ref ra, .null, .null, .int 0]))), (ra, (rp_r (ly_k y 3) 3 (fun _ => none))), (fa, (rp_r (ly_k y 4) 5 (fun _ => none)))] := by rw [hM3]; exact hI
  refine gk_putF hK.1 hK.2.2.1.1 hP hS (k := 1) (hI.1 0 _ _ rfl) rfl inlX4 tyX4 tyX4_ok nmX4 (by decide) q_1_14 (fun _ h => h) rfl hnm rfl rfl rfl (Nat.le_of_ble_eq_true rfl) dX4_init_17 (fun H locs hP hS => ?_)
  have hI := cN_set (i := 0) (e := (.inr (5, [.ref ra, .ref fa, .null, .int 0]))) hI rfl
  obtain ⟨M4, hM4⟩ : ∃ z, z = gk_up M3 q (.inr (5, [.ref ra, .ref fa, .null, .int 0])) := ⟨_, rfl⟩
  have hP : gk_P (ly_D y) A M4 H := by rw [hM4]; exact hP
  have hI : cN G M4 [(q, (.inr (5, [.ref ra, .ref fa, .null, .int 0]))), (ra, (rp_r (ly_k y 3) 3 (fun _ => none))), (fa, (rp_r (ly_k y 4) 5 (fun _ => none)))] := by rw [hM4]; exact hI
  refine lv_aload_n hK.1.1 hK.1.2.1 dX4_init_20 rfl (lv_at hl 0 rfl) ?_
  refine lv_iconst (v := 4) hK.1.1 hK.1.2.1 dX4_init_21 (by decide) ?_
  refine gk_newq hK.1 hK.2.2.1.1 hP hS hK.2.2.2 (C := RX0) q_1_15 hK.2.2.1.2.2.1.1.2.1 5 rfl (N' := 4) (by decide) (by decide) (by decide) (Nat.le_of_ble_eq_true rfl) (Nat.le_of_ble_eq_true rfl) dX4_init_22 (fun ha H hn hP hS => ?_)
  have hI := cN_new (e := (rp_r (ly_k y 5) 4 (fun _ => none))) hI hn
  obtain ⟨M5, hM5⟩ : ∃ z, z = gk_up M4 ha (rp_r (ly_k y 5) 4 (fun _ => none)) := ⟨_, rfl⟩
  have hP : gk_P (ly_D y) A M5 H := by rw [hM5]; exact hP
  have hI : cN G M5 [(q, (.inr (5, [.ref ra, .ref fa, .null, .int 0]))), (ra, (rp_r (ly_k y 3) 3 (fun _ => none))), (fa, (rp_r (ly_k y 4) 5 (fun _ => none))), (ha, (rp_r (ly_k y 5) 4 (fun _ => none)))] := by rw [hM5]; exact hI
  refine gk_putF hK.1 hK.2.2.1.1 hP hS (k := 2) (hI.1 0 _ _ rfl) rfl inlX4 tyX4 tyX4_ok nmX4 (by decide) q_1_16 (fun _ h => h) rfl hnm rfl rfl rfl (Nat.le_of_ble_eq_true rfl) dX4_init_25 (fun H locs hP hS => ?_)
  have hI := cN_set (i := 0) (e := (.inr (5, [.ref ra, .ref fa, .ref ha, .int 0]))) hI rfl
  obtain ⟨M6, hM6⟩ : ∃ z, z = gk_up M5 q (.inr (5, [.ref ra, .ref fa, .ref ha, .int 0])) := ⟨_, rfl⟩
  have hP : gk_P (ly_D y) A M6 H := by rw [hM6]; exact hP
  have hI : cN G M6 [(q, (.inr (5, [.ref ra, .ref fa, .ref ha, .int 0]))), (ra, (rp_r (ly_k y 3) 3 (fun _ => none))), (fa, (rp_r (ly_k y 4) 5 (fun _ => none))), (ha, (rp_r (ly_k y 5) 4 (fun _ => none)))] := by rw [hM6]; exact hI
  refine lv_iconst (v := 0) hK.1.1 hK.1.2.1 dX4_init_28 (by decide) ?_
  refine lv_istore_n (lv' := [(1, .int (nI 0)), (0, .ref q)]) hK.1.1 hK.1.2.1 dX4_init_29 rfl hl (by decide) rfl (fun ls hl => ?_)
  refine lv_iload_n hK.1.1 hK.1.2.1 dX4_init_30 rfl (lv_at hl 0 rfl) ?_
  refine lv_iconst (v := 3) hK.1.1 hK.1.2.1 dX4_init_31 (by decide) ?_
  refine lv_icmp_ge (tgt := 55) hK.1.1 hK.1.2.1 dX4_init_32 (by decide) (fun c => absurd c (by decide)) (fun _ => ?_)
  refine lv_aload_n hK.1.1 hK.1.2.1 dX4_init_35 rfl (lv_at hl 1 rfl) ?_
  refine gk_get hK.1 hK.2.2.1.1 hP (k := 0) (hI.1 0 _ _ rfl) rfl inlX4 (by decide) q_1_12 (fun _ h => h) rfl dX4_init_36 ?_
  refine lv_iload_n hK.1.1 hK.1.2.1 dX4_init_39 rfl (lv_at hl 0 rfl) ?_
  refine gk_new hK.1 hK.2.2.1.1 hP hS hK.2.2.2 (ci := 4) (C := RX3) (T := TX3) (N := 10) rfl inlX3 tyX3 tyX3_ok q_1_11 q_1_17 q_1_18 (fs := [.int 0, .int 0, .int 0, .int 0, .int 0, .int 0, .int 0, .int 0, .int 0, .int 0]) (by decide +kernel) (Nat.le_of_ble_eq_true rfl) (Nat.le_of_ble_eq_true rfl) dX4_init_40 (fun r0 H hn hP hS => ?_)
  have hI := cN_new (e := (.inr (4, [.int 0, .int 0, .int 0, .int 0, .int 0, .int 0, .int 0, .int 0, .int 0, .int 0]))) hI hn
  obtain ⟨M7, hM7⟩ : ∃ z, z = gk_up M6 r0 (.inr (4, [.int 0, .int 0, .int 0, .int 0, .int 0, .int 0, .int 0, .int 0, .int 0, .int 0])) := ⟨_, rfl⟩
  have hP : gk_P (ly_D y) A M7 H := by rw [hM7]; exact hP
  have hI : cN G M7 [(q, (.inr (5, [.ref ra, .ref fa, .ref ha, .int 0]))), (ra, (rp_r (ly_k y 3) 3 (fun _ => none))), (fa, (rp_r (ly_k y 4) 5 (fun _ => none))), (ha, (rp_r (ly_k y 5) 4 (fun _ => none))), (r0, (.inr (4, [.int 0, .int 0, .int 0, .int 0, .int 0, .int 0, .int 0, .int 0, .int 0, .int 0])))] := by rw [hM7]; exact hI
  refine lv_dup hK.1.1 hK.1.2.1 dX4_init_43 rfl ?_
  refine lv_iload_n hK.1.1 hK.1.2.1 dX4_init_44 rfl (lv_at hl 0 rfl) ?_
  refine gk_callI (n := 1) (As := [.int (nI 0)]) (rest := [.ref r0, .int (nI 0), .ref ra]) hK (c_X3_init l (i := nI 0) (hI.1 4 _ _ rfl)) q_2_1 q_1_18 q_1_23 q_2_0 rfl ⟨by decide +kernel, by decide +kernel, by decide +kernel⟩ ⟨(Nat.le_of_ble_eq_true rfl), (Nat.le_of_ble_eq_true rfl)⟩ hP hS rfl hl.1 rfl (Nat.le_of_ble_eq_true rfl) dX4_init_45 ⟨(Nat.le_of_ble_eq_true rfl), (Nat.le_of_ble_eq_true rfl)⟩ (fun v G1 H locs hw hP hS => ?_)
  obtain ⟨rfl, hG9⟩ := hw
  rw [hG9] at hP
  refine W.eq (g2 := F0 m 48 ls [.ref r0, .int (nI 0), .ref ra]) rfl ?_
  have hI := cN_set (i := 4) (e := (.inr (4, [.int (nI 0), .int 0, .int (-1), .int (-1), .int 0, .int 3, .int 0, .int 0, .int 0, .int 0]))) hI rfl
  obtain ⟨M8, hM8⟩ : ∃ z, z = gk_up M7 r0 (.inr (4, [.int (nI 0), .int 0, .int (-1), .int (-1), .int 0, .int 3, .int 0, .int 0, .int 0, .int 0])) := ⟨_, rfl⟩
  have hP : gk_P (ly_D y) A M8 H := by rw [hM8]; exact hP
  have hI : cN G M8 [(q, (.inr (5, [.ref ra, .ref fa, .ref ha, .int 0]))), (ra, (rp_r (ly_k y 3) 3 (fun _ => none))), (fa, (rp_r (ly_k y 4) 5 (fun _ => none))), (ha, (rp_r (ly_k y 5) 4 (fun _ => none))), (r0, (.inr (4, [.int (nI 0), .int 0, .int (-1), .int (-1), .int 0, .int 3, .int 0, .int 0, .int 0, .int 0])))] := by rw [hM8]; exact hI
  refine gk_aast hK.1 hK.2.2.1.1 hP hS 3 (hI.1 1 _ _ rfl) rfl (hI.1 4 _ _ rfl) rfl (vp_in_nI (show 0 < 3 by decide) (by decide)) dX4_init_48 (fun H locs hP hS => ?_)
  rw [nI_clamp (by decide)] at hP
  have hI := cN_set (i := 1) (e := (rp_r (ly_k y 3) 3 (va_up (fun _ => none) 0 (some r0)))) hI rfl
  obtain ⟨M9, hM9⟩ : ∃ z, z = gk_up M8 ra (rp_r (ly_k y 3) 3 (va_up (fun _ => none) 0 (some r0))) := ⟨_, rfl⟩
  have hP : gk_P (ly_D y) A M9 H := by rw [hM9]; exact hP
  have hI : cN G M9 [(q, (.inr (5, [.ref ra, .ref fa, .ref ha, .int 0]))), (ra, (rp_r (ly_k y 3) 3 (va_up (fun _ => none) 0 (some r0)))), (fa, (rp_r (ly_k y 4) 5 (fun _ => none))), (ha, (rp_r (ly_k y 5) 4 (fun _ => none))), (r0, (.inr (4, [.int (nI 0), .int 0, .int (-1), .int (-1), .int 0, .int 3, .int 0, .int 0, .int 0, .int 0])))] := by rw [hM9]; exact hI
  refine lv_iinc (v := nI 1) (lv' := [(1, .int (nI 1)), (0, .ref q)]) hK.1.1 hK.1.2.1 dX4_init_49 hl (k := 0) rfl (by decide) (by decide) rfl (fun ls hl => ?_)
  refine lv_goto (tgt := 30) hK.1.1 hK.1.2.1 dX4_init_52 (by decide) ?_
  refine lv_iload_n hK.1.1 hK.1.2.1 dX4_init_30 rfl (lv_at hl 0 rfl) ?_
  refine lv_iconst (v := 3) hK.1.1 hK.1.2.1 dX4_init_31 (by decide) ?_
  refine lv_icmp_ge (tgt := 55) hK.1.1 hK.1.2.1 dX4_init_32 (by decide) (fun c => absurd c (by decide)) (fun _ => ?_)
  refine lv_aload_n hK.1.1 hK.1.2.1 dX4_init_35 rfl (lv_at hl 1 rfl) ?_
  refine gk_get hK.1 hK.2.2.1.1 hP (k := 0) (hI.1 0 _ _ rfl) rfl inlX4 (by decide) q_1_12 (fun _ h => h) rfl dX4_init_36 ?_
  refine lv_iload_n hK.1.1 hK.1.2.1 dX4_init_39 rfl (lv_at hl 0 rfl) ?_
  refine gk_new hK.1 hK.2.2.1.1 hP hS hK.2.2.2 (ci := 4) (C := RX3) (T := TX3) (N := 10) rfl inlX3 tyX3 tyX3_ok q_1_11 q_1_17 q_1_18 (fs := [.int 0, .int 0, .int 0, .int 0, .int 0, .int 0, .int 0, .int 0, .int 0, .int 0]) (by decide +kernel) (Nat.le_of_ble_eq_true rfl) (Nat.le_of_ble_eq_true rfl) dX4_init_40 (fun r1 H hn hP hS => ?_)
  have hI := cN_new (e := (.inr (4, [.int 0, .int 0, .int 0, .int 0, .int 0, .int 0, .int 0, .int 0, .int 0, .int 0]))) hI hn
  obtain ⟨M10, hM10⟩ : ∃ z, z = gk_up M9 r1 (.inr (4, [.int 0, .int 0, .int 0, .int 0, .int 0, .int 0, .int 0, .int 0, .int 0, .int 0])) := ⟨_, rfl⟩
  have hP : gk_P (ly_D y) A M10 H := by rw [hM10]; exact hP
  have hI : cN G M10 [(q, (.inr (5, [.ref ra, .ref fa, .ref ha, .int 0]))), (ra, (rp_r (ly_k y 3) 3 (va_up (fun _ => none) 0 (some r0)))), (fa, (rp_r (ly_k y 4) 5 (fun _ => none))), (ha, (rp_r (ly_k y 5) 4 (fun _ => none))), (r0, (.inr (4, [.int (nI 0), .int 0, .int (-1), .int (-1), .int 0, .int 3, .int 0, .int 0, .int 0, .int 0]))), (r1, (.inr (4, [.int 0, .int 0, .int 0, .int 0, .int 0, .int 0, .int 0, .int 0, .int 0, .int 0])))] := by rw [hM10]; exact hI
  refine lv_dup hK.1.1 hK.1.2.1 dX4_init_43 rfl ?_
  refine lv_iload_n hK.1.1 hK.1.2.1 dX4_init_44 rfl (lv_at hl 0 rfl) ?_
  refine gk_callI (n := 1) (As := [.int (nI 1)]) (rest := [.ref r1, .int (nI 1), .ref ra]) hK (c_X3_init l (i := nI 1) (hI.1 5 _ _ rfl)) q_2_1 q_1_18 q_1_23 q_2_0 rfl ⟨by decide +kernel, by decide +kernel, by decide +kernel⟩ ⟨(Nat.le_of_ble_eq_true rfl), (Nat.le_of_ble_eq_true rfl)⟩ hP hS rfl hl.1 rfl (Nat.le_of_ble_eq_true rfl) dX4_init_45 ⟨(Nat.le_of_ble_eq_true rfl), (Nat.le_of_ble_eq_true rfl)⟩ (fun v G1 H locs hw hP hS => ?_)
  obtain ⟨rfl, hG9⟩ := hw
  rw [hG9] at hP
  refine W.eq (g2 := F0 m 48 ls [.ref r1, .int (nI 1), .ref ra]) rfl ?_
  have hI := cN_set (i := 5) (e := (.inr (4, [.int (nI 1), .int 0, .int (-1), .int (-1), .int 0, .int 3, .int 0, .int 0, .int 0, .int 0]))) hI rfl
  obtain ⟨M11, hM11⟩ : ∃ z, z = gk_up M10 r1 (.inr (4, [.int (nI 1), .int 0, .int (-1), .int (-1), .int 0, .int 3, .int 0, .int 0, .int 0, .int 0])) := ⟨_, rfl⟩
  have hP : gk_P (ly_D y) A M11 H := by rw [hM11]; exact hP
  have hI : cN G M11 [(q, (.inr (5, [.ref ra, .ref fa, .ref ha, .int 0]))), (ra, (rp_r (ly_k y 3) 3 (va_up (fun _ => none) 0 (some r0)))), (fa, (rp_r (ly_k y 4) 5 (fun _ => none))), (ha, (rp_r (ly_k y 5) 4 (fun _ => none))), (r0, (.inr (4, [.int (nI 0), .int 0, .int (-1), .int (-1), .int 0, .int 3, .int 0, .int 0, .int 0, .int 0]))), (r1, (.inr (4, [.int (nI 1), .int 0, .int (-1), .int (-1), .int 0, .int 3, .int 0, .int 0, .int 0, .int 0])))] := by rw [hM11]; exact hI
  refine gk_aast hK.1 hK.2.2.1.1 hP hS 3 (hI.1 1 _ _ rfl) rfl (hI.1 5 _ _ rfl) rfl (vp_in_nI (show 1 < 3 by decide) (by decide)) dX4_init_48 (fun H locs hP hS => ?_)
  rw [nI_clamp (by decide)] at hP
  have hI := cN_set (i := 1) (e := (rp_r (ly_k y 3) 3 (va_up (va_up (fun _ => none) 0 (some r0)) 1 (some r1)))) hI rfl
  obtain ⟨M12, hM12⟩ : ∃ z, z = gk_up M11 ra (rp_r (ly_k y 3) 3 (va_up (va_up (fun _ => none) 0 (some r0)) 1 (some r1))) := ⟨_, rfl⟩
  have hP : gk_P (ly_D y) A M12 H := by rw [hM12]; exact hP
  have hI : cN G M12 [(q, (.inr (5, [.ref ra, .ref fa, .ref ha, .int 0]))), (ra, (rp_r (ly_k y 3) 3 (va_up (va_up (fun _ => none) 0 (some r0)) 1 (some r1)))), (fa, (rp_r (ly_k y 4) 5 (fun _ => none))), (ha, (rp_r (ly_k y 5) 4 (fun _ => none))), (r0, (.inr (4, [.int (nI 0), .int 0, .int (-1), .int (-1), .int 0, .int 3, .int 0, .int 0, .int 0, .int 0]))), (r1, (.inr (4, [.int (nI 1), .int 0, .int (-1), .int (-1), .int 0, .int 3, .int 0, .int 0, .int 0, .int 0])))] := by rw [hM12]; exact hI
  refine lv_iinc (v := nI 2) (lv' := [(1, .int (nI 2)), (0, .ref q)]) hK.1.1 hK.1.2.1 dX4_init_49 hl (k := 0) rfl (by decide) (by decide) rfl (fun ls hl => ?_)
  refine lv_goto (tgt := 30) hK.1.1 hK.1.2.1 dX4_init_52 (by decide) ?_
  refine lv_iload_n hK.1.1 hK.1.2.1 dX4_init_30 rfl (lv_at hl 0 rfl) ?_
  refine lv_iconst (v := 3) hK.1.1 hK.1.2.1 dX4_init_31 (by decide) ?_
  refine lv_icmp_ge (tgt := 55) hK.1.1 hK.1.2.1 dX4_init_32 (by decide) (fun c => absurd c (by decide)) (fun _ => ?_)
  refine lv_aload_n hK.1.1 hK.1.2.1 dX4_init_35 rfl (lv_at hl 1 rfl) ?_
  refine gk_get hK.1 hK.2.2.1.1 hP (k := 0) (hI.1 0 _ _ rfl) rfl inlX4 (by decide) q_1_12 (fun _ h => h) rfl dX4_init_36 ?_
  refine lv_iload_n hK.1.1 hK.1.2.1 dX4_init_39 rfl (lv_at hl 0 rfl) ?_
  refine gk_new hK.1 hK.2.2.1.1 hP hS hK.2.2.2 (ci := 4) (C := RX3) (T := TX3) (N := 10) rfl inlX3 tyX3 tyX3_ok q_1_11 q_1_17 q_1_18 (fs := [.int 0, .int 0, .int 0, .int 0, .int 0, .int 0, .int 0, .int 0, .int 0, .int 0]) (by decide +kernel) (Nat.le_of_ble_eq_true rfl) (Nat.le_of_ble_eq_true rfl) dX4_init_40 (fun r2 H hn hP hS => ?_)
  have hI := cN_new (e := (.inr (4, [.int 0, .int 0, .int 0, .int 0, .int 0, .int 0, .int 0, .int 0, .int 0, .int 0]))) hI hn
  obtain ⟨M13, hM13⟩ : ∃ z, z = gk_up M12 r2 (.inr (4, [.int 0, .int 0, .int 0, .int 0, .int 0, .int 0, .int 0, .int 0, .int 0, .int 0])) := ⟨_, rfl⟩
  have hP : gk_P (ly_D y) A M13 H := by rw [hM13]; exact hP
  have hI : cN G M13 [(q, (.inr (5, [.ref ra, .ref fa, .ref ha, .int 0]))), (ra, (rp_r (ly_k y 3) 3 (va_up (va_up (fun _ => none) 0 (some r0)) 1 (some r1)))), (fa, (rp_r (ly_k y 4) 5 (fun _ => none))), (ha, (rp_r (ly_k y 5) 4 (fun _ => none))), (r0, (.inr (4, [.int (nI 0), .int 0, .int (-1), .int (-1), .int 0, .int 3, .int 0, .int 0, .int 0, .int 0]))), (r1, (.inr (4, [.int (nI 1), .int 0, .int (-1), .int (-1), .int 0, .int 3, .int 0, .int 0, .int 0, .int 0]))), (r2, (.inr (4, [.int 0, .int 0, .int 0, .int 0, .int 0, .int 0, .int 0, .int 0, .int 0, .int 0])))] := by rw [hM13]; exact hI
  refine lv_dup hK.1.1 hK.1.2.1 dX4_init_43 rfl ?_
  refine lv_iload_n hK.1.1 hK.1.2.1 dX4_init_44 rfl (lv_at hl 0 rfl) ?_
  refine gk_callI (n := 1) (As := [.int (nI 2)]) (rest := [.ref r2, .int (nI 2), .ref ra]) hK (c_X3_init l (i := nI 2) (hI.1 6 _ _ rfl)) q_2_1 q_1_18 q_1_23 q_2_0 rfl ⟨by decide +kernel, by decide +kernel, by decide +kernel⟩ ⟨(Nat.le_of_ble_eq_true rfl), (Nat.le_of_ble_eq_true rfl)⟩ hP hS rfl hl.1 rfl (Nat.le_of_ble_eq_true rfl) dX4_init_45 ⟨(Nat.le_of_ble_eq_true rfl), (Nat.le_of_ble_eq_true rfl)⟩ (fun v G1 H locs hw hP hS => ?_)
  obtain ⟨rfl, hG9⟩ := hw
  rw [hG9] at hP
  refine W.eq (g2 := F0 m 48 ls [.ref r2, .int (nI 2), .ref ra]) rfl ?_
  have hI := cN_set (i := 6) (e := (.inr (4, [.int (nI 2), .int 0, .int (-1), .int (-1), .int 0, .int 3, .int 0, .int 0, .int 0, .int 0]))) hI rfl
  obtain ⟨M14, hM14⟩ : ∃ z, z = gk_up M13 r2 (.inr (4, [.int (nI 2), .int 0, .int (-1), .int (-1), .int 0, .int 3, .int 0, .int 0, .int 0, .int 0])) := ⟨_, rfl⟩
  have hP : gk_P (ly_D y) A M14 H := by rw [hM14]; exact hP
  have hI : cN G M14 [(q, (.inr (5, [.ref ra, .ref fa, .ref ha, .int 0]))), (ra, (rp_r (ly_k y 3) 3 (va_up (va_up (fun _ => none) 0 (some r0)) 1 (some r1)))), (fa, (rp_r (ly_k y 4) 5 (fun _ => none))), (ha, (rp_r (ly_k y 5) 4 (fun _ => none))), (r0, (.inr (4, [.int (nI 0), .int 0, .int (-1), .int (-1), .int 0, .int 3, .int 0, .int 0, .int 0, .int 0]))), (r1, (.inr (4, [.int (nI 1), .int 0, .int (-1), .int (-1), .int 0, .int 3, .int 0, .int 0, .int 0, .int 0]))), (r2, (.inr (4, [.int (nI 2), .int 0, .int (-1), .int (-1), .int 0, .int 3, .int 0, .int 0, .int 0, .int 0])))] := by rw [hM14]; exact hI
  refine gk_aast hK.1 hK.2.2.1.1 hP hS 3 (hI.1 1 _ _ rfl) rfl (hI.1 6 _ _ rfl) rfl (vp_in_nI (show 2 < 3 by decide) (by decide)) dX4_init_48 (fun H locs hP hS => ?_)
  rw [nI_clamp (by decide)] at hP
  have hI := cN_set (i := 1) (e := (rp_r (ly_k y 3) 3 (va_up (va_up (va_up (fun _ => none) 0 (some r0)) 1 (some r1)) 2 (some r2)))) hI rfl
  obtain ⟨M15, hM15⟩ : ∃ z, z = gk_up M14 ra (rp_r (ly_k y 3) 3 (va_up (va_up (va_up (fun _ => none) 0 (some r0)) 1 (some r1)) 2 (some r2))) := ⟨_, rfl⟩
  have hP : gk_P (ly_D y) A M15 H := by rw [hM15]; exact hP
  have hI : cN G M15 [(q, (.inr (5, [.ref ra, .ref fa, .ref ha, .int 0]))), (ra, (rp_r (ly_k y 3) 3 (va_up (va_up (va_up (fun _ => none) 0 (some r0)) 1 (some r1)) 2 (some r2)))), (fa, (rp_r (ly_k y 4) 5 (fun _ => none))), (ha, (rp_r (ly_k y 5) 4 (fun _ => none))), (r0, (.inr (4, [.int (nI 0), .int 0, .int (-1), .int (-1), .int 0, .int 3, .int 0, .int 0, .int 0, .int 0]))), (r1, (.inr (4, [.int (nI 1), .int 0, .int (-1), .int (-1), .int 0, .int 3, .int 0, .int 0, .int 0, .int 0]))), (r2, (.inr (4, [.int (nI 2), .int 0, .int (-1), .int (-1), .int 0, .int 3, .int 0, .int 0, .int 0, .int 0])))] := by rw [hM15]; exact hI
  refine lv_iinc (v := nI 3) (lv' := [(1, .int (nI 3)), (0, .ref q)]) hK.1.1 hK.1.2.1 dX4_init_49 hl (k := 0) rfl (by decide) (by decide) rfl (fun ls hl => ?_)
  refine lv_goto (tgt := 30) hK.1.1 hK.1.2.1 dX4_init_52 (by decide) ?_
  refine lv_iload_n hK.1.1 hK.1.2.1 dX4_init_30 rfl (lv_at hl 0 rfl) ?_
  refine lv_iconst (v := 3) hK.1.1 hK.1.2.1 dX4_init_31 (by decide) ?_
  refine lv_icmp_ge (tgt := 55) hK.1.1 hK.1.2.1 dX4_init_32 (by decide) (fun _ => ?_) (fun c => absurd (by decide) c)
  refine lv_iconst (v := 0) hK.1.1 hK.1.2.1 dX4_init_55 (by decide) ?_
  refine lv_istore_n (lv' := [(1, .int (nI 0)), (0, .ref q)]) hK.1.1 hK.1.2.1 dX4_init_56 rfl hl (by decide) rfl (fun ls hl => ?_)
  refine lv_iload_n hK.1.1 hK.1.2.1 dX4_init_57 rfl (lv_at hl 0 rfl) ?_
  refine lv_iconst (v := 5) hK.1.1 hK.1.2.1 dX4_init_58 (by decide) ?_
  refine lv_icmp_ge (tgt := 88) hK.1.1 hK.1.2.1 dX4_init_59 (by decide) (fun c => absurd c (by decide)) (fun _ => ?_)
  refine lv_aload_n hK.1.1 hK.1.2.1 dX4_init_62 rfl (lv_at hl 1 rfl) ?_
  refine gk_get hK.1 hK.2.2.1.1 hP (k := 1) (hI.1 0 _ _ rfl) rfl inlX4 (by decide) q_1_14 (fun _ h => h) rfl dX4_init_63 ?_
  refine lv_iload_n hK.1.1 hK.1.2.1 dX4_init_66 rfl (lv_at hl 0 rfl) ?_
  refine gk_new hK.1 hK.2.2.1.1 hP hS hK.2.2.2 (ci := 2) (C := RX1) (T := TX1) (N := 7) rfl inlX1 tyX1 tyX1_ok q_1_13 q_1_19 q_1_20 (fs := [.int 0, .null, .null, .null, .int 0, .int 0, .int 0]) (by decide +kernel) (Nat.le_of_ble_eq_true rfl) (Nat.le_of_ble_eq_true rfl) dX4_init_67 (fun f0 H hn hP hS => ?_)
  have hI := cN_new (e := (.inr (2, [.int 0, .null, .null, .null, .int 0, .int 0, .int 0]))) hI hn
  obtain ⟨M16, hM16⟩ : ∃ z, z = gk_up M15 f0 (.inr (2, [.int 0, .null, .null, .null, .int 0, .int 0, .int 0])) := ⟨_, rfl⟩
  have hP : gk_P (ly_D y) A M16 H := by rw [hM16]; exact hP
  have hI : cN G M16 [(q, (.inr (5, [.ref ra, .ref fa, .ref ha, .int 0]))), (ra, (rp_r (ly_k y 3) 3 (va_up (va_up (va_up (fun _ => none) 0 (some r0)) 1 (some r1)) 2 (some r2)))), (fa, (rp_r (ly_k y 4) 5 (fun _ => none))), (ha, (rp_r (ly_k y 5) 4 (fun _ => none))), (r0, (.inr (4, [.int (nI 0), .int 0, .int (-1), .int (-1), .int 0, .int 3, .int 0, .int 0, .int 0, .int 0]))), (r1, (.inr (4, [.int (nI 1), .int 0, .int (-1), .int (-1), .int 0, .int 3, .int 0, .int 0, .int 0, .int 0]))), (r2, (.inr (4, [.int (nI 2), .int 0, .int (-1), .int (-1), .int 0, .int 3, .int 0, .int 0, .int 0, .int 0]))), (f0, (.inr (2, [.int 0, .null, .null, .null, .int 0, .int 0, .int 0])))] := by rw [hM16]; exact hI
  refine lv_dup hK.1.1 hK.1.2.1 dX4_init_70 rfl ?_
  refine lv_iload_n hK.1.1 hK.1.2.1 dX4_init_71 rfl (lv_at hl 0 rfl) ?_
  refine lv_aload_n hK.1.1 hK.1.2.1 dX4_init_72 rfl (lv_at hl 1 rfl) ?_
  refine gk_get hK.1 hK.2.2.1.1 hP (k := 0) (hI.1 0 _ _ rfl) rfl inlX4 (by decide) q_1_12 (fun _ h => h) rfl dX4_init_73 ?_
  refine lv_iconst (v := 0) hK.1.1 hK.1.2.1 dX4_init_76 (by decide) ?_
  refine gk_aald hK.1 hK.2.2.1.1 hP 3 (C := RX3) (hI.1 1 _ _ rfl) rfl (i := nI 0) (vp_in_nI (by decide) (by decide)) dX4_init_77 ?_
  refine W.eq (g2 := F0 m 78 ls [.ref r0, .int (nI 0), .ref f0, .ref f0, .int (nI 0), .ref fa]) (by rw [nI_clamp (by decide)]; rfl) ?_
  refine gk_callI (n := 2) (As := [.int (nI 0), .ref r0]) (rest := [.ref f0, .int (nI 0), .ref fa]) hK (c_X1_init l (i := nI 0) (r := r0) (hI.1 7 _ _ rfl)) q_2_9 q_1_20 q_2_7 q_2_8 rfl ⟨by decide +kernel, by decide +kernel, by decide +kernel⟩ ⟨(Nat.le_of_ble_eq_true rfl), (Nat.le_of_ble_eq_true rfl)⟩ hP hS rfl hl.1 rfl (Nat.le_of_ble_eq_true rfl) dX4_init_78 ⟨(Nat.le_of_ble_eq_true rfl), (Nat.le_of_ble_eq_true rfl)⟩ (fun v G1 H locs hw hP hS => ?_)
  obtain ⟨rfl, l0, t0, p1, p2, p3, p4, p5, p6, p7, p8, p9⟩ := hw
  rw [gk_ext3 p3 p4 p5 p6 p7 p8 p9] at hP
  refine W.eq (g2 := F0 m 81 ls [.ref f0, .int (nI 0), .ref fa]) rfl ?_
  have hP0 := hP
  have hI := cN_set (i := 7) (e := (.inr (2, [.int (nI 0), .ref l0, .ref r0, .ref t0, .int 0, .int 0, .int 0]))) hI rfl
  have hI := cN_new (e := (.inr (0, [.int 0, .ref (ly_a y 6), .int 0]))) hI (by rw [gk_un _ _ p3]; exact p1)
  have hI := cN_new (e := (.inr (3, [.int 0, .int 0, .int 0]))) hI (by rw [gk_un _ _ (Ne.symm p5), gk_un _ _ p4]; exact p2)
  obtain ⟨M17, hM17⟩ : ∃ z, z = gk_up (gk_up (gk_up M16 f0 (.inr (2, [.int (nI 0), .ref l0, .ref r0, .ref t0, .int 0, .int 0, .int 0]))) l0 (.inr (0, [.int 0, .ref (ly_a y 6), .int 0]))) t0 (.inr (3, [.int 0, .int 0, .int 0])) := ⟨_, rfl⟩
  have hP : gk_P (ly_D y) A M17 H := by rw [hM17]; exact hP
  have hI : cN G M17 [(q, (.inr (5, [.ref ra, .ref fa, .ref ha, .int 0]))), (ra, (rp_r (ly_k y 3) 3 (va_up (va_up (va_up (fun _ => none) 0 (some r0)) 1 (some r1)) 2 (some r2)))), (fa, (rp_r (ly_k y 4) 5 (fun _ => none))), (ha, (rp_r (ly_k y 5) 4 (fun _ => none))), (r0, (.inr (4, [.int (nI 0), .int 0, .int (-1), .int (-1), .int 0, .int 3, .int 0, .int 0, .int 0, .int 0]))), (r1, (.inr (4, [.int (nI 1), .int 0, .int (-1), .int (-1), .int 0, .int 3, .int 0, .int 0, .int 0, .int 0]))), (r2, (.inr (4, [.int (nI 2), .int 0, .int (-1), .int (-1), .int 0, .int 3, .int 0, .int 0, .int 0, .int 0]))), (f0, (.inr (2, [.int (nI 0), .ref l0, .ref r0, .ref t0, .int 0, .int 0, .int 0]))), (l0, (.inr (0, [.int 0, .ref (ly_a y 6), .int 0]))), (t0, (.inr (3, [.int 0, .int 0, .int 0])))] := by rw [hM17]; exact hI
  refine gk_aast hK.1 hK.2.2.1.1 hP hS 4 (hI.1 2 _ _ rfl) rfl (hI.1 7 _ _ rfl) rfl (vp_in_nI (show 0 < 5 by decide) (by decide)) dX4_init_81 (fun H locs hP hS => ?_)
  rw [nI_clamp (by decide)] at hP
  have hI := cN_set (i := 2) (e := (rp_r (ly_k y 4) 5 (va_up (fun _ => none) 0 (some f0)))) hI rfl
  obtain ⟨M18, hM18⟩ : ∃ z, z = gk_up M17 fa (rp_r (ly_k y 4) 5 (va_up (fun _ => none) 0 (some f0))) := ⟨_, rfl⟩
  have hP : gk_P (ly_D y) A M18 H := by rw [hM18]; exact hP
  have hI : cN G M18 [(q, (.inr (5, [.ref ra, .ref fa, .ref ha, .int 0]))), (ra, (rp_r (ly_k y 3) 3 (va_up (va_up (va_up (fun _ => none) 0 (some r0)) 1 (some r1)) 2 (some r2)))), (fa, (rp_r (ly_k y 4) 5 (va_up (fun _ => none) 0 (some f0)))), (ha, (rp_r (ly_k y 5) 4 (fun _ => none))), (r0, (.inr (4, [.int (nI 0), .int 0, .int (-1), .int (-1), .int 0, .int 3, .int 0, .int 0, .int 0, .int 0]))), (r1, (.inr (4, [.int (nI 1), .int 0, .int (-1), .int (-1), .int 0, .int 3, .int 0, .int 0, .int 0, .int 0]))), (r2, (.inr (4, [.int (nI 2), .int 0, .int (-1), .int (-1), .int 0, .int 3, .int 0, .int 0, .int 0, .int 0]))), (f0, (.inr (2, [.int (nI 0), .ref l0, .ref r0, .ref t0, .int 0, .int 0, .int 0]))), (l0, (.inr (0, [.int 0, .ref (ly_a y 6), .int 0]))), (t0, (.inr (3, [.int 0, .int 0, .int 0])))] := by rw [hM18]; exact hI
  refine lv_iinc (v := nI 1) (lv' := [(1, .int (nI 1)), (0, .ref q)]) hK.1.1 hK.1.2.1 dX4_init_82 hl (k := 0) rfl (by decide) (by decide) rfl (fun ls hl => ?_)
  refine lv_goto (tgt := 57) hK.1.1 hK.1.2.1 dX4_init_85 (by decide) ?_
  refine lv_iload_n hK.1.1 hK.1.2.1 dX4_init_57 rfl (lv_at hl 0 rfl) ?_
  refine lv_iconst (v := 5) hK.1.1 hK.1.2.1 dX4_init_58 (by decide) ?_
  refine lv_icmp_ge (tgt := 88) hK.1.1 hK.1.2.1 dX4_init_59 (by decide) (fun c => absurd c (by decide)) (fun _ => ?_)
  refine lv_aload_n hK.1.1 hK.1.2.1 dX4_init_62 rfl (lv_at hl 1 rfl) ?_
  refine gk_get hK.1 hK.2.2.1.1 hP (k := 1) (hI.1 0 _ _ rfl) rfl inlX4 (by decide) q_1_14 (fun _ h => h) rfl dX4_init_63 ?_
  refine lv_iload_n hK.1.1 hK.1.2.1 dX4_init_66 rfl (lv_at hl 0 rfl) ?_
  refine gk_new hK.1 hK.2.2.1.1 hP hS hK.2.2.2 (ci := 2) (C := RX1) (T := TX1) (N := 7) rfl inlX1 tyX1 tyX1_ok q_1_13 q_1_19 q_1_20 (fs := [.int 0, .null, .null, .null, .int 0, .int 0, .int 0]) (by decide +kernel) (Nat.le_of_ble_eq_true rfl) (Nat.le_of_ble_eq_true rfl) dX4_init_67 (fun f1 H hn hP hS => ?_)
  have hI := cN_new (e := (.inr (2, [.int 0, .null, .null, .null, .int 0, .int 0, .int 0]))) hI hn
  obtain ⟨M19, hM19⟩ : ∃ z, z = gk_up M18 f1 (.inr (2, [.int 0, .null, .null, .null, .int 0, .int 0, .int 0])) := ⟨_, rfl⟩
  have hP : gk_P (ly_D y) A M19 H := by rw [hM19]; exact hP
  have hI : cN G M19 [(q, (.inr (5, [.ref ra, .ref fa, .ref ha, .int 0]))), (ra, (rp_r (ly_k y 3) 3 (va_up (va_up (va_up (fun _ => none) 0 (some r0)) 1 (some r1)) 2 (some r2)))), (fa, (rp_r (ly_k y 4) 5 (va_up (fun _ => none) 0 (some f0)))), (ha, (rp_r (ly_k y 5) 4 (fun _ => none))), (r0, (.inr (4, [.int (nI 0), .int 0, .int (-1), .int (-1), .int 0, .int 3, .int 0, .int 0, .int 0, .int 0]))), (r1, (.inr (4, [.int (nI 1), .int 0, .int (-1), .int (-1), .int 0, .int 3, .int 0, .int 0, .int 0, .int 0]))), (r2, (.inr (4, [.int (nI 2), .int 0, .int (-1), .int (-1), .int 0, .int 3, .int 0, .int 0, .int 0, .int 0]))), (f0, (.inr (2, [.int (nI 0), .ref l0, .ref r0, .ref t0, .int 0, .int 0, .int 0]))), (l0, (.inr (0, [.int 0, .ref (ly_a y 6), .int 0]))), (t0, (.inr (3, [.int 0, .int 0, .int 0]))), (f1, (.inr (2, [.int 0, .null, .null, .null, .int 0, .int 0, .int 0])))] := by rw [hM19]; exact hI
  refine lv_dup hK.1.1 hK.1.2.1 dX4_init_70 rfl ?_
  refine lv_iload_n hK.1.1 hK.1.2.1 dX4_init_71 rfl (lv_at hl 0 rfl) ?_
  refine lv_aload_n hK.1.1 hK.1.2.1 dX4_init_72 rfl (lv_at hl 1 rfl) ?_
  refine gk_get hK.1 hK.2.2.1.1 hP (k := 0) (hI.1 0 _ _ rfl) rfl inlX4 (by decide) q_1_12 (fun _ h => h) rfl dX4_init_73 ?_
  refine lv_iconst (v := 0) hK.1.1 hK.1.2.1 dX4_init_76 (by decide) ?_
  refine gk_aald hK.1 hK.2.2.1.1 hP 3 (C := RX3) (hI.1 1 _ _ rfl) rfl (i := nI 0) (vp_in_nI (by decide) (by decide)) dX4_init_77 ?_
  refine W.eq (g2 := F0 m 78 ls [.ref r0, .int (nI 1), .ref f1, .ref f1, .int (nI 1), .ref fa]) (by rw [nI_clamp (by decide)]; rfl) ?_
  refine gk_callI (n := 2) (As := [.int (nI 1), .ref r0]) (rest := [.ref f1, .int (nI 1), .ref fa]) hK (c_X1_init l (i := nI 1) (r := r0) (hI.1 10 _ _ rfl)) q_2_9 q_1_20 q_2_7 q_2_8 rfl ⟨by decide +kernel, by decide +kernel, by decide +kernel⟩ ⟨(Nat.le_of_ble_eq_true rfl), (Nat.le_of_ble_eq_true rfl)⟩ hP hS rfl hl.1 rfl (Nat.le_of_ble_eq_true rfl) dX4_init_78 ⟨(Nat.le_of_ble_eq_true rfl), (Nat.le_of_ble_eq_true rfl)⟩ (fun v G1 H locs hw hP hS => ?_)
  obtain ⟨rfl, l1, t1, p1, p2, p3, p4, p5, p6, p7, p8, p9⟩ := hw
  rw [gk_ext3 p3 p4 p5 p6 p7 p8 p9] at hP
  refine W.eq (g2 := F0 m 81 ls [.ref f1, .int (nI 1), .ref fa]) rfl ?_
  have hP0 := hP
  have hI := cN_set (i := 10) (e := (.inr (2, [.int (nI 1), .ref l1, .ref r0, .ref t1, .int 0, .int 0, .int 0]))) hI rfl
  have hI := cN_new (e := (.inr (0, [.int 0, .ref (ly_a y 6), .int 0]))) hI (by rw [gk_un _ _ p3]; exact p1)
  have hI := cN_new (e := (.inr (3, [.int 0, .int 0, .int 0]))) hI (by rw [gk_un _ _ (Ne.symm p5), gk_un _ _ p4]; exact p2)
  obtain ⟨M20, hM20⟩ : ∃ z, z = gk_up (gk_up (gk_up M19 f1 (.inr (2, [.int (nI 1), .ref l1, .ref r0, .ref t1, .int 0, .int 0, .int 0]))) l1 (.inr (0, [.int 0, .ref (ly_a y 6), .int 0]))) t1 (.inr (3, [.int 0, .int 0, .int 0])) := ⟨_, rfl⟩
  have hP : gk_P (ly_D y) A M20 H := by rw [hM20]; exact hP
  have hI : cN G M20 [(q, (.inr (5, [.ref ra, .ref fa, .ref ha, .int 0]))), (ra, (rp_r (ly_k y 3) 3 (va_up (va_up (va_up (fun _ => none) 0 (some r0)) 1 (some r1)) 2 (some r2)))), (fa, (rp_r (ly_k y 4) 5 (va_up (fun _ => none) 0 (some f0)))), (ha, (rp_r (ly_k y 5) 4 (fun _ => none))), (r0, (.inr (4, [.int (nI 0), .int 0, .int (-1), .int (-1), .int 0, .int 3, .int 0, .int 0, .int 0, .int 0]))), (r1, (.inr (4, [.int (nI 1), .int 0, .int (-1), .int (-1), .int 0, .int 3, .int 0, .int 0, .int 0, .int 0]))), (r2, (.inr (4, [.int (nI 2), .int 0, .int (-1), .int (-1), .int 0, .int 3, .int 0, .int 0, .int 0, .int 0]))), (f0, (.inr (2, [.int (nI 0), .ref l0, .ref r0, .ref t0, .int 0, .int 0, .int 0]))), (l0, (.inr (0, [.int 0, .ref (ly_a y 6), .int 0]))), (t0, (.inr (3, [.int 0, .int 0, .int 0]))), (f1, (.inr (2, [.int (nI 1), .ref l1, .ref r0, .ref t1, .int 0, .int 0, .int 0]))), (l1, (.inr (0, [.int 0, .ref (ly_a y 6), .int 0]))), (t1, (.inr (3, [.int 0, .int 0, .int 0])))] := by rw [hM20]; exact hI
  refine gk_aast hK.1 hK.2.2.1.1 hP hS 4 (hI.1 2 _ _ rfl) rfl (hI.1 10 _ _ rfl) rfl (vp_in_nI (show 1 < 5 by decide) (by decide)) dX4_init_81 (fun H locs hP hS => ?_)
  rw [nI_clamp (by decide)] at hP
  have hI := cN_set (i := 2) (e := (rp_r (ly_k y 4) 5 (va_up (va_up (fun _ => none) 0 (some f0)) 1 (some f1)))) hI rfl
  obtain ⟨M21, hM21⟩ : ∃ z, z = gk_up M20 fa (rp_r (ly_k y 4) 5 (va_up (va_up (fun _ => none) 0 (some f0)) 1 (some f1))) := ⟨_, rfl⟩
  have hP : gk_P (ly_D y) A M21 H := by rw [hM21]; exact hP
  have hI : cN G M21 [(q, (.inr (5, [.ref ra, .ref fa, .ref ha, .int 0]))), (ra, (rp_r (ly_k y 3) 3 (va_up (va_up (va_up (fun _ => none) 0 (some r0)) 1 (some r1)) 2 (some r2)))), (fa, (rp_r (ly_k y 4) 5 (va_up (va_up (fun _ => none) 0 (some f0)) 1 (some f1)))), (ha, (rp_r (ly_k y 5) 4 (fun _ => none))), (r0, (.inr (4, [.int (nI 0), .int 0, .int (-1), .int (-1), .int 0, .int 3, .int 0, .int 0, .int 0, .int 0]))), (r1, (.inr (4, [.int (nI 1), .int 0, .int (-1), .int (-1), .int 0, .int 3, .int 0, .int 0, .int 0, .int 0]))), (r2, (.inr (4, [.int (nI 2), .int 0, .int (-1), .int (-1), .int 0, .int 3, .int 0, .int 0, .int 0, .int 0]))), (f0, (.inr (2, [.int (nI 0), .ref l0, .ref r0, .ref t0, .int 0, .int 0, .int 0]))), (l0, (.inr (0, [.int 0, .ref (ly_a y 6), .int 0]))), (t0, (.inr (3, [.int 0, .int 0, .int 0]))), (f1, (.inr (2, [.int (nI 1), .ref l1, .ref r0, .ref t1, .int 0, .int 0, .int 0]))), (l1, (.inr (0, [.int 0, .ref (ly_a y 6), .int 0]))), (t1, (.inr (3, [.int 0, .int 0, .int 0])))] := by rw [hM21]; exact hI
  refine lv_iinc (v := nI 2) (lv' := [(1, .int (nI 2)), (0, .ref q)]) hK.1.1 hK.1.2.1 dX4_init_82 hl (k := 0) rfl (by decide) (by decide) rfl (fun ls hl => ?_)
  refine lv_goto (tgt := 57) hK.1.1 hK.1.2.1 dX4_init_85 (by decide) ?_
  refine lv_iload_n hK.1.1 hK.1.2.1 dX4_init_57 rfl (lv_at hl 0 rfl) ?_
  refine lv_iconst (v := 5) hK.1.1 hK.1.2.1 dX4_init_58 (by decide) ?_
  refine lv_icmp_ge (tgt := 88) hK.1.1 hK.1.2.1 dX4_init_59 (by decide) (fun c => absurd c (by decide)) (fun _ => ?_)
  refine lv_aload_n hK.1.1 hK.1.2.1 dX4_init_62 rfl (lv_at hl 1 rfl) ?_
  refine gk_get hK.1 hK.2.2.1.1 hP (k := 1) (hI.1 0 _ _ rfl) rfl inlX4 (by decide) q_1_14 (fun _ h => h) rfl dX4_init_63 ?_
  refine lv_iload_n hK.1.1 hK.1.2.1 dX4_init_66 rfl (lv_at hl 0 rfl) ?_
  refine gk_new hK.1 hK.2.2.1.1 hP hS hK.2.2.2 (ci := 2) (C := RX1) (T := TX1) (N := 7) rfl inlX1 tyX1 tyX1_ok q_1_13 q_1_19 q_1_20 (fs := [.int 0, .null, .null, .null, .int 0, .int 0, .int 0]) (by decide +kernel) (Nat.le_of_ble_eq_true rfl) (Nat.le_of_ble_eq_true rfl) dX4_init_67 (fun f2 H hn hP hS => ?_)
  have hI := cN_new (e := (.inr (2, [.int 0, .null, .null, .null, .int 0, .int 0, .int 0]))) hI hn
  obtain ⟨M22, hM22⟩ : ∃ z, z = gk_up M21 f2 (.inr (2, [.int 0, .null, .null, .null, .int 0, .int 0, .int 0])) := ⟨_, rfl⟩
  have hP : gk_P (ly_D y) A M22 H := by rw [hM22]; exact hP
  have hI : cN G M22 [(q, (.inr (5, [.ref ra, .ref fa, .ref ha, .int 0]))), (ra, (rp_r (ly_k y 3) 3 (va_up (va_up (va_up (fun _ => none) 0 (some r0)) 1 (some r1)) 2 (some r2)))), (fa, (rp_r (ly_k y 4) 5 (va_up (va_up (fun _ => none) 0 (some f0)) 1 (some f1)))), (ha, (rp_r (ly_k y 5) 4 (fun _ => none))), (r0, (.inr (4, [.int (nI 0), .int 0, .int (-1), .int (-1), .int 0, .int 3, .int 0, .int 0, .int 0, .int 0]))), (r1, (.inr (4, [.int (nI 1), .int 0, .int (-1), .int (-1), .int 0, .int 3, .int 0, .int 0, .int 0, .int 0]))), (r2, (.inr (4, [.int (nI 2), .int 0, .int (-1), .int (-1), .int 0, .int 3, .int 0, .int 0, .int 0, .int 0]))), (f0, (.inr (2, [.int (nI 0), .ref l0, .ref r0, .ref t0, .int 0, .int 0, .int 0]))), (l0, (.inr (0, [.int 0, .ref (ly_a y 6), .int 0]))), (t0, (.inr (3, [.int 0, .int 0, .int 0]))), (f1, (.inr (2, [.int (nI 1), .ref l1, .ref r0, .ref t1, .int 0, .int 0, .int 0]))), (l1, (.inr (0, [.int 0, .ref (ly_a y 6), .int 0]))), (t1, (.inr (3, [.int 0, .int 0, .int 0]))), (f2, (.inr (2, [.int 0, .null, .null, .null, .int 0, .int 0, .int 0])))] := by rw [hM22]; exact hI
  refine lv_dup hK.1.1 hK.1.2.1 dX4_init_70 rfl ?_
  refine lv_iload_n hK.1.1 hK.1.2.1 dX4_init_71 rfl (lv_at hl 0 rfl) ?_
  refine lv_aload_n hK.1.1 hK.1.2.1 dX4_init_72 rfl (lv_at hl 1 rfl) ?_
  refine gk_get hK.1 hK.2.2.1.1 hP (k := 0) (hI.1 0 _ _ rfl) rfl inlX4 (by decide) q_1_12 (fun _ h => h) rfl dX4_init_73 ?_
  refine lv_iconst (v := 0) hK.1.1 hK.1.2.1 dX4_init_76 (by decide) ?_
  refine gk_aald hK.1 hK.2.2.1.1 hP 3 (C := RX3) (hI.1 1 _ _ rfl) rfl (i := nI 0) (vp_in_nI (by decide) (by decide)) dX4_init_77 ?_
  refine W.eq (g2 := F0 m 78 ls [.ref r0, .int (nI 2), .ref f2, .ref f2, .int (nI 2), .ref fa]) (by rw [nI_clamp (by decide)]; rfl) ?_
  refine gk_callI (n := 2) (As := [.int (nI 2), .ref r0]) (rest := [.ref f2, .int (nI 2), .ref fa]) hK (c_X1_init l (i := nI 2) (r := r0) (hI.1 13 _ _ rfl)) q_2_9 q_1_20 q_2_7 q_2_8 rfl ⟨by decide +kernel, by decide +kernel, by decide +kernel⟩ ⟨(Nat.le_of_ble_eq_true rfl), (Nat.le_of_ble_eq_true rfl)⟩ hP hS rfl hl.1 rfl (Nat.le_of_ble_eq_true rfl) dX4_init_78 ⟨(Nat.le_of_ble_eq_true rfl), (Nat.le_of_ble_eq_true rfl)⟩ (fun v G1 H locs hw hP hS => ?_)
  obtain ⟨rfl, l2, t2, p1, p2, p3, p4, p5, p6, p7, p8, p9⟩ := hw
  rw [gk_ext3 p3 p4 p5 p6 p7 p8 p9] at hP
  refine W.eq (g2 := F0 m 81 ls [.ref f2, .int (nI 2), .ref fa]) rfl ?_
  have hP0 := hP
  have hI := cN_set (i := 13) (e := (.inr (2, [.int (nI 2), .ref l2, .ref r0, .ref t2, .int 0, .int 0, .int 0]))) hI rfl
  have hI := cN_new (e := (.inr (0, [.int 0, .ref (ly_a y 6), .int 0]))) hI (by rw [gk_un _ _ p3]; exact p1)
  have hI := cN_new (e := (.inr (3, [.int 0, .int 0, .int 0]))) hI (by rw [gk_un _ _ (Ne.symm p5), gk_un _ _ p4]; exact p2)
  obtain ⟨M23, hM23⟩ : ∃ z, z = gk_up (gk_up (gk_up M22 f2 (.inr (2, [.int (nI 2), .ref l2, .ref r0, .ref t2, .int 0, .int 0, .int 0]))) l2 (.inr (0, [.int 0, .ref (ly_a y 6), .int 0]))) t2 (.inr (3, [.int 0, .int 0, .int 0])) := ⟨_, rfl⟩
  have hP : gk_P (ly_D y) A M23 H := by rw [hM23]; exact hP
  have hI : cN G M23 [(q, (.inr (5, [.ref ra, .ref fa, .ref ha, .int 0]))), (ra, (rp_r (ly_k y 3) 3 (va_up (va_up (va_up (fun _ => none) 0 (some r0)) 1 (some r1)) 2 (some r2)))), (fa, (rp_r (ly_k y 4) 5 (va_up (va_up (fun _ => none) 0 (some f0)) 1 (some f1)))), (ha, (rp_r (ly_k y 5) 4 (fun _ => none))), (r0, (.inr (4, [.int (nI 0), .int 0, .int (-1), .int (-1), .int 0, .int 3, .int 0, .int 0, .int 0, .int 0]))), (r1, (.inr (4, [.int (nI 1), .int 0, .int (-1), .int (-1), .int 0, .int 3, .int 0, .int 0, .int 0, .int 0]))), (r2, (.inr (4, [.int (nI 2), .int 0, .int (-1), .int (-1), .int 0, .int 3, .int 0, .int 0, .int 0, .int 0]))), (f0, (.inr (2, [.int (nI 0), .ref l0, .ref r0, .ref t0, .int 0, .int 0, .int 0]))), (l0, (.inr (0, [.int 0, .ref (ly_a y 6), .int 0]))), (t0, (.inr (3, [.int 0, .int 0, .int 0]))), (f1, (.inr (2, [.int (nI 1), .ref l1, .ref r0, .ref t1, .int 0, .int 0, .int 0]))), (l1, (.inr (0, [.int 0, .ref (ly_a y 6), .int 0]))), (t1, (.inr (3, [.int 0, .int 0, .int 0]))), (f2, (.inr (2, [.int (nI 2), .ref l2, .ref r0, .ref t2, .int 0, .int 0, .int 0]))), (l2, (.inr (0, [.int 0, .ref (ly_a y 6), .int 0]))), (t2, (.inr (3, [.int 0, .int 0, .int 0])))] := by rw [hM23]; exact hI
  refine gk_aast hK.1 hK.2.2.1.1 hP hS 4 (hI.1 2 _ _ rfl) rfl (hI.1 13 _ _ rfl) rfl (vp_in_nI (show 2 < 5 by decide) (by decide)) dX4_init_81 (fun H locs hP hS => ?_)
  rw [nI_clamp (by decide)] at hP
  have hI := cN_set (i := 2) (e := (rp_r (ly_k y 4) 5 (va_up (va_up (va_up (fun _ => none) 0 (some f0)) 1 (some f1)) 2 (some f2)))) hI rfl
  obtain ⟨M24, hM24⟩ : ∃ z, z = gk_up M23 fa (rp_r (ly_k y 4) 5 (va_up (va_up (va_up (fun _ => none) 0 (some f0)) 1 (some f1)) 2 (some f2))) := ⟨_, rfl⟩
  have hP : gk_P (ly_D y) A M24 H := by rw [hM24]; exact hP
  have hI : cN G M24 [(q, (.inr (5, [.ref ra, .ref fa, .ref ha, .int 0]))), (ra, (rp_r (ly_k y 3) 3 (va_up (va_up (va_up (fun _ => none) 0 (some r0)) 1 (some r1)) 2 (some r2)))), (fa, (rp_r (ly_k y 4) 5 (va_up (va_up (va_up (fun _ => none) 0 (some f0)) 1 (some f1)) 2 (some f2)))), (ha, (rp_r (ly_k y 5) 4 (fun _ => none))), (r0, (.inr (4, [.int (nI 0), .int 0, .int (-1), .int (-1), .int 0, .int 3, .int 0, .int 0, .int 0, .int 0]))), (r1, (.inr (4, [.int (nI 1), .int 0, .int (-1), .int (-1), .int 0, .int 3, .int 0, .int 0, .int 0, .int 0]))), (r2, (.inr (4, [.int (nI 2), .int 0, .int (-1), .int (-1), .int 0, .int 3, .int 0, .int 0, .int 0, .int 0]))), (f0, (.inr (2, [.int (nI 0), .ref l0, .ref r0, .ref t0, .int 0, .int 0, .int 0]))), (l0, (.inr (0, [.int 0, .ref (ly_a y 6), .int 0]))), (t0, (.inr (3, [.int 0, .int 0, .int 0]))), (f1, (.inr (2, [.int (nI 1), .ref l1, .ref r0, .ref t1, .int 0, .int 0, .int 0]))), (l1, (.inr (0, [.int 0, .ref (ly_a y 6), .int 0]))), (t1, (.inr (3, [.int 0, .int 0, .int 0]))), (f2, (.inr (2, [.int (nI 2), .ref l2, .ref r0, .ref t2, .int 0, .int 0, .int 0]))), (l2, (.inr (0, [.int 0, .ref (ly_a y 6), .int 0]))), (t2, (.inr (3, [.int 0, .int 0, .int 0])))] := by rw [hM24]; exact hI
  refine lv_iinc (v := nI 3) (lv' := [(1, .int (nI 3)), (0, .ref q)]) hK.1.1 hK.1.2.1 dX4_init_82 hl (k := 0) rfl (by decide) (by decide) rfl (fun ls hl => ?_)
  refine lv_goto (tgt := 57) hK.1.1 hK.1.2.1 dX4_init_85 (by decide) ?_
  refine lv_iload_n hK.1.1 hK.1.2.1 dX4_init_57 rfl (lv_at hl 0 rfl) ?_
  refine lv_iconst (v := 5) hK.1.1 hK.1.2.1 dX4_init_58 (by decide) ?_
  refine lv_icmp_ge (tgt := 88) hK.1.1 hK.1.2.1 dX4_init_59 (by decide) (fun c => absurd c (by decide)) (fun _ => ?_)
  refine lv_aload_n hK.1.1 hK.1.2.1 dX4_init_62 rfl (lv_at hl 1 rfl) ?_
  refine gk_get hK.1 hK.2.2.1.1 hP (k := 1) (hI.1 0 _ _ rfl) rfl inlX4 (by decide) q_1_14 (fun _ h => h) rfl dX4_init_63 ?_
  refine lv_iload_n hK.1.1 hK.1.2.1 dX4_init_66 rfl (lv_at hl 0 rfl) ?_
  refine gk_new hK.1 hK.2.2.1.1 hP hS hK.2.2.2 (ci := 2) (C := RX1) (T := TX1) (N := 7) rfl inlX1 tyX1 tyX1_ok q_1_13 q_1_19 q_1_20 (fs := [.int 0, .null, .null, .null, .int 0, .int 0, .int 0]) (by decide +kernel) (Nat.le_of_ble_eq_true rfl) (Nat.le_of_ble_eq_true rfl) dX4_init_67 (fun f3 H hn hP hS => ?_)
  have hI := cN_new (e := (.inr (2, [.int 0, .null, .null, .null, .int 0, .int 0, .int 0]))) hI hn
  obtain ⟨M25, hM25⟩ : ∃ z, z = gk_up M24 f3 (.inr (2, [.int 0, .null, .null, .null, .int 0, .int 0, .int 0])) := ⟨_, rfl⟩
  have hP : gk_P (ly_D y) A M25 H := by rw [hM25]; exact hP
  have hI : cN G M25 [(q, (.inr (5, [.ref ra, .ref fa, .ref ha, .int 0]))), (ra, (rp_r (ly_k y 3) 3 (va_up (va_up (va_up (fun _ => none) 0 (some r0)) 1 (some r1)) 2 (some r2)))), (fa, (rp_r (ly_k y 4) 5 (va_up (va_up (va_up (fun _ => none) 0 (some f0)) 1 (some f1)) 2 (some f2)))), (ha, (rp_r (ly_k y 5) 4 (fun _ => none))), (r0, (.inr (4, [.int (nI 0), .int 0, .int (-1), .int (-1), .int 0, .int 3, .int 0, .int 0, .int 0, .int 0]))), (r1, (.inr (4, [.int (nI 1), .int 0, .int (-1), .int (-1), .int 0, .int 3, .int 0, .int 0, .int 0, .int 0]))), (r2, (.inr (4, [.int (nI 2), .int 0, .int (-1), .int (-1), .int 0, .int 3, .int 0, .int 0, .int 0, .int 0]))), (f0, (.inr (2, [.int (nI 0), .ref l0, .ref r0, .ref t0, .int 0, .int 0, .int 0]))), (l0, (.inr (0, [.int 0, .ref (ly_a y 6), .int 0]))), (t0, (.inr (3, [.int 0, .int 0, .int 0]))), (f1, (.inr (2, [.int (nI 1), .ref l1, .ref r0, .ref t1, .int 0, .int 0, .int 0]))), (l1, (.inr (0, [.int 0, .ref (ly_a y 6), .int 0]))), (t1, (.inr (3, [.int 0, .int 0, .int 0]))), (f2, (.inr (2, [.int (nI 2), .ref l2, .ref r0, .ref t2, .int 0, .int 0, .int 0]))), (l2, (.inr (0, [.int 0, .ref (ly_a y 6), .int 0]))), (t2, (.inr (3, [.int 0, .int 0, .int 0]))), (f3, (.inr (2, [.int 0, .null, .null, .null, .int 0, .int 0, .int 0])))] := by rw [hM25]; exact hI
  refine lv_dup hK.1.1 hK.1.2.1 dX4_init_70 rfl ?_
  refine lv_iload_n hK.1.1 hK.1.2.1 dX4_init_71 rfl (lv_at hl 0 rfl) ?_
  refine lv_aload_n hK.1.1 hK.1.2.1 dX4_init_72 rfl (lv_at hl 1 rfl) ?_
  refine gk_get hK.1 hK.2.2.1.1 hP (k := 0) (hI.1 0 _ _ rfl) rfl inlX4 (by decide) q_1_12 (fun _ h => h) rfl dX4_init_73 ?_
  refine lv_iconst (v := 0) hK.1.1 hK.1.2.1 dX4_init_76 (by decide) ?_
  refine gk_aald hK.1 hK.2.2.1.1 hP 3 (C := RX3) (hI.1 1 _ _ rfl) rfl (i := nI 0) (vp_in_nI (by decide) (by decide)) dX4_init_77 ?_
  refine W.eq (g2 := F0 m 78 ls [.ref r0, .int (nI 3), .ref f3, .ref f3, .int (nI 3), .ref fa]) (by rw [nI_clamp (by decide)]; rfl) ?_
  refine gk_callI (n := 2) (As := [.int (nI 3), .ref r0]) (rest := [.ref f3, .int (nI 3), .ref fa]) hK (c_X1_init l (i := nI 3) (r := r0) (hI.1 16 _ _ rfl)) q_2_9 q_1_20 q_2_7 q_2_8 rfl ⟨by decide +kernel, by decide +kernel, by decide +kernel⟩ ⟨(Nat.le_of_ble_eq_true rfl), (Nat.le_of_ble_eq_true rfl)⟩ hP hS rfl hl.1 rfl (Nat.le_of_ble_eq_true rfl) dX4_init_78 ⟨(Nat.le_of_ble_eq_true rfl), (Nat.le_of_ble_eq_true rfl)⟩ (fun v G1 H locs hw hP hS => ?_)
  obtain ⟨rfl, l3, t3, p1, p2, p3, p4, p5, p6, p7, p8, p9⟩ := hw
  rw [gk_ext3 p3 p4 p5 p6 p7 p8 p9] at hP
  refine W.eq (g2 := F0 m 81 ls [.ref f3, .int (nI 3), .ref fa]) rfl ?_
  have hP0 := hP
  have hI := cN_set (i := 16) (e := (.inr (2, [.int (nI 3), .ref l3, .ref r0, .ref t3, .int 0, .int 0, .int 0]))) hI rfl
  have hI := cN_new (e := (.inr (0, [.int 0, .ref (ly_a y 6), .int 0]))) hI (by rw [gk_un _ _ p3]; exact p1)
  have hI := cN_new (e := (.inr (3, [.int 0, .int 0, .int 0]))) hI (by rw [gk_un _ _ (Ne.symm p5), gk_un _ _ p4]; exact p2)
  obtain ⟨M26, hM26⟩ : ∃ z, z = gk_up (gk_up (gk_up M25 f3 (.inr (2, [.int (nI 3), .ref l3, .ref r0, .ref t3, .int 0, .int 0, .int 0]))) l3 (.inr (0, [.int 0, .ref (ly_a y 6), .int 0]))) t3 (.inr (3, [.int 0, .int 0, .int 0])) := ⟨_, rfl⟩
  have hP : gk_P (ly_D y) A M26 H := by rw [hM26]; exact hP
  have hI : cN G M26 [(q, (.inr (5, [.ref ra, .ref fa, .ref ha, .int 0]))), (ra, (rp_r (ly_k y 3) 3 (va_up (va_up (va_up (fun _ => none) 0 (some r0)) 1 (some r1)) 2 (some r2)))), (fa, (rp_r (ly_k y 4) 5 (va_up (va_up (va_up (fun _ => none) 0 (some f0)) 1 (some f1)) 2 (some f2)))), (ha, (rp_r (ly_k y 5) 4 (fun _ => none))), (r0, (.inr (4, [.int (nI 0), .int 0, .int (-1), .int (-1), .int 0, .int 3, .int 0, .int 0, .int 0, .int 0]))), (r1, (.inr (4, [.int (nI 1), .int 0, .int (-1), .int (-1), .int 0, .int 3, .int 0, .int 0, .int 0, .int 0]))), (r2, (.inr (4, [.int (nI 2), .int 0, .int (-1), .int (-1), .int 0, .int 3, .int 0, .int 0, .int 0, .int 0]))), (f0, (.inr (2, [.int (nI 0), .ref l0, .ref r0, .ref t0, .int 0, .int 0, .int 0]))), (l0, (.inr (0, [.int 0, .ref (ly_a y 6), .int 0]))), (t0, (.inr (3, [.int 0, .int 0, .int 0]))), (f1, (.inr (2, [.int (nI 1), .ref l1, .ref r0, .ref t1, .int 0, .int 0, .int 0]))), (l1, (.inr (0, [.int 0, .ref (ly_a y 6), .int 0]))), (t1, (.inr (3, [.int 0, .int 0, .int 0]))), (f2, (.inr (2, [.int (nI 2), .ref l2, .ref r0, .ref t2, .int 0, .int 0, .int 0]))), (l2, (.inr (0, [.int 0, .ref (ly_a y 6), .int 0]))), (t2, (.inr (3, [.int 0, .int 0, .int 0]))), (f3, (.inr (2, [.int (nI 3), .ref l3, .ref r0, .ref t3, .int 0, .int 0, .int 0]))), (l3, (.inr (0, [.int 0, .ref (ly_a y 6), .int 0]))), (t3, (.inr (3, [.int 0, .int 0, .int 0])))] := by rw [hM26]; exact hI
  refine gk_aast hK.1 hK.2.2.1.1 hP hS 4 (hI.1 2 _ _ rfl) rfl (hI.1 16 _ _ rfl) rfl (vp_in_nI (show 3 < 5 by decide) (by decide)) dX4_init_81 (fun H locs hP hS => ?_)
  rw [nI_clamp (by decide)] at hP
  have hI := cN_set (i := 2) (e := (rp_r (ly_k y 4) 5 (va_up (va_up (va_up (va_up (fun _ => none) 0 (some f0)) 1 (some f1)) 2 (some f2)) 3 (some f3)))) hI rfl
  obtain ⟨M27, hM27⟩ : ∃ z, z = gk_up M26 fa (rp_r (ly_k y 4) 5 (va_up (va_up (va_up (va_up (fun _ => none) 0 (some f0)) 1 (some f1)) 2 (some f2)) 3 (some f3))) := ⟨_, rfl⟩
  have hP : gk_P (ly_D y) A M27 H := by rw [hM27]; exact hP
  have hI : cN G M27 [(q, (.inr (5, [.ref ra, .ref fa, .ref ha, .int 0]))), (ra, (rp_r (ly_k y 3) 3 (va_up (va_up (va_up (fun _ => none) 0 (some r0)) 1 (some r1)) 2 (some r2)))), (fa, (rp_r (ly_k y 4) 5 (va_up (va_up (va_up (va_up (fun _ => none) 0 (some f0)) 1 (some f1)) 2 (some f2)) 3 (some f3)))), (ha, (rp_r (ly_k y 5) 4 (fun _ => none))), (r0, (.inr (4, [.int (nI 0), .int 0, .int (-1), .int (-1), .int 0, .int 3, .int 0, .int 0, .int 0, .int 0]))), (r1, (.inr (4, [.int (nI 1), .int 0, .int (-1), .int (-1), .int 0, .int 3, .int 0, .int 0, .int 0, .int 0]))), (r2, (.inr (4, [.int (nI 2), .int 0, .int (-1), .int (-1), .int 0, .int 3, .int 0, .int 0, .int 0, .int 0]))), (f0, (.inr (2, [.int (nI 0), .ref l0, .ref r0, .ref t0, .int 0, .int 0, .int 0]))), (l0, (.inr (0, [.int 0, .ref (ly_a y 6), .int 0]))), (t0, (.inr (3, [.int 0, .int 0, .int 0]))), (f1, (.inr (2, [.int (nI 1), .ref l1, .ref r0, .ref t1, .int 0, .int 0, .int 0]))), (l1, (.inr (0, [.int 0, .ref (ly_a y 6), .int 0]))), (t1, (.inr (3, [.int 0, .int 0, .int 0]))), (f2, (.inr (2, [.int (nI 2), .ref l2, .ref r0, .ref t2, .int 0, .int 0, .int 0]))), (l2, (.inr (0, [.int 0, .ref (ly_a y 6), .int 0]))), (t2, (.inr (3, [.int 0, .int 0, .int 0]))), (f3, (.inr (2, [.int (nI 3), .ref l3, .ref r0, .ref t3, .int 0, .int 0, .int 0]))), (l3, (.inr (0, [.int 0, .ref (ly_a y 6), .int 0]))), (t3, (.inr (3, [.int 0, .int 0, .int 0])))] := by rw [hM27]; exact hI
  refine lv_iinc (v := nI 4) (lv' := [(1, .int (nI 4)), (0, .ref q)]) hK.1.1 hK.1.2.1 dX4_init_82 hl (k := 0) rfl (by decide) (by decide) rfl (fun ls hl => ?_)
  refine lv_goto (tgt := 57) hK.1.1 hK.1.2.1 dX4_init_85 (by decide) ?_
  refine lv_iload_n hK.1.1 hK.1.2.1 dX4_init_57 rfl (lv_at hl 0 rfl) ?_
  refine lv_iconst (v := 5) hK.1.1 hK.1.2.1 dX4_init_58 (by decide) ?_
  refine lv_icmp_ge (tgt := 88) hK.1.1 hK.1.2.1 dX4_init_59 (by decide) (fun c => absurd c (by decide)) (fun _ => ?_)
  refine lv_aload_n hK.1.1 hK.1.2.1 dX4_init_62 rfl (lv_at hl 1 rfl) ?_
  refine gk_get hK.1 hK.2.2.1.1 hP (k := 1) (hI.1 0 _ _ rfl) rfl inlX4 (by decide) q_1_14 (fun _ h => h) rfl dX4_init_63 ?_
  refine lv_iload_n hK.1.1 hK.1.2.1 dX4_init_66 rfl (lv_at hl 0 rfl) ?_
  refine gk_new hK.1 hK.2.2.1.1 hP hS hK.2.2.2 (ci := 2) (C := RX1) (T := TX1) (N := 7) rfl inlX1 tyX1 tyX1_ok q_1_13 q_1_19 q_1_20 (fs := [.int 0, .null, .null, .null, .int 0, .int 0, .int 0]) (by decide +kernel) (Nat.le_of_ble_eq_true rfl) (Nat.le_of_ble_eq_true rfl) dX4_init_67 (fun f4 H hn hP hS => ?_)
  have hI := cN_new (e := (.inr (2, [.int 0, .null, .null, .null, .int 0, .int 0, .int 0]))) hI hn
  obtain ⟨M28, hM28⟩ : ∃ z, z = gk_up M27 f4 (.inr (2, [.int 0, .null, .null, .null, .int 0, .int 0, .int 0])) := ⟨_, rfl⟩
  have hP : gk_P (ly_D y) A M28 H := by rw [hM28]; exact hP
  have hI : cN G M28 [(q, (.inr (5, [.ref ra, .ref fa, .ref ha, .int 0]))), (ra, (rp_r (ly_k y 3) 3 (va_up (va_up (va_up (fun _ => none) 0 (some r0)) 1 (some r1)) 2 (some r2)))), (fa, (rp_r (ly_k y 4) 5 (va_up (va_up (va_up (va_up (fun _ => none) 0 (some f0)) 1 (some f1)) 2 (some f2)) 3 (some f3)))), (ha, (rp_r (ly_k y 5) 4 (fun _ => none))), (r0, (.inr (4, [.int (nI 0), .int 0, .int (-1), .int (-1), .int 0, .int 3, .int 0, .int 0, .int 0, .int 0]))), (r1, (.inr (4, [.int (nI 1), .int 0, .int (-1), .int (-1), .int 0, .int 3, .int 0, .int 0, .int 0, .int 0]))), (r2, (.inr (4, [.int (nI 2), .int 0, .int (-1), .int (-1), .int 0, .int 3, .int 0, .int 0, .int 0, .int 0]))), (f0, (.inr (2, [.int (nI 0), .ref l0, .ref r0, .ref t0, .int 0, .int 0, .int 0]))), (l0, (.inr (0, [.int 0, .ref (ly_a y 6), .int 0]))), (t0, (.inr (3, [.int 0, .int 0, .int 0]))), (f1, (.inr (2, [.int (nI 1), .ref l1, .ref r0, .ref t1, .int 0, .int 0, .int 0]))), (l1, (.inr (0, [.int 0, .ref (ly_a y 6), .int 0]))), (t1, (.inr (3, [.int 0, .int 0, .int 0]))), (f2, (.inr (2, [.int (nI 2), .ref l2, .ref r0, .ref t2, .int 0, .int 0, .int 0]))), (l2, (.inr (0, [.int 0, .ref (ly_a y 6), .int 0]))), (t2, (.inr (3, [.int 0, .int 0, .int 0]))), (f3, (.inr (2, [.int (nI 3), .ref l3, .ref r0, .ref t3, .int 0, .int 0, .int 0]))), (l3, (.inr (0, [.int 0, .ref (ly_a y 6), .int 0]))), (t3, (.inr (3, [.int 0, .int 0, .int 0]))), (f4, (.inr (2, [.int 0, .null, .null, .null, .int 0, .int 0, .int 0])))] := by rw [hM28]; exact hI
  refine lv_dup hK.1.1 hK.1.2.1 dX4_init_70 rfl ?_
  refine lv_iload_n hK.1.1 hK.1.2.1 dX4_init_71 rfl (lv_at hl 0 rfl) ?_
  refine lv_aload_n hK.1.1 hK.1.2.1 dX4_init_72 rfl (lv_at hl 1 rfl) ?_
  refine gk_get hK.1 hK.2.2.1.1 hP (k := 0) (hI.1 0 _ _ rfl) rfl inlX4 (by decide) q_1_12 (fun _ h => h) rfl dX4_init_73 ?_
  refine lv_iconst (v := 0) hK.1.1 hK.1.2.1 dX4_init_76 (by decide) ?_
  refine gk_aald hK.1 hK.2.2.1.1 hP 3 (C := RX3) (hI.1 1 _ _ rfl) rfl (i := nI 0) (vp_in_nI (by decide) (by decide)) dX4_init_77 ?_
  refine W.eq (g2 := F0 m 78 ls [.ref r0, .int (nI 4), .ref f4, .ref f4, .int (nI 4), .ref fa]) (by rw [nI_clamp (by decide)]; rfl) ?_
  refine gk_callI (n := 2) (As := [.int (nI 4), .ref r0]) (rest := [.ref f4, .int (nI 4), .ref fa]) hK (c_X1_init l (i := nI 4) (r := r0) (hI.1 19 _ _ rfl)) q_2_9 q_1_20 q_2_7 q_2_8 rfl ⟨by decide +kernel, by decide +kernel, by decide +kernel⟩ ⟨(Nat.le_of_ble_eq_true rfl), (Nat.le_of_ble_eq_true rfl)⟩ hP hS rfl hl.1 rfl (Nat.le_of_ble_eq_true rfl) dX4_init_78 ⟨(Nat.le_of_ble_eq_true rfl), (Nat.le_of_ble_eq_true rfl)⟩ (fun v G1 H locs hw hP hS => ?_)
  obtain ⟨rfl, l4, t4, p1, p2, p3, p4, p5, p6, p7, p8, p9⟩ := hw
  rw [gk_ext3 p3 p4 p5 p6 p7 p8 p9] at hP
  refine W.eq (g2 := F0 m 81 ls [.ref f4, .int (nI 4), .ref fa]) rfl ?_
  have hP0 := hP
  have hI := cN_set (i := 19) (e := (.inr (2, [.int (nI 4), .ref l4, .ref r0, .ref t4, .int 0, .int 0, .int 0]))) hI rfl
  have hI := cN_new (e := (.inr (0, [.int 0, .ref (ly_a y 6), .int 0]))) hI (by rw [gk_un _ _ p3]; exact p1)
  have hI := cN_new (e := (.inr (3, [.int 0, .int 0, .int 0]))) hI (by rw [gk_un _ _ (Ne.symm p5), gk_un _ _ p4]; exact p2)
  obtain ⟨M29, hM29⟩ : ∃ z, z = gk_up (gk_up (gk_up M28 f4 (.inr (2, [.int (nI 4), .ref l4, .ref r0, .ref t4, .int 0, .int 0, .int 0]))) l4 (.inr (0, [.int 0, .ref (ly_a y 6), .int 0]))) t4 (.inr (3, [.int 0, .int 0, .int 0])) := ⟨_, rfl⟩
  have hP : gk_P (ly_D y) A M29 H := by rw [hM29]; exact hP
  have hI : cN G M29 [(q, (.inr (5, [.ref ra, .ref fa, .ref ha, .int 0]))), (ra, (rp_r (ly_k y 3) 3 (va_up (va_up (va_up (fun _ => none) 0 (some r0)) 1 (some r1)) 2 (some r2)))), (fa, (rp_r (ly_k y 4) 5 (va_up (va_up (va_up (va_up (fun _ => none) 0 (some f0)) 1 (some f1)) 2 (some f2)) 3 (some f3)))), (ha, (rp_r (ly_k y 5) 4 (fun _ => none))), (r0, (.inr (4, [.int (nI 0), .int 0, .int (-1), .int (-1), .int 0, .int 3, .int 0, .int 0, .int 0, .int 0]))), (r1, (.inr (4, [.int (nI 1), .int 0, .int (-1), .int (-1), .int 0, .int 3, .int 0, .int 0, .int 0, .int 0]))), (r2, (.inr (4, [.int (nI 2), .int 0, .int (-1), .int (-1), .int 0, .int 3, .int 0, .int 0, .int 0, .int 0]))), (f0, (.inr (2, [.int (nI 0), .ref l0, .ref r0, .ref t0, .int 0, .int 0, .int 0]))), (l0, (.inr (0, [.int 0, .ref (ly_a y 6), .int 0]))), (t0, (.inr (3, [.int 0, .int 0, .int 0]))), (f1, (.inr (2, [.int (nI 1), .ref l1, .ref r0, .ref t1, .int 0, .int 0, .int 0]))), (l1, (.inr (0, [.int 0, .ref (ly_a y 6), .int 0]))), (t1, (.inr (3, [.int 0, .int 0, .int 0]))), (f2, (.inr (2, [.int (nI 2), .ref l2, .ref r0, .ref t2, .int 0, .int 0, .int 0]))), (l2, (.inr (0, [.int 0, .ref (ly_a y 6), .int 0]))), (t2, (.inr (3, [.int 0, .int 0, .int 0]))), (f3, (.inr (2, [.int (nI 3), .ref l3, .ref r0, .ref t3, .int 0, .int 0, .int 0]))), (l3, (.inr (0, [.int 0, .ref (ly_a y 6), .int 0]))), (t3, (.inr (3, [.int 0, .int 0, .int 0]))), (f4, (.inr (2, [.int (nI 4), .ref l4, .ref r0, .ref t4, .int 0, .int 0, .int 0]))), (l4, (.inr (0, [.int 0, .ref (ly_a y 6), .int 0]))), (t4, (.inr (3, [.int 0, .int 0, .int 0])))] := by rw [hM29]; exact hI
  refine gk_aast hK.1 hK.2.2.1.1 hP hS 4 (hI.1 2 _ _ rfl) rfl (hI.1 19 _ _ rfl) rfl (vp_in_nI (show 4 < 5 by decide) (by decide)) dX4_init_81 (fun H locs hP hS => ?_)
  rw [nI_clamp (by decide)] at hP
  have hI := cN_set (i := 2) (e := (rp_r (ly_k y 4) 5 (va_up (va_up (va_up (va_up (va_up (fun _ => none) 0 (some f0)) 1 (some f1)) 2 (some f2)) 3 (some f3)) 4 (some f4)))) hI rfl
  obtain ⟨M30, hM30⟩ : ∃ z, z = gk_up M29 fa (rp_r (ly_k y 4) 5 (va_up (va_up (va_up (va_up (va_up (fun _ => none) 0 (some f0)) 1 (some f1)) 2 (some f2)) 3 (some f3)) 4 (some f4))) := ⟨_, rfl⟩
  have hP : gk_P (ly_D y) A M30 H := by rw [hM30]; exact hP
  have hI : cN G M30 [(q, (.inr (5, [.ref ra, .ref fa, .ref ha, .int 0]))), (ra, (rp_r (ly_k y 3) 3 (va_up (va_up (va_up (fun _ => none) 0 (some r0)) 1 (some r1)) 2 (some r2)))), (fa, (rp_r (ly_k y 4) 5 (va_up (va_up (va_up (va_up (va_up (fun _ => none) 0 (some f0)) 1 (some f1)) 2 (some f2)) 3 (some f3)) 4 (some f4)))), (ha, (rp_r (ly_k y 5) 4 (fun _ => none))), (r0, (.inr (4, [.int (nI 0), .int 0, .int (-1), .int (-1), .int 0, .int 3, .int 0, .int 0, .int 0, .int 0]))), (r1, (.inr (4, [.int (nI 1), .int 0, .int (-1), .int (-1), .int 0, .int 3, .int 0, .int 0, .int 0, .int 0]))), (r2, (.inr (4, [.int (nI 2), .int 0, .int (-1), .int (-1), .int 0, .int 3, .int 0, .int 0, .int 0, .int 0]))), (f0, (.inr (2, [.int (nI 0), .ref l0, .ref r0, .ref t0, .int 0, .int 0, .int 0]))), (l0, (.inr (0, [.int 0, .ref (ly_a y 6), .int 0]))), (t0, (.inr (3, [.int 0, .int 0, .int 0]))), (f1, (.inr (2, [.int (nI 1), .ref l1, .ref r0, .ref t1, .int 0, .int 0, .int 0]))), (l1, (.inr (0, [.int 0, .ref (ly_a y 6), .int 0]))), (t1, (.inr (3, [.int 0, .int 0, .int 0]))), (f2, (.inr (2, [.int (nI 2), .ref l2, .ref r0, .ref t2, .int 0, .int 0, .int 0]))), (l2, (.inr (0, [.int 0, .ref (ly_a y 6), .int 0]))), (t2, (.inr (3, [.int 0, .int 0, .int 0]))), (f3, (.inr (2, [.int (nI 3), .ref l3, .ref r0, .ref t3, .int 0, .int 0, .int 0]))), (l3, (.inr (0, [.int 0, .ref (ly_a y 6), .int 0]))), (t3, (.inr (3, [.int 0, .int 0, .int 0]))), (f4, (.inr (2, [.int (nI 4), .ref l4, .ref r0, .ref t4, .int 0, .int 0, .int 0]))), (l4, (.inr (0, [.int 0, .ref (ly_a y 6), .int 0]))), (t4, (.inr (3, [.int 0, .int 0, .int 0])))] := by rw [hM30]; exact hI
  refine lv_iinc (v := nI 5) (lv' := [(1, .int (nI 5)), (0, .ref q)]) hK.1.1 hK.1.2.1 dX4_init_82 hl (k := 0) rfl (by decide) (by decide) rfl (fun ls hl => ?_)
  refine lv_goto (tgt := 57) hK.1.1 hK.1.2.1 dX4_init_85 (by decide) ?_
  refine lv_iload_n hK.1.1 hK.1.2.1 dX4_init_57 rfl (lv_at hl 0 rfl) ?_
  refine lv_iconst (v := 5) hK.1.1 hK.1.2.1 dX4_init_58 (by decide) ?_
  refine lv_icmp_ge (tgt := 88) hK.1.1 hK.1.2.1 dX4_init_59 (by decide) (fun _ => ?_) (fun c => absurd (by decide) c)
  refine lv_iconst (v := 0) hK.1.1 hK.1.2.1 dX4_init_88 (by decide) ?_
  refine lv_istore_n (lv' := [(1, .int (nI 0)), (0, .ref q)]) hK.1.1 hK.1.2.1 dX4_init_89 rfl hl (by decide) rfl (fun ls hl => ?_)
  refine lv_iload_n hK.1.1 hK.1.2.1 dX4_init_90 rfl (lv_at hl 0 rfl) ?_
  refine lv_iconst (v := 4) hK.1.1 hK.1.2.1 dX4_init_91 (by decide) ?_
  refine lv_icmp_ge (tgt := 114) hK.1.1 hK.1.2.1 dX4_init_92 (by decide) (fun c => absurd c (by decide)) (fun _ => ?_)
  refine lv_aload_n hK.1.1 hK.1.2.1 dX4_init_95 rfl (lv_at hl 1 rfl) ?_
  refine gk_get hK.1 hK.2.2.1.1 hP (k := 2) (hI.1 0 _ _ rfl) rfl inlX4 (by decide) q_1_16 (fun _ h => h) rfl dX4_init_96 ?_
  refine lv_iload_n hK.1.1 hK.1.2.1 dX4_init_99 rfl (lv_at hl 0 rfl) ?_
  refine gk_new hK.1 hK.2.2.1.1 hP hS hK.2.2.2 (ci := 1) (C := RX0) (T := TX0) (N := 2) rfl inlX0 tyX0 tyX0_ok q_1_15 q_1_21 q_1_22 (fs := [.null, .null]) (by decide +kernel) (Nat.le_of_ble_eq_true rfl) (Nat.le_of_ble_eq_true rfl) dX4_init_100 (fun h0 H hn hP hS => ?_)
  have hI := cN_new (e := (.inr (1, [.null, .null]))) hI hn
  obtain ⟨M31, hM31⟩ : ∃ z, z = gk_up M30 h0 (.inr (1, [.null, .null])) := ⟨_, rfl⟩
  have hP : gk_P (ly_D y) A M31 H := by rw [hM31]; exact hP
  have hI : cN G M31 [(q, (.inr (5, [.ref ra, .ref fa, .ref ha, .int 0]))), (ra, (rp_r (ly_k y 3) 3 (va_up (va_up (va_up (fun _ => none) 0 (some r0)) 1 (some r1)) 2 (some r2)))), (fa, (rp_r (ly_k y 4) 5 (va_up (va_up (va_up (va_up (va_up (fun _ => none) 0 (some f0)) 1 (some f1)) 2 (some f2)) 3 (some f3)) 4 (some f4)))), (ha, (rp_r (ly_k y 5) 4 (fun _ => none))), (r0, (.inr (4, [.int (nI 0), .int 0, .int (-1), .int (-1), .int 0, .int 3, .int 0, .int 0, .int 0, .int 0]))), (r1, (.inr (4, [.int (nI 1), .int 0, .int (-1), .int (-1), .int 0, .int 3, .int 0, .int 0, .int 0, .int 0]))), (r2, (.inr (4, [.int (nI 2), .int 0, .int (-1), .int (-1), .int 0, .int 3, .int 0, .int 0, .int 0, .int 0]))), (f0, (.inr (2, [.int (nI 0), .ref l0, .ref r0, .ref t0, .int 0, .int 0, .int 0]))), (l0, (.inr (0, [.int 0, .ref (ly_a y 6), .int 0]))), (t0, (.inr (3, [.int 0, .int 0, .int 0]))), (f1, (.inr (2, [.int (nI 1), .ref l1, .ref r0, .ref t1, .int 0, .int 0, .int 0]))), (l1, (.inr (0, [.int 0, .ref (ly_a y 6), .int 0]))), (t1, (.inr (3, [.int 0, .int 0, .int 0]))), (f2, (.inr (2, [.int (nI 2), .ref l2, .ref r0, .ref t2, .int 0, .int 0, .int 0]))), (l2, (.inr (0, [.int 0, .ref (ly_a y 6), .int 0]))), (t2, (.inr (3, [.int 0, .int 0, .int 0]))), (f3, (.inr (2, [.int (nI 3), .ref l3, .ref r0, .ref t3, .int 0, .int 0, .int 0]))), (l3, (.inr (0, [.int 0, .ref (ly_a y 6), .int 0]))), (t3, (.inr (3, [.int 0, .int 0, .int 0]))), (f4, (.inr (2, [.int (nI 4), .ref l4, .ref r0, .ref t4, .int 0, .int 0, .int 0]))), (l4, (.inr (0, [.int 0, .ref (ly_a y 6), .int 0]))), (t4, (.inr (3, [.int 0, .int 0, .int 0]))), (h0, (.inr (1, [.null, .null])))] := by rw [hM31]; exact hI
  refine lv_dup hK.1.1 hK.1.2.1 dX4_init_103 rfl ?_
  refine gk_callIN (n := 0) (As := []) (rest := [.ref h0, .int (nI 0), .ref ha]) hK (c_X0_init l) q_3_16 q_1_22 hK.2.2.1.2.2.1.2.2.1.2.1 q_3_15 rfl ⟨by decide +kernel, by decide +kernel, by decide +kernel⟩ ⟨(Nat.le_of_ble_eq_true rfl), (Nat.le_of_ble_eq_true rfl)⟩ hP hS rfl hl.1 rfl (Nat.le_of_ble_eq_true rfl) dX4_init_104 ⟨(Nat.le_of_ble_eq_true rfl), (Nat.le_of_ble_eq_true rfl)⟩ (fun v G1 H locs hw hP hS => ?_)
  obtain ⟨rfl, hG9⟩ := hw
  rw [hG9] at hP
  refine W.eq (g2 := F0 m 107 ls [.ref h0, .int (nI 0), .ref ha]) rfl ?_
  refine gk_aast hK.1 hK.2.2.1.1 hP hS 5 (hI.1 3 _ _ rfl) rfl (hI.1 22 _ _ rfl) rfl (vp_in_nI (show 0 < 4 by decide) (by decide)) dX4_init_107 (fun H locs hP hS => ?_)
  rw [nI_clamp (by decide)] at hP
  have hI := cN_set (i := 3) (e := (rp_r (ly_k y 5) 4 (va_up (fun _ => none) 0 (some h0)))) hI rfl
  obtain ⟨M32, hM32⟩ : ∃ z, z = gk_up M31 ha (rp_r (ly_k y 5) 4 (va_up (fun _ => none) 0 (some h0))) := ⟨_, rfl⟩
  have hP : gk_P (ly_D y) A M32 H := by rw [hM32]; exact hP
  have hI : cN G M32 [(q, (.inr (5, [.ref ra, .ref fa, .ref ha, .int 0]))), (ra, (rp_r (ly_k y 3) 3 (va_up (va_up (va_up (fun _ => none) 0 (some r0)) 1 (some r1)) 2 (some r2)))), (fa, (rp_r (ly_k y 4) 5 (va_up (va_up (va_up (va_up (va_up (fun _ => none) 0 (some f0)) 1 (some f1)) 2 (some f2)) 3 (some f3)) 4 (some f4)))), (ha, (rp_r (ly_k y 5) 4 (va_up (fun _ => none) 0 (some h0)))), (r0, (.inr (4, [.int (nI 0), .int 0, .int (-1), .int (-1), .int 0, .int 3, .int 0, .int 0, .int 0, .int 0]))), (r1, (.inr (4, [.int (nI 1), .int 0, .int (-1), .int (-1), .int 0, .int 3, .int 0, .int 0, .int 0, .int 0]))), (r2, (.inr (4, [.int (nI 2), .int 0, .int (-1), .int (-1), .int 0, .int 3, .int 0, .int 0, .int 0, .int 0]))), (f0, (.inr (2, [.int (nI 0), .ref l0, .ref r0, .ref t0, .int 0, .int 0, .int 0]))), (l0, (.inr (0, [.int 0, .ref (ly_a y 6), .int 0]))), (t0, (.inr (3, [.int 0, .int 0, .int 0]))), (f1, (.inr (2, [.int (nI 1), .ref l1, .ref r0, .ref t1, .int 0, .int 0, .int 0]))), (l1, (.inr (0, [.int 0, .ref (ly_a y 6), .int 0]))), (t1, (.inr (3, [.int 0, .int 0, .int 0]))), (f2, (.inr (2, [.int (nI 2), .ref l2, .ref r0, .ref t2, .int 0, .int 0, .int 0]))), (l2, (.inr (0, [.int 0, .ref (ly_a y 6), .int 0]))), (t2, (.inr (3, [.int 0, .int 0, .int 0]))), (f3, (.inr (2, [.int (nI 3), .ref l3, .ref r0, .ref t3, .int 0, .int 0, .int 0]))), (l3, (.inr (0, [.int 0, .ref (ly_a y 6), .int 0]))), (t3, (.inr (3, [.int 0, .int 0, .int 0]))), (f4, (.inr (2, [.int (nI 4), .ref l4, .ref r0, .ref t4, .int 0, .int 0, .int 0]))), (l4, (.inr (0, [.int 0, .ref (ly_a y 6), .int 0]))), (t4, (.inr (3, [.int 0, .int 0, .int 0]))), (h0, (.inr (1, [.null, .null])))] := by rw [hM32]; exact hI
  refine lv_iinc (v := nI 1) (lv' := [(1, .int (nI 1)), (0, .ref q)]) hK.1.1 hK.1.2.1 dX4_init_108 hl (k := 0) rfl (by decide) (by decide) rfl (fun ls hl => ?_)
  refine lv_goto (tgt := 90) hK.1.1 hK.1.2.1 dX4_init_111 (by decide) ?_
  refine lv_iload_n hK.1.1 hK.1.2.1 dX4_init_90 rfl (lv_at hl 0 rfl) ?_
  refine lv_iconst (v := 4) hK.1.1 hK.1.2.1 dX4_init_91 (by decide) ?_
  refine lv_icmp_ge (tgt := 114) hK.1.1 hK.1.2.1 dX4_init_92 (by decide) (fun c => absurd c (by decide)) (fun _ => ?_)
  refine lv_aload_n hK.1.1 hK.1.2.1 dX4_init_95 rfl (lv_at hl 1 rfl) ?_
  refine gk_get hK.1 hK.2.2.1.1 hP (k := 2) (hI.1 0 _ _ rfl) rfl inlX4 (by decide) q_1_16 (fun _ h => h) rfl dX4_init_96 ?_
  refine lv_iload_n hK.1.1 hK.1.2.1 dX4_init_99 rfl (lv_at hl 0 rfl) ?_
  refine gk_new hK.1 hK.2.2.1.1 hP hS hK.2.2.2 (ci := 1) (C := RX0) (T := TX0) (N := 2) rfl inlX0 tyX0 tyX0_ok q_1_15 q_1_21 q_1_22 (fs := [.null, .null]) (by decide +kernel) (Nat.le_of_ble_eq_true rfl) (Nat.le_of_ble_eq_true rfl) dX4_init_100 (fun h1 H hn hP hS => ?_)
  have hI := cN_new (e := (.inr (1, [.null, .null]))) hI hn
  obtain ⟨M33, hM33⟩ : ∃ z, z = gk_up M32 h1 (.inr (1, [.null, .null])) := ⟨_, rfl⟩
  have hP : gk_P (ly_D y) A M33 H := by rw [hM33]; exact hP
  have hI : cN G M33 [(q, (.inr (5, [.ref ra, .ref fa, .ref ha, .int 0]))), (ra, (rp_r (ly_k y 3) 3 (va_up (va_up (va_up (fun _ => none) 0 (some r0)) 1 (some r1)) 2 (some r2)))), (fa, (rp_r (ly_k y 4) 5 (va_up (va_up (va_up (va_up (va_up (fun _ => none) 0 (some f0)) 1 (some f1)) 2 (some f2)) 3 (some f3)) 4 (some f4)))), (ha, (rp_r (ly_k y 5) 4 (va_up (fun _ => none) 0 (some h0)))), (r0, (.inr (4, [.int (nI 0), .int 0, .int (-1), .int (-1), .int 0, .int 3, .int 0, .int 0, .int 0, .int 0]))), (r1, (.inr (4, [.int (nI 1), .int 0, .int (-1), .int (-1), .int 0, .int 3, .int 0, .int 0, .int 0, .int 0]))), (r2, (.inr (4, [.int (nI 2), .int 0, .int (-1), .int (-1), .int 0, .int 3, .int 0, .int 0, .int 0, .int 0]))), (f0, (.inr (2, [.int (nI 0), .ref l0, .ref r0, .ref t0, .int 0, .int 0, .int 0]))), (l0, (.inr (0, [.int 0, .ref (ly_a y 6), .int 0]))), (t0, (.inr (3, [.int 0, .int 0, .int 0]))), (f1, (.inr (2, [.int (nI 1), .ref l1, .ref r0, .ref t1, .int 0, .int 0, .int 0]))), (l1, (.inr (0, [.int 0, .ref (ly_a y 6), .int 0]))), (t1, (.inr (3, [.int 0, .int 0, .int 0]))), (f2, (.inr (2, [.int (nI 2), .ref l2, .ref r0, .ref t2, .int 0, .int 0, .int 0]))), (l2, (.inr (0, [.int 0, .ref (ly_a y 6), .int 0]))), (t2, (.inr (3, [.int 0, .int 0, .int 0]))), (f3, (.inr (2, [.int (nI 3), .ref l3, .ref r0, .ref t3, .int 0, .int 0, .int 0]))), (l3, (.inr (0, [.int 0, .ref (ly_a y 6), .int 0]))), (t3, (.inr (3, [.int 0, .int 0, .int 0]))), (f4, (.inr (2, [.int (nI 4), .ref l4, .ref r0, .ref t4, .int 0, .int 0, .int 0]))), (l4, (.inr (0, [.int 0, .ref (ly_a y 6), .int 0]))), (t4, (.inr (3, [.int 0, .int 0, .int 0]))), (h0, (.inr (1, [.null, .null]))), (h1, (.inr (1, [.null, .null])))] := by rw [hM33]; exact hI
  refine lv_dup hK.1.1 hK.1.2.1 dX4_init_103 rfl ?_
  refine gk_callIN (n := 0) (As := []) (rest := [.ref h1, .int (nI 1), .ref ha]) hK (c_X0_init l) q_3_16 q_1_22 hK.2.2.1.2.2.1.2.2.1.2.1 q_3_15 rfl ⟨by decide +kernel, by decide +kernel, by decide +kernel⟩ ⟨(Nat.le_of_ble_eq_true rfl), (Nat.le_of_ble_eq_true rfl)⟩ hP hS rfl hl.1 rfl (Nat.le_of_ble_eq_true rfl) dX4_init_104 ⟨(Nat.le_of_ble_eq_true rfl), (Nat.le_of_ble_eq_true rfl)⟩ (fun v G1 H locs hw hP hS => ?_)
  obtain ⟨rfl, hG9⟩ := hw
  rw [hG9] at hP
  refine W.eq (g2 := F0 m 107 ls [.ref h1, .int (nI 1), .ref ha]) rfl ?_
  refine gk_aast hK.1 hK.2.2.1.1 hP hS 5 (hI.1 3 _ _ rfl) rfl (hI.1 23 _ _ rfl) rfl (vp_in_nI (show 1 < 4 by decide) (by decide)) dX4_init_107 (fun H locs hP hS => ?_)
  rw [nI_clamp (by decide)] at hP
  have hI := cN_set (i := 3) (e := (rp_r (ly_k y 5) 4 (va_up (va_up (fun _ => none) 0 (some h0)) 1 (some h1)))) hI rfl
  obtain ⟨M34, hM34⟩ : ∃ z, z = gk_up M33 ha (rp_r (ly_k y 5) 4 (va_up (va_up (fun _ => none) 0 (some h0)) 1 (some h1))) := ⟨_, rfl⟩
  have hP : gk_P (ly_D y) A M34 H := by rw [hM34]; exact hP
  have hI : cN G M34 [(q, (.inr (5, [.ref ra, .ref fa, .ref ha, .int 0]))), (ra, (rp_r (ly_k y 3) 3 (va_up (va_up (va_up (fun _ => none) 0 (some r0)) 1 (some r1)) 2 (some r2)))), (fa, (rp_r (ly_k y 4) 5 (va_up (va_up (va_up (va_up (va_up (fun _ => none) 0 (some f0)) 1 (some f1)) 2 (some f2)) 3 (some f3)) 4 (some f4)))), (ha, (rp_r (ly_k y 5) 4 (va_up (va_up (fun _ => none) 0 (some h0)) 1 (some h1)))), (r0, (.inr (4, [.int (nI 0), .int 0, .int (-1), .int (-1), .int 0, .int 3, .int 0, .int 0, .int 0, .int 0]))), (r1, (.inr (4, [.int (nI 1), .int 0, .int (-1), .int (-1), .int 0, .int 3, .int 0, .int 0, .int 0, .int 0]))), (r2, (.inr (4, [.int (nI 2), .int 0, .int (-1), .int (-1), .int 0, .int 3, .int 0, .int 0, .int 0, .int 0]))), (f0, (.inr (2, [.int (nI 0), .ref l0, .ref r0, .ref t0, .int 0, .int 0, .int 0]))), (l0, (.inr (0, [.int 0, .ref (ly_a y 6), .int 0]))), (t0, (.inr (3, [.int 0, .int 0, .int 0]))), (f1, (.inr (2, [.int (nI 1), .ref l1, .ref r0, .ref t1, .int 0, .int 0, .int 0]))), (l1, (.inr (0, [.int 0, .ref (ly_a y 6), .int 0]))), (t1, (.inr (3, [.int 0, .int 0, .int 0]))), (f2, (.inr (2, [.int (nI 2), .ref l2, .ref r0, .ref t2, .int 0, .int 0, .int 0]))), (l2, (.inr (0, [.int 0, .ref (ly_a y 6), .int 0]))), (t2, (.inr (3, [.int 0, .int 0, .int 0]))), (f3, (.inr (2, [.int (nI 3), .ref l3, .ref r0, .ref t3, .int 0, .int 0, .int 0]))), (l3, (.inr (0, [.int 0, .ref (ly_a y 6), .int 0]))), (t3, (.inr (3, [.int 0, .int 0, .int 0]))), (f4, (.inr (2, [.int (nI 4), .ref l4, .ref r0, .ref t4, .int 0, .int 0, .int 0]))), (l4, (.inr (0, [.int 0, .ref (ly_a y 6), .int 0]))), (t4, (.inr (3, [.int 0, .int 0, .int 0]))), (h0, (.inr (1, [.null, .null]))), (h1, (.inr (1, [.null, .null])))] := by rw [hM34]; exact hI
  refine lv_iinc (v := nI 2) (lv' := [(1, .int (nI 2)), (0, .ref q)]) hK.1.1 hK.1.2.1 dX4_init_108 hl (k := 0) rfl (by decide) (by decide) rfl (fun ls hl => ?_)
  refine lv_goto (tgt := 90) hK.1.1 hK.1.2.1 dX4_init_111 (by decide) ?_
  refine lv_iload_n hK.1.1 hK.1.2.1 dX4_init_90 rfl (lv_at hl 0 rfl) ?_
  refine lv_iconst (v := 4) hK.1.1 hK.1.2.1 dX4_init_91 (by decide) ?_
  refine lv_icmp_ge (tgt := 114) hK.1.1 hK.1.2.1 dX4_init_92 (by decide) (fun c => absurd c (by decide)) (fun _ => ?_)
  refine lv_aload_n hK.1.1 hK.1.2.1 dX4_init_95 rfl (lv_at hl 1 rfl) ?_
  refine gk_get hK.1 hK.2.2.1.1 hP (k := 2) (hI.1 0 _ _ rfl) rfl inlX4 (by decide) q_1_16 (fun _ h => h) rfl dX4_init_96 ?_
  refine lv_iload_n hK.1.1 hK.1.2.1 dX4_init_99 rfl (lv_at hl 0 rfl) ?_
  refine gk_new hK.1 hK.2.2.1.1 hP hS hK.2.2.2 (ci := 1) (C := RX0) (T := TX0) (N := 2) rfl inlX0 tyX0 tyX0_ok q_1_15 q_1_21 q_1_22 (fs := [.null, .null]) (by decide +kernel) (Nat.le_of_ble_eq_true rfl) (Nat.le_of_ble_eq_true rfl) dX4_init_100 (fun h2 H hn hP hS => ?_)
  have hI := cN_new (e := (.inr (1, [.null, .null]))) hI hn
  obtain ⟨M35, hM35⟩ : ∃ z, z = gk_up M34 h2 (.inr (1, [.null, .null])) := ⟨_, rfl⟩
  have hP : gk_P (ly_D y) A M35 H := by rw [hM35]; exact hP
  have hI : cN G M35 [(q, (.inr (5, [.ref ra, .ref fa, .ref ha, .int 0]))), (ra, (rp_r (ly_k y 3) 3 (va_up (va_up (va_up (fun _ => none) 0 (some r0)) 1 (some r1)) 2 (some r2)))), (fa, (rp_r (ly_k y 4) 5 (va_up (va_up (va_up (va_up (va_up (fun _ => none) 0 (some f0)) 1 (some f1)) 2 (some f2)) 3 (some f3)) 4 (some f4)))), (ha, (rp_r (ly_k y 5) 4 (va_up (va_up (fun _ => none) 0 (some h0)) 1 (some h1)))), (r0, (.inr (4, [.int (nI 0), .int 0, .int (-1), .int (-1), .int 0, .int 3, .int 0, .int 0, .int 0, .int 0]))), (r1, (.inr (4, [.int (nI 1), .int 0, .int (-1), .int (-1), .int 0, .int 3, .int 0, .int 0, .int 0, .int 0]))), (r2, (.inr (4, [.int (nI 2), .int 0, .int (-1), .int (-1), .int 0, .int 3, .int 0, .int 0, .int 0, .int 0]))), (f0, (.inr (2, [.int (nI 0), .ref l0, .ref r0, .ref t0, .int 0, .int 0, .int 0]))), (l0, (.inr (0, [.int 0, .ref (ly_a y 6), .int 0]))), (t0, (.inr (3, [.int 0, .int 0, .int 0]))), (f1, (.inr (2, [.int (nI 1), .ref l1, .ref r0, .ref t1, .int 0, .int 0, .int 0]))), (l1, (.inr (0, [.int 0, .ref (ly_a y 6), .int 0]))), (t1, (.inr (3, [.int 0, .int 0, .int 0]))), (f2, (.inr (2, [.int (nI 2), .ref l2, .ref r0, .ref t2, .int 0, .int 0, .int 0]))), (l2, (.inr (0, [.int 0, .ref (ly_a y 6), .int 0]))), (t2, (.inr (3, [.int 0, .int 0, .int 0]))), (f3, (.inr (2, [.int (nI 3), .ref l3, .ref r0, .ref t3, .int 0, .int 0, .int 0]))), (l3, (.inr (0, [.int 0, .ref (ly_a y 6), .int 0]))), (t3, (.inr (3, [.int 0, .int 0, .int 0]))), (f4, (.inr (2, [.int (nI 4), .ref l4, .ref r0, .ref t4, .int 0, .int 0, .int 0]))), (l4, (.inr (0, [.int 0, .ref (ly_a y 6), .int 0]))), (t4, (.inr (3, [.int 0, .int 0, .int 0]))), (h0, (.inr (1, [.null, .null]))), (h1, (.inr (1, [.null, .null]))), (h2, (.inr (1, [.null, .null])))] := by rw [hM35]; exact hI
  refine lv_dup hK.1.1 hK.1.2.1 dX4_init_103 rfl ?_
  refine gk_callIN (n := 0) (As := []) (rest := [.ref h2, .int (nI 2), .ref ha]) hK (c_X0_init l) q_3_16 q_1_22 hK.2.2.1.2.2.1.2.2.1.2.1 q_3_15 rfl ⟨by decide +kernel, by decide +kernel, by decide +kernel⟩ ⟨(Nat.le_of_ble_eq_true rfl), (Nat.le_of_ble_eq_true rfl)⟩ hP hS rfl hl.1 rfl (Nat.le_of_ble_eq_true rfl) dX4_init_104 ⟨(Nat.le_of_ble_eq_true rfl), (Nat.le_of_ble_eq_true rfl)⟩ (fun v G1 H locs hw hP hS => ?_)
  obtain ⟨rfl, hG9⟩ := hw
  rw [hG9] at hP
  refine W.eq (g2 := F0 m 107 ls [.ref h2, .int (nI 2), .ref ha]) rfl ?_
  refine gk_aast hK.1 hK.2.2.1.1 hP hS 5 (hI.1 3 _ _ rfl) rfl (hI.1 24 _ _ rfl) rfl (vp_in_nI (show 2 < 4 by decide) (by decide)) dX4_init_107 (fun H locs hP hS => ?_)
  rw [nI_clamp (by decide)] at hP
  have hI := cN_set (i := 3) (e := (rp_r (ly_k y 5) 4 (va_up (va_up (va_up (fun _ => none) 0 (some h0)) 1 (some h1)) 2 (some h2)))) hI rfl
  obtain ⟨M36, hM36⟩ : ∃ z, z = gk_up M35 ha (rp_r (ly_k y 5) 4 (va_up (va_up (va_up (fun _ => none) 0 (some h0)) 1 (some h1)) 2 (some h2))) := ⟨_, rfl⟩
  have hP : gk_P (ly_D y) A M36 H := by rw [hM36]; exact hP
  have hI : cN G M36 [(q, (.inr (5, [.ref ra, .ref fa, .ref ha, .int 0]))), (ra, (rp_r (ly_k y 3) 3 (va_up (va_up (va_up (fun _ => none) 0 (some r0)) 1 (some r1)) 2 (some r2)))), (fa, (rp_r (ly_k y 4) 5 (va_up (va_up (va_up (va_up (va_up (fun _ => none) 0 (some f0)) 1 (some f1)) 2 (some f2)) 3 (some f3)) 4 (some f4)))), (ha, (rp_r (ly_k y 5) 4 (va_up (va_up (va_up (fun _ => none) 0 (some h0)) 1 (some h1)) 2 (some h2)))), (r0, (.inr (4, [.int (nI 0), .int 0, .int (-1), .int (-1), .int 0, .int 3, .int 0, .int 0, .int 0, .int 0]))), (r1, (.inr (4, [.int (nI 1), .int 0, .int (-1), .int (-1), .int 0, .int 3, .int 0, .int 0, .int 0, .int 0]))), (r2, (.inr (4, [.int (nI 2), .int 0, .int (-1), .int (-1), .int 0, .int 3, .int 0, .int 0, .int 0, .int 0]))), (f0, (.inr (2, [.int (nI 0), .ref l0, .ref r0, .ref t0, .int 0, .int 0, .int 0]))), (l0, (.inr (0, [.int 0, .ref (ly_a y 6), .int 0]))), (t0, (.inr (3, [.int 0, .int 0, .int 0]))), (f1, (.inr (2, [.int (nI 1), .ref l1, .ref r0, .ref t1, .int 0, .int 0, .int 0]))), (l1, (.inr (0, [.int 0, .ref (ly_a y 6), .int 0]))), (t1, (.inr (3, [.int 0, .int 0, .int 0]))), (f2, (.inr (2, [.int (nI 2), .ref l2, .ref r0, .ref t2, .int 0, .int 0, .int 0]))), (l2, (.inr (0, [.int 0, .ref (ly_a y 6), .int 0]))), (t2, (.inr (3, [.int 0, .int 0, .int 0]))), (f3, (.inr (2, [.int (nI 3), .ref l3, .ref r0, .ref t3, .int 0, .int 0, .int 0]))), (l3, (.inr (0, [.int 0, .ref (ly_a y 6), .int 0]))), (t3, (.inr (3, [.int 0, .int 0, .int 0]))), (f4, (.inr (2, [.int (nI 4), .ref l4, .ref r0, .ref t4, .int 0, .int 0, .int 0]))), (l4, (.inr (0, [.int 0, .ref (ly_a y 6), .int 0]))), (t4, (.inr (3, [.int 0, .int 0, .int 0]))), (h0, (.inr (1, [.null, .null]))), (h1, (.inr (1, [.null, .null]))), (h2, (.inr (1, [.null, .null])))] := by rw [hM36]; exact hI
  refine lv_iinc (v := nI 3) (lv' := [(1, .int (nI 3)), (0, .ref q)]) hK.1.1 hK.1.2.1 dX4_init_108 hl (k := 0) rfl (by decide) (by decide) rfl (fun ls hl => ?_)
  refine lv_goto (tgt := 90) hK.1.1 hK.1.2.1 dX4_init_111 (by decide) ?_
  refine lv_iload_n hK.1.1 hK.1.2.1 dX4_init_90 rfl (lv_at hl 0 rfl) ?_
  refine lv_iconst (v := 4) hK.1.1 hK.1.2.1 dX4_init_91 (by decide) ?_
  refine lv_icmp_ge (tgt := 114) hK.1.1 hK.1.2.1 dX4_init_92 (by decide) (fun c => absurd c (by decide)) (fun _ => ?_)
  refine lv_aload_n hK.1.1 hK.1.2.1 dX4_init_95 rfl (lv_at hl 1 rfl) ?_
  refine gk_get hK.1 hK.2.2.1.1 hP (k := 2) (hI.1 0 _ _ rfl) rfl inlX4 (by decide) q_1_16 (fun _ h => h) rfl dX4_init_96 ?_
  refine lv_iload_n hK.1.1 hK.1.2.1 dX4_init_99 rfl (lv_at hl 0 rfl) ?_
  refine gk_new hK.1 hK.2.2.1.1 hP hS hK.2.2.2 (ci := 1) (C := RX0) (T := TX0) (N := 2) rfl inlX0 tyX0 tyX0_ok q_1_15 q_1_21 q_1_22 (fs := [.null, .null]) (by decide +kernel) (Nat.le_of_ble_eq_true rfl) (Nat.le_of_ble_eq_true rfl) dX4_init_100 (fun h3 H hn hP hS => ?_)
  have hI := cN_new (e := (.inr (1, [.null, .null]))) hI hn
  obtain ⟨M37, hM37⟩ : ∃ z, z = gk_up M36 h3 (.inr (1, [.null, .null])) := ⟨_, rfl⟩
  have hP : gk_P (ly_D y) A M37 H := by rw [hM37]; exact hP
  have hI : cN G M37 [(q, (.inr (5, [.ref ra, .ref fa, .ref ha, .int 0]))), (ra, (rp_r (ly_k y 3) 3 (va_up (va_up (va_up (fun _ => none) 0 (some r0)) 1 (some r1)) 2 (some r2)))), (fa, (rp_r (ly_k y 4) 5 (va_up (va_up (va_up (va_up (va_up (fun _ => none) 0 (some f0)) 1 (some f1)) 2 (some f2)) 3 (some f3)) 4 (some f4)))), (ha, (rp_r (ly_k y 5) 4 (va_up (va_up (va_up (fun _ => none) 0 (some h0)) 1 (some h1)) 2 (some h2)))), (r0, (.inr (4, [.int (nI 0), .int 0, .int (-1), .int (-1), .int 0, .int 3, .int 0, .int 0, .int 0, .int 0]))), (r1, (.inr (4, [.int (nI 1), .int 0, .int (-1), .int (-1), .int 0, .int 3, .int 0, .int 0, .int 0, .int 0]))), (r2, (.inr (4, [.int (nI 2), .int 0, .int (-1), .int (-1), .int 0, .int 3, .int 0, .int 0, .int 0, .int 0]))), (f0, (.inr (2, [.int (nI 0), .ref l0, .ref r0, .ref t0, .int 0, .int 0, .int 0]))), (l0, (.inr (0, [.int 0, .ref (ly_a y 6), .int 0]))), (t0, (.inr (3, [.int 0, .int 0, .int 0]))), (f1, (.inr (2, [.int (nI 1), .ref l1, .ref r0, .ref t1, .int 0, .int 0, .int 0]))), (l1, (.inr (0, [.int 0, .ref (ly_a y 6), .int 0]))), (t1, (.inr (3, [.int 0, .int 0, .int 0]))), (f2, (.inr (2, [.int (nI 2), .ref l2, .ref r0, .ref t2, .int 0, .int 0, .int 0]))), (l2, (.inr (0, [.int 0, .ref (ly_a y 6), .int 0]))), (t2, (.inr (3, [.int 0, .int 0, .int 0]))), (f3, (.inr (2, [.int (nI 3), .ref l3, .ref r0, .ref t3, .int 0, .int 0, .int 0]))), (l3, (.inr (0, [.int 0, .ref (ly_a y 6), .int 0]))), (t3, (.inr (3, [.int 0, .int 0, .int 0]))), (f4, (.inr (2, [.int (nI 4), .ref l4, .ref r0, .ref t4, .int 0, .int 0, .int 0]))), (l4, (.inr (0, [.int 0, .ref (ly_a y 6), .int 0]))), (t4, (.inr (3, [.int 0, .int 0, .int 0]))), (h0, (.inr (1, [.null, .null]))), (h1, (.inr (1, [.null, .null]))), (h2, (.inr (1, [.null, .null]))), (h3, (.inr (1, [.null, .null])))] := by rw [hM37]; exact hI
  refine lv_dup hK.1.1 hK.1.2.1 dX4_init_103 rfl ?_
  refine gk_callIN (n := 0) (As := []) (rest := [.ref h3, .int (nI 3), .ref ha]) hK (c_X0_init l) q_3_16 q_1_22 hK.2.2.1.2.2.1.2.2.1.2.1 q_3_15 rfl ⟨by decide +kernel, by decide +kernel, by decide +kernel⟩ ⟨(Nat.le_of_ble_eq_true rfl), (Nat.le_of_ble_eq_true rfl)⟩ hP hS rfl hl.1 rfl (Nat.le_of_ble_eq_true rfl) dX4_init_104 ⟨(Nat.le_of_ble_eq_true rfl), (Nat.le_of_ble_eq_true rfl)⟩ (fun v G1 H locs hw hP hS => ?_)
  obtain ⟨rfl, hG9⟩ := hw
  rw [hG9] at hP
  refine W.eq (g2 := F0 m 107 ls [.ref h3, .int (nI 3), .ref ha]) rfl ?_
  refine gk_aast hK.1 hK.2.2.1.1 hP hS 5 (hI.1 3 _ _ rfl) rfl (hI.1 25 _ _ rfl) rfl (vp_in_nI (show 3 < 4 by decide) (by decide)) dX4_init_107 (fun H locs hP hS => ?_)
  rw [nI_clamp (by decide)] at hP
  have hI := cN_set (i := 3) (e := (rp_r (ly_k y 5) 4 (va_up (va_up (va_up (va_up (fun _ => none) 0 (some h0)) 1 (some h1)) 2 (some h2)) 3 (some h3)))) hI rfl
  obtain ⟨M38, hM38⟩ : ∃ z, z = gk_up M37 ha (rp_r (ly_k y 5) 4 (va_up (va_up (va_up (va_up (fun _ => none) 0 (some h0)) 1 (some h1)) 2 (some h2)) 3 (some h3))) := ⟨_, rfl⟩
  have hP : gk_P (ly_D y) A M38 H := by rw [hM38]; exact hP
  have hI : cN G M38 [(q, (.inr (5, [.ref ra, .ref fa, .ref ha, .int 0]))), (ra, (rp_r (ly_k y 3) 3 (va_up (va_up (va_up (fun _ => none) 0 (some r0)) 1 (some r1)) 2 (some r2)))), (fa, (rp_r (ly_k y 4) 5 (va_up (va_up (va_up (va_up (va_up (fun _ => none) 0 (some f0)) 1 (some f1)) 2 (some f2)) 3 (some f3)) 4 (some f4)))), (ha, (rp_r (ly_k y 5) 4 (va_up (va_up (va_up (va_up (fun _ => none) 0 (some h0)) 1 (some h1)) 2 (some h2)) 3 (some h3)))), (r0, (.inr (4, [.int (nI 0), .int 0, .int (-1), .int (-1), .int 0, .int 3, .int 0, .int 0, .int 0, .int 0]))), (r1, (.inr (4, [.int (nI 1), .int 0, .int (-1), .int (-1), .int 0, .int 3, .int 0, .int 0, .int 0, .int 0]))), (r2, (.inr (4, [.int (nI 2), .int 0, .int (-1), .int (-1), .int 0, .int 3, .int 0, .int 0, .int 0, .int 0]))), (f0, (.inr (2, [.int (nI 0), .ref l0, .ref r0, .ref t0, .int 0, .int 0, .int 0]))), (l0, (.inr (0, [.int 0, .ref (ly_a y 6), .int 0]))), (t0, (.inr (3, [.int 0, .int 0, .int 0]))), (f1, (.inr (2, [.int (nI 1), .ref l1, .ref r0, .ref t1, .int 0, .int 0, .int 0]))), (l1, (.inr (0, [.int 0, .ref (ly_a y 6), .int 0]))), (t1, (.inr (3, [.int 0, .int 0, .int 0]))), (f2, (.inr (2, [.int (nI 2), .ref l2, .ref r0, .ref t2, .int 0, .int 0, .int 0]))), (l2, (.inr (0, [.int 0, .ref (ly_a y 6), .int 0]))), (t2, (.inr (3, [.int 0, .int 0, .int 0]))), (f3, (.inr (2, [.int (nI 3), .ref l3, .ref r0, .ref t3, .int 0, .int 0, .int 0]))), (l3, (.inr (0, [.int 0, .ref (ly_a y 6), .int 0]))), (t3, (.inr (3, [.int 0, .int 0, .int 0]))), (f4, (.inr (2, [.int (nI 4), .ref l4, .ref r0, .ref t4, .int 0, .int 0, .int 0]))), (l4, (.inr (0, [.int 0, .ref (ly_a y 6), .int 0]))), (t4, (.inr (3, [.int 0, .int 0, .int 0]))), (h0, (.inr (1, [.null, .null]))), (h1, (.inr (1, [.null, .null]))), (h2, (.inr (1, [.null, .null]))), (h3, (.inr (1, [.null, .null])))] := by rw [hM38]; exact hI
  refine lv_iinc (v := nI 4) (lv' := [(1, .int (nI 4)), (0, .ref q)]) hK.1.1 hK.1.2.1 dX4_init_108 hl (k := 0) rfl (by decide) (by decide) rfl (fun ls hl => ?_)
  refine lv_goto (tgt := 90) hK.1.1 hK.1.2.1 dX4_init_111 (by decide) ?_
  refine lv_iload_n hK.1.1 hK.1.2.1 dX4_init_90 rfl (lv_at hl 0 rfl) ?_
  refine lv_iconst (v := 4) hK.1.1 hK.1.2.1 dX4_init_91 (by decide) ?_
  refine lv_icmp_ge (tgt := 114) hK.1.1 hK.1.2.1 dX4_init_92 (by decide) (fun _ => ?_) (fun c => absurd (by decide) c)
  exact gk_vret0 hK.1 hret hlk hP hS (Nat.le_of_ble_eq_true rfl) (Nat.le_of_ble_eq_true rfl) dX4_init_114 ⟨rfl, ra, fa, ha, r0, r1, r2, f0, l0, t0, f1, l1, t1, f2, l2, t2, f3, l3, t3, f4, l4, t4, h0, h1, h2, h3, hI⟩
