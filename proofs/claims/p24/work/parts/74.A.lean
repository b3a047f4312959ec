/-! the law: reading the script -/
def at_Pc (y : ly_T) (A : Nat → Prop) (av : List Value) (G : gk_G) (b L : Nat) (xs : Nat → Int32) : Array Value → State → Prop := va_Pc av (fun U => (∀ q, U.heap.size ≤ q → A q) ∧ gk_V y A U ∧ gk_P (ly_D y) A G U.heap ∧ va_X b L xs U U.heap ∧ b < U.heap.size ∧ ¬ A b)
theorem at_blind {y : ly_T} {A : Nat → Prop} {av : List Value} {G : gk_G} {b L : Nat} {xs : Nat → Int32} : FrameBlind (at_Pc y A av G b L xs) := fun a U g mk h => by
  obtain ⟨h1, h2, h3, h4, h5, h6⟩ := h
  exact ⟨h1, h2, gk_Vmoved (U := U.calling g mk a) (locs := []) h3 va_S.rf (State.WarmedH.refl U), h4, va_X.moved (U := U.calling g mk a) (State.WarmedH.refl U).alike h5, h6⟩
set_option maxHeartbeats 4000000 in
set_option maxRecDepth 100000 in
theorem c_L_at (l : Launch) {y : ly_T} {A : Nat → Prop} {G : gk_G} {b L k : Nat} {xs : Nat → Int32} (hL : L ≤ 260) (hk9 : k ≤ 1000) : Met l yL_at (Cond.code yL_at cL_at 2 (some .int) :: wsL_law) { frames := 0, cells := 0, slots := 0, locals := 0 } (at_Pc y A [.ref b, .int (nI k)] G b L xs) (gk_Q y A (fun v G1 => (∃ x, v = some (.int x)) ∧ G1 = G)) 0 0 A := by
  refine va_MetF (cc := cL_at) (maxL := 2) (ret := (some .int)) (by decide +kernel) rfl ?_
  intro p e s m args below meth c s₁ B hml hv
  obtain ⟨rfl, hA, hV, hP, hX, hbl, hbA⟩ := hv
  have hts := atoms_spec (ws := Cond.code yL_at cL_at 2 (some .int) :: wsL_law) B.pre
  rw [lg_entry_eq]
  have hC : gk_C p s m c ([.ref b, .int (nI k)] : List Value).toArray cL_at RL := ⟨B.exec, B.bytes, findClass_of_methodNamed B.named, fun w hw => hts w (List.mem_cons_of_mem _ hw)⟩
  have hK : gk_K p s m c ([.ref b, .int (nI k)] : List Value).toArray cL_at RL 2 y A := ⟨hC, hml, hV, hA⟩
  have hret := B.returns
  have hlk := B.notSynchronized
  have hS : va_S A s.heap s.heap [] := va_S.rf
  have hl := lv_entry ([.ref b, .int (nI k)] : List Value) (n := 2) (Nat.le_of_ble_eq_true rfl)
  generalize (lg_sl ([.ref b, .int (nI k)] : List Value) ++ List.replicate (2 - (lg_sl ([.ref b, .int (nI k)] : List Value)).length) Slot.unset).toArray = ls at hl ⊢
  have hl : lv_has ls 2 [(0, .ref b), (1, .int (nI k))] := hl
  refine lv_iload_n hK.1.1 hK.1.2.1 dL_at_0 rfl (lv_at hl 1 rfl) ?_
  refine lv_aload_n hK.1.1 hK.1.2.1 dL_at_1 rfl (lv_at hl 0 rfl) ?_
  refine va_slen hK.1.1 hK.1.2.1 hX hbl hbA hS dL_at_2 ?_
  refine lv_icmp_ge (tgt := 12) hK.1.1 hK.1.2.1 dL_at_3 (by decide) (fun c3_1 => ?_) (fun c3_1 => ?_)
  · refine lv_ldc (v := 1033630151) hK.1.1 hK.1.2.1 hK.1.2.2.1 (hK.1.2.2.2 _ q_12_2) dL_at_12 ?_
    refine lv_iload_n hK.1.1 hK.1.2.1 dL_at_14 rfl (lv_at hl 1 rfl) ?_
    refine lv_iconst (v := 1) hK.1.1 hK.1.2.1 dL_at_15 (by decide) ?_
    refine lv_iadd hK.1.1 hK.1.2.1 dL_at_16 ?_
    refine W.eq (g2 := F0 m 17 ls [.int (nI (k + 1)), .int 1033630151]) (by rw [show (nI k) + 1 = nI (k + 1) from nI_add _ _]) ?_
    refine lv_imul hK.1.1 hK.1.2.1 dL_at_17 ?_
    refine W.eq (g2 := F0 m 18 ls [.int (nI (1033630151 * (k + 1)))]) (by rw [show 1033630151 * (nI (k + 1)) = nI (1033630151 * (k + 1)) from pk_mul _ _]) ?_
    refine lv_ldc (v := 1659393803) hK.1.1 hK.1.2.1 hK.1.2.2.1 (hK.1.2.2.2 _ q_12_3) dL_at_18 ?_
    refine lv_iadd hK.1.1 hK.1.2.1 dL_at_20 ?_
    refine W.eq (g2 := F0 m 21 ls [.int (nI ((1033630151 * (k + 1)) + 1659393803))]) (by rw [show (nI (1033630151 * (k + 1))) + 1659393803 = nI ((1033630151 * (k + 1)) + 1659393803) from nI_add _ _]) ?_
    exact gk_iret0 hK.1 hret hlk hP hS (Nat.le_of_ble_eq_true rfl) (Nat.le_of_ble_eq_true rfl) dL_at_21 ⟨⟨_, rfl⟩, rfl⟩
  · refine lv_aload_n hK.1.1 hK.1.2.1 dL_at_6 rfl (lv_at hl 0 rfl) ?_
    refine lv_iload_n hK.1.1 hK.1.2.1 dL_at_7 rfl (lv_at hl 1 rfl) ?_
    refine va_sld hK.1.1 hK.1.2.1 hX hbl hbA hS (vp_in_nI (n := k) (N := L) (Nat.lt_of_not_le (fun h => c3_1 (nI_le h (by omega)))) (by omega)) dL_at_8 ?_
    refine lv_goto (tgt := 21) hK.1.1 hK.1.2.1 dL_at_9 (by decide) ?_
    exact gk_iret0 hK.1 hret hlk hP hS (Nat.le_of_ble_eq_true rfl) (Nat.le_of_ble_eq_true rfl) dL_at_21 ⟨⟨_, rfl⟩, rfl⟩
theorem at_call {p : Program} {l : Launch} {e : Env} {R : Room} {s : State} {m : MethodId} {args : Array Value} {below : List Frame} {meth : Method} {c : Code} {H : Heap} {locs : List Loc} {cells slots : Nat} {Q : State → Prop} {cc : ByteArray} {pc nL b L k : Nat} {xs : Nat → Int32} {ls : Array Slot} {rest : List Value} {A : Nat → Prop} {G : gk_G} {y : ly_T} (hK : gk_K p s m c args cc RL nL y A) (hX : va_X b L xs s s.heap) (hbl : b < s.heap.size) (hbA : ¬ A b) (hL : L ≤ 260) (hk9 : k ≤ 1000) (hR : 1 ≤ R.frames ∧ 21 ≤ R.locals) (hf : cells ≤ R.cells ∧ slots ≤ R.slots) (hP : gk_P (ly_D y) A G H) (hS : va_S A s.heap H locs) (hsz : ls.size = nL) (hW : (rest.map fun v => v.category).sum ≤ 8) (hdg : decode cc pc = .ok (.invokestatic 164, 3))
    (kk : ∀ (x : Int32) (H1 : Heap) (locs1 : List Loc), gk_P (ly_D y) A G H1 → va_S A s.heap H1 locs1 → W p l e R s m args below meth c H1 locs1 (cells + 0) (slots + 0) Q (F0 m (pc + 3) ls (.int x :: rest))) : W p l e R s m args below meth c H locs cells slots Q (F0 m pc ls (.int (nI k) :: .ref b :: rest)) :=
  gk_back0 (va_runS (As := [.ref b, .int (nI k)]) (rest := rest) (gk_fix hK.1 hK.2.1) (c_L_at l (y := y) (A := A) (G := G) (b := b) (L := L) (k := k) (xs := xs) hL hk9) (va_cwS 2 hK.1.2.2.2 (gk_gS q_11_23 q_12_0 q_10_12 q_12_1) rfl rfl rfl ⟨by decide +kernel, by decide +kernel, by decide +kernel⟩ ⟨hR.1, hR.2⟩)
    ⟨at_blind, fun U hU hW => ⟨rfl, fun q hq => hK.2.2.2 q (by rw [hU] at hq; exact Nat.le_trans hS.1 hq), gk_Vmoved (locs := locs) hK.2.2.1 (by rw [hU]; exact hS) hW, by rw [hU]; exact hP, va_X.moved hW.alike (by rw [hU]; exact hX.kept (hS.2.1 b hbl hbA)), by rw [hU]; exact Nat.lt_of_lt_of_le hbl hS.1, hbA⟩⟩ rfl rfl hsz rfl (lv_room hW) hdg ⟨hf.1, hf.2⟩) hS (fun v G1 H1 locs1 hp hP1 hS1 => by
      obtain ⟨⟨x, rfl⟩, rfl⟩ := hp
      exact kk x H1 locs1 hP1 hS1)
