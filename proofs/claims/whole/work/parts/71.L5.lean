/-! the law's loop -/
theorem lp_and (x : Int32) : ∃ k : Nat, k < 32 ∧ x &&& 31 = nI k := by
  have h : (x &&& 31).toBitVec.toNat = x.toBitVec.toNat % 32 := by
    rw [Int32.toBitVec_and, BitVec.toNat_and]
    exact Nat.and_two_pow_sub_one_eq_mod x.toBitVec.toNat 5
  refine ⟨x.toBitVec.toNat % 32, Nat.mod_lt _ (by decide), ?_⟩
  refine Int32.toBitVec_inj.mp (BitVec.eq_of_toNat_eq ?_)
  rw [h]
  show _ = (BitVec.ofNat 32 (x.toBitVec.toNat % 32)).toNat
  rw [BitVec.toNat_ofNat]
  omega
theorem lp_cmp {L i : Nat} (hL : L ≤ 3584) (hi : i ≤ 4000) (h : ¬ nI L - 7 < nI i) : i + 7 ≤ L := by
  rw [Int32.lt_iff_toInt_lt, show (7 : Int32) = nI 7 from rfl, pk_sub_toInt (by omega) (by omega), nI_toInt (by omega)] at h
  omega
section LP
variable {p : Program} {l : Launch} {e : Env} {s : State} {m : MethodId} {args : Array Value} {below : List Frame} {meth : Method} {c : Code} {Q : State → Prop} {y : ly_T} {A : Nat → Prop} {n9 sc : Nat} {sf : Nat → Int32}
theorem lw_head {H : Heap} {locs : List Loc} {cells slots i : Nat} {ls : Array Slot} (hK : gk_K p s m c args cL_law RL 7 y A) (hX : va_X sc n9 sf s s.heap) (hbl : sc < s.heap.size) (hbA : ¬ A sc) (hn9 : n9 ≤ 3584) (hi : i ≤ 4000) (hS : va_S A s.heap H locs) (hl : lv_has ls 7 [(4, .int (nI i)), (0, .ref sc), (1, .ref (ly_a y 0)), (2, .ref (ly_a y 5)), (3, .ref (ly_a y 4))]) (k1 : W p l e { frames := 12, cells := 601024, slots := 7293034, locals := 444 } s m args below meth c H locs cells slots Q (F0 m 1434 ls [])) (k2 : i + 7 ≤ n9 → W p l e { frames := 12, cells := 601024, slots := 7293034, locals := 444 } s m args below meth c H locs cells slots Q (F0 m 33 ls [])) : W p l e { frames := 12, cells := 601024, slots := 7293034, locals := 444 } s m args below meth c H locs cells slots Q (F0 m 23 ls []) := by
  refine lv_iload hK.1.1 hK.1.2.1 dL_law_23 (lv_at hl 0 rfl) ?_
  refine lv_aload_n hK.1.1 hK.1.2.1 dL_law_25 rfl (lv_at hl 1 rfl) ?_
  refine va_slen hK.1.1 hK.1.2.1 hX hbl hbA hS dL_law_26 ?_
  refine lv_bipush (v := 7) hK.1.1 hK.1.2.1 dL_law_27 (by decide) ?_
  refine lv_isub hK.1.1 hK.1.2.1 dL_law_29 ?_
  exact lv_icmp_gt (tgt := 1434) hK.1.1 hK.1.2.1 dL_law_30 (by decide) (fun _ => k1) (fun h => k2 (lp_cmp hn9 hi h))
set_option maxHeartbeats 4000000 in
set_option maxRecDepth 100000 in
theorem lw_loop (hfl : l.stackTraces = false) (hK : gk_K p s m c args cL_law RL 7 y A) (hX : va_X sc n9 sf s s.heap) (hbl : sc < s.heap.size) (hbA : ¬ A sc) (hn9 : n9 ≤ 3584)
    (kk : ∀ (ls : Array Slot) (H : Heap) (locs : List Loc), va_S A s.heap H locs → W p l e { frames := 12, cells := 601024, slots := 7293034, locals := 444 } s m args below meth c H locs 601024 7293034 Q (F0 m 1434 ls [])) :
    ∀ (dd N : Nat) (td : Int32) (ru : Nat → Nat → Int32) (fr lv : Nat → Nat) (lt et tl : Nat → Int32) (hf hp : Nat → Option Nat) (ol : Nat → List Nat) (PS : Nat → Prop) (pf : Nat → Nat → Int32) (ov : Int64) (md mq mt : Int32) (mv : Nat → Nat → Int32) (row : List Nat) (fi : Nat → Nat) (ls : Array Slot) (H : Heap) (locs : List Loc) (G : gk_G) (cells slots : Nat), n9 < 7 * (N + dd) → N + dd = 513 → cells + 100 * dd ≤ 601024 → slots + 8000 * dd ≤ 7293034 → gk_P (ly_D y) A G H → va_S A s.heap H locs → rp y G td ru fr lv lt et tl hf hp ol PS pf ov md mq mt mv → xI td ru fr (lv, lt, et, tl, ol, PS, pf) hf hp row fi md mq mv N → lv_has ls 7 [(4, .int (nI (7 * N))), (0, .ref sc), (1, .ref (ly_a y 0)), (2, .ref (ly_a y 5)), (3, .ref (ly_a y 4))] → W p l e { frames := 12, cells := 601024, slots := 7293034, locals := 444 } s m args below meth c H locs cells slots Q (F0 m 23 ls []) := by
  have hT : va_T .int sc n9 (fun j => .int (sf j)) A s s.heap := by
    obtain ⟨scr, h1, h2, h3, h4, h5⟩ := hX
    exact ⟨scr, h1, h2, h3, Nat.le_of_eq h4.symm, by rw [h4], h5, hbA⟩
  intro dd
  induction dd with
  | zero =>
    intro N td ru fr lv lt et tl hf hp ol PS pf ov md mq mt mv row fi ls H locs G cells slots hd hN9 hc hs hP hS hR hI hl
    exact lw_head hK hX hbl hbA hn9 (by omega) hS hl (W.widen (by omega) (by omega) (kk ls H locs hS)) (fun hi => absurd hi (by omega))
  | succ dd ih =>
    intro N td ru fr lv lt et tl hf hp ol PS pf ov md mq mt mv row fi ls H locs G cells slots hd hN9 hc hs hP hS hR hI hl
    refine lw_head hK hX hbl hbA hn9 (by omega) hS hl (W.widen (by omega) (by omega) (kk ls H locs hS)) (fun hi => ?_)
    have hN : N < 512 := by omega
    have hc1 : cells + 100 ≤ 601024 := by omega
    have hs1 : slots + 8000 ≤ 7293034 := by omega
    have next : ∀ (ls : Array Slot) (H : Heap) (locs : List Loc) (G : gk_G) (td : Int32) (ru : Nat → Nat → Int32) (fr lv : Nat → Nat) (lt et tl : Nat → Int32) (hf hp : Nat → Option Nat) (ol : Nat → List Nat) (PS : Nat → Prop) (pf : Nat → Nat → Int32) (ov : Int64) (md mq mt : Int32) (mv : Nat → Nat → Int32) (row : List Nat) (fi : Nat → Nat), gk_P (ly_D y) A G H → va_S A s.heap H locs → rp y G td ru fr lv lt et tl hf hp ol PS pf ov md mq mt mv → xI td ru fr (lv, lt, et, tl, ol, PS, pf) hf hp row fi md mq mv (N + 1) → lv_has ls 7 [(4, .int (nI (7 * N))), (0, .ref sc), (1, .ref (ly_a y 0)), (2, .ref (ly_a y 5)), (3, .ref (ly_a y 4))] → W p l e { frames := 12, cells := 601024, slots := 7293034, locals := 444 } s m args below meth c H locs (cells + 100) (slots + 8000) Q (F0 m 1428 ls []) := by
      intro ls H locs G td ru fr lv lt et tl hf hp ol PS pf ov md mq mt mv row fi hP hS hR hI hl
      refine lv_iinc (v := nI (7 * (N + 1))) (lv' := [(4, .int (nI (7 * (N + 1)))), (0, .ref sc), (1, .ref (ly_a y 0)), (2, .ref (ly_a y 5)), (3, .ref (ly_a y 4))]) hK.1.1 hK.1.2.1 dL_law_1428 hl (k := 0) rfl (by rw [Nat.mul_add]; exact nI_add (7 * N) 7) (by decide) rfl (fun ls hl => ?_)
      refine lv_goto (tgt := 23) hK.1.1 hK.1.2.1 dL_law_1431 (by decide) ?_
      exact ih (N + 1) td ru fr lv lt et tl hf hp ol PS pf ov md mq mt mv row fi ls H locs G (cells + 100) (slots + 8000) (by omega) (by omega) (by omega) (by omega) hP hS hR hI hl
    refine lv_aload_n hK.1.1 hK.1.2.1 dL_law_33 rfl (lv_at hl 1 rfl) ?_
    refine lv_iload hK.1.1 hK.1.2.1 dL_law_34 (lv_at hl 0 rfl) ?_
    refine va_ti hK.1.1 hK.1.2.1 hT hS (vp_in_nI (show 7 * N < n9 by omega) (by omega)) (v := .int (sf (7 * N))) (by rw [nI_clamp (by omega)]) dL_law_36 ?_
    refine lv_bipush (v := 31) hK.1.1 hK.1.2.1 dL_law_37 (by decide) ?_
    refine lv_iand hK.1.1 hK.1.2.1 dL_law_39 ?_
    obtain ⟨k, hk, ek⟩ := lp_and (sf (7 * N))
    rw [ek]
    rcases (show k = 0 ∨ k = 1 ∨ k = 2 ∨ k = 3 ∨ k = 4 ∨ k = 5 ∨ k = 6 ∨ k = 7 ∨ k = 8 ∨ k = 9 ∨ k = 10 ∨ k = 11 ∨ k = 12 ∨ k = 13 ∨ k = 14 ∨ k = 15 ∨ k = 16 ∨ k = 17 ∨ k = 18 ∨ k = 19 ∨ k = 20 ∨ 21 ≤ k by omega) with rfl | rfl | rfl | rfl | rfl | rfl | rfl | rfl | rfl | rfl | rfl | rfl | rfl | rfl | rfl | rfl | rfl | rfl | rfl | rfl | rfl | h21
    · exact lv_tableIn (x := nI 0) (off := 100) (tgt := 140) hK.1.1 hK.1.2.1 dL_law_40 (by decide) (by decide) (by first | rfl | decide) (by decide) (lw_0 hfl hK hT hP hS hR hI hN hc1 hs1 hi hn9 hl next)
    · exact lv_tableIn (x := nI 1) (off := 184) (tgt := 224) hK.1.1 hK.1.2.1 dL_law_40 (by decide) (by decide) (by first | rfl | decide) (by decide) (lw_1 hfl hK hT hP hS hR hI hN hc1 hs1 hi hn9 hl next)
    · exact lv_tableIn (x := nI 2) (off := 330) (tgt := 370) hK.1.1 hK.1.2.1 dL_law_40 (by decide) (by decide) (by first | rfl | decide) (by decide) (lw_2 hfl hK hT hP hS hR hI hN hc1 hs1 hi hn9 hl next)
    · exact lv_tableIn (x := nI 3) (off := 398) (tgt := 438) hK.1.1 hK.1.2.1 dL_law_40 (by decide) (by decide) (by first | rfl | decide) (by decide) (lw_3 hfl hK hT hP hS hR hI hN hc1 hs1 hi hn9 hl next)
    · exact lv_tableIn (x := nI 4) (off := 446) (tgt := 486) hK.1.1 hK.1.2.1 dL_law_40 (by decide) (by decide) (by first | rfl | decide) (by decide) (lw_4 hfl hK hT hP hS hR hI hN hc1 hs1 hi hn9 hl next)
    · exact lv_tableIn (x := nI 5) (off := 509) (tgt := 549) hK.1.1 hK.1.2.1 dL_law_40 (by decide) (by decide) (by first | rfl | decide) (by decide) (lw_5 hfl hK hT hP hS hR hI hN hc1 hs1 hi hn9 hl next)
    · exact lv_tableIn (x := nI 6) (off := 572) (tgt := 612) hK.1.1 hK.1.2.1 dL_law_40 (by decide) (by decide) (by first | rfl | decide) (by decide) (lw_6 hfl hK hT hP hS hR hI hN hc1 hs1 hi hn9 hl next)
    · exact lv_tableIn (x := nI 7) (off := 640) (tgt := 680) hK.1.1 hK.1.2.1 dL_law_40 (by decide) (by decide) (by first | rfl | decide) (by decide) (lw_7 hfl hK hT hP hS hR hI hN hc1 hs1 hi hn9 hl next)
    · exact lv_tableIn (x := nI 8) (off := 696) (tgt := 736) hK.1.1 hK.1.2.1 dL_law_40 (by decide) (by decide) (by first | rfl | decide) (by decide) (lw_8 hfl hK hT hP hS hR hI hN hc1 hs1 hi hn9 hl next)
    · exact lv_tableIn (x := nI 9) (off := 709) (tgt := 749) hK.1.1 hK.1.2.1 dL_law_40 (by decide) (by decide) (by first | rfl | decide) (by decide) (lw_9 hfl hK hT hP hS hR hI hN hc1 hs1 hi hn9 hl next)
    · exact lv_tableIn (x := nI 10) (off := 765) (tgt := 805) hK.1.1 hK.1.2.1 dL_law_40 (by decide) (by decide) (by first | rfl | decide) (by decide) (lw_10 hfl hK hT hP hS hR hI hN hc1 hs1 hi hn9 hl next)
    · exact lv_tableIn (x := nI 11) (off := 821) (tgt := 861) hK.1.1 hK.1.2.1 dL_law_40 (by decide) (by decide) (by first | rfl | decide) (by decide) (lw_11 hfl hK hT hP hS hR hI hN hc1 hs1 hi hn9 hl next)
    · exact lv_tableIn (x := nI 12) (off := 834) (tgt := 874) hK.1.1 hK.1.2.1 dL_law_40 (by decide) (by decide) (by first | rfl | decide) (by decide) (lw_12 hfl hK hT hP hS hR hI hN hc1 hs1 hi hn9 hl next)
    · exact lv_tableIn (x := nI 13) (off := 897) (tgt := 937) hK.1.1 hK.1.2.1 dL_law_40 (by decide) (by decide) (by first | rfl | decide) (by decide) (lw_13 hfl hK hT hP hS hR hI hN hc1 hs1 hi hn9 hl next)
    · exact lv_tableIn (x := nI 14) (off := 953) (tgt := 993) hK.1.1 hK.1.2.1 dL_law_40 (by decide) (by decide) (by first | rfl | decide) (by decide) (lw_14 hfl hK hT hP hS hR hI hN hc1 hs1 hi hn9 hl next)
    · exact lv_tableIn (x := nI 15) (off := 1009) (tgt := 1049) hK.1.1 hK.1.2.1 dL_law_40 (by decide) (by decide) (by first | rfl | decide) (by decide) (lw_15 hfl hK hT hP hS hR hI hN hc1 hs1 hi hn9 hl next)
    · exact lv_tableIn (x := nI 16) (off := 1065) (tgt := 1105) hK.1.1 hK.1.2.1 dL_law_40 (by decide) (by decide) (by first | rfl | decide) (by decide) (lw_16 hfl hK hT hP hS hR hI hN hc1 hs1 hi hn9 hl next)
    · exact lv_tableIn (x := nI 17) (off := 1133) (tgt := 1173) hK.1.1 hK.1.2.1 dL_law_40 (by decide) (by decide) (by first | rfl | decide) (by decide) (lw_17 hfl hK hT hP hS hR hI hN hc1 hs1 hi hn9 hl next)
    · exact lv_tableIn (x := nI 18) (off := 1201) (tgt := 1241) hK.1.1 hK.1.2.1 dL_law_40 (by decide) (by decide) (by first | rfl | decide) (by decide) (lw_18 hfl hK hT hP hS hR hI hN hc1 hs1 hi hn9 hl next)
    · exact lv_tableIn (x := nI 19) (off := 1276) (tgt := 1316) hK.1.1 hK.1.2.1 dL_law_40 (by decide) (by decide) (by first | rfl | decide) (by decide) (lw_19 hfl hK hT hP hS hR hI hN hc1 hs1 hi hn9 hl next)
    · exact lv_tableIn (x := nI 20) (off := 1332) (tgt := 1372) hK.1.1 hK.1.2.1 dL_law_40 (by decide) (by decide) (by first | rfl | decide) (by decide) (lw_20 hfl hK hT hP hS hR hI hN hc1 hs1 hi hn9 hl next)
    · exact lv_tableOut (x := nI k) (tgt := 1428) hK.1.1 hK.1.2.1 dL_law_40 (Or.inr (by rw [nI_toInt (by omega)]; omega)) (by decide) (W.widen (show cells ≤ cells + 100 by omega) (show slots ≤ slots + 8000 by omega) (next ls H locs G td ru fr lv lt et tl hf hp ol PS pf ov md mq mt mv row fi hP hS hR (xI_mono hI) hl))
end LP
