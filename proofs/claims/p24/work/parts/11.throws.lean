/-! the three ways in which the class throws -/
abbrev gk_nms : List String := ["java/lang/RuntimeException", "java/lang/Exception"]
def gk_xB (X : String) : List Cond := [Cond.castable X X, Cond.declares (Bundle.initS "java/lang/RuntimeException"), Cond.declares (Bundle.initS "java/lang/Exception"), Cond.declares (Bundle.initS Bundle.tN)]
theorem gk_xin0 : ∀ w ∈ (vx_atS RX4 172 "java/lang/IndexOutOfBoundsException" gk_nms).filter goodWord, w ∈ wsL_law := fun w h => by simp only [wsL_law, List.mem_append, h, true_or, or_true]
theorem gk_xin1 : ∀ w ∈ (vx_atS RX4 187 "java/lang/IllegalArgumentException" gk_nms).filter goodWord, w ∈ wsL_law := fun w h => by simp only [wsL_law, List.mem_append, h, true_or, or_true]
theorem gk_xin2 : ∀ w ∈ (vx_atS RX4 101 "java/lang/IllegalStateException" gk_nms).filter goodWord, w ∈ wsL_law := fun w h => by simp only [wsL_law, List.mem_append, h, true_or, or_true]
theorem gk_xno0 : ∀ w ∈ (vx_atS RX4 172 "java/lang/IndexOutOfBoundsException" gk_nms).filter (fun w => !goodWord w), w ∈ gk_xB "java/lang/IndexOutOfBoundsException" := by decide +kernel
theorem gk_xno1 : ∀ w ∈ (vx_atS RX4 187 "java/lang/IllegalArgumentException" gk_nms).filter (fun w => !goodWord w), w ∈ gk_xB "java/lang/IllegalArgumentException" := by decide +kernel
theorem gk_xno2 : ∀ w ∈ (vx_atS RX4 101 "java/lang/IllegalStateException" gk_nms).filter (fun w => !goodWord w), w ∈ gk_xB "java/lang/IllegalStateException" := by decide +kernel
theorem gk_xot0 : ∀ w ∈ vx_atS RX4 172 "java/lang/IndexOutOfBoundsException" gk_nms, vx_ot w = true := List.all_eq_true.mp (by decide +kernel)
theorem gk_xot1 : ∀ w ∈ vx_atS RX4 187 "java/lang/IllegalArgumentException" gk_nms, vx_ot w = true := List.all_eq_true.mp (by decide +kernel)
theorem gk_xot2 : ∀ w ∈ vx_atS RX4 101 "java/lang/IllegalStateException" gk_nms, vx_ot w = true := List.all_eq_true.mp (by decide +kernel)
theorem gk_nmsf : ∀ n ∈ gk_nms, Bundle.fit n = true := by decide +kernel
theorem gk_xBo {X : String} {y : ly_T} {A : Nat → Prop} {s : State} {args : Array Value} (hV : gk_V y A s) (hX : (Cond.castable X X).before #[] s = true) : ∀ w ∈ gk_xB X, w.before args s = true := by
  obtain ⟨d1, d2, d3⟩ := hV.2.2.1.2.2.2.2.2
  exact vx_c (gk_castU hX) (vx_c (va_Nw.use rfl d1) (vx_c (va_Nw.use rfl d2) (vx_c (va_Nw.use rfl d3) vx_n)))
section GKX
variable {p : Program} {l : Launch} {e : Env} {R : Room} {s : State} {m : MethodId} {args : Array Value} {below : List Frame} {meth : Method} {c : Code} {H : Heap} {locs : List Loc} {cells slots : Nat}
variable {cc : ByteArray} {pc : Nat} {ls : Array Slot} {rest : List Value} {A : Nat → Prop} {G : gk_G} {y : ly_T} {mc ms nL : Nat} {px : String → gk_G → Prop} {text : String} {is sa : Nat} {Qc : Array Value → State → Outcome → State → Prop}
theorem gk_thr0 (hK : gk_K p s m c args cc RX4 nL y A) (hl : l.stackTraces = false) (hstr : vk_R RX4 is text sa s) (hP : gk_P (ly_D y) A G H) (hS : va_S A s.heap H locs) (hsize : ls.size = nL) (hex : ∀ x ∈ c.exceptionTable.toList, False) (hlocks : meth.locks = false)
    (d0 : decode cc pc = .ok (.new 168, 3)) (d3 : decode cc (pc + 3) = .ok (.dup, 1)) (d4 : decode cc (pc + 4) = .ok (.ldc is, 2)) (d6 : decode cc (pc + 6) = .ok (.invokespecial 172, 3)) (d9 : decode cc (pc + 9) = .ok (.athrow, 1))
    (hR : 5 < R.frames ∧ (rest.map fun v => v.category).sum + 82 ≤ R.locals ∧ cells + 1 ≤ R.cells ∧ slots + 6 ≤ R.slots) (hc : cells + 1 ≤ mc ∧ slots + 6 ≤ ms) (hx : px "java/lang/IndexOutOfBoundsException" G) :
    W p l e R s m args below meth c H locs cells slots (vx_MQ below Qc (gk_X y A px) args s mc ms A) (F0 m pc ls rest) :=
  gk_throwS (names := gk_nms) hK hl (by decide +kernel) gk_nmsf q_11_0 q_11_1 hstr
    (vx_hat (fun w hw => hK.1.2.2.2 w (gk_xin0 w hw)) gk_xno0 (gk_xBo hK.2.2.1 hK.2.2.1.2.2.1.2.2.2.1.1)) gk_xot0 hP hS hsize hex hlocks d0 d3 d4 d6 d9 hR.1 hR.2.1 hR.2.2.1 hR.2.2.2 hc.1 hc.2 hx
theorem gk_thr1 (hK : gk_K p s m c args cc RX4 nL y A) (hl : l.stackTraces = false) (hstr : vk_R RX4 is text sa s) (hP : gk_P (ly_D y) A G H) (hS : va_S A s.heap H locs) (hsize : ls.size = nL) (hex : ∀ x ∈ c.exceptionTable.toList, False) (hlocks : meth.locks = false)
    (d0 : decode cc pc = .ok (.new 183, 3)) (d3 : decode cc (pc + 3) = .ok (.dup, 1)) (d4 : decode cc (pc + 4) = .ok (.ldc is, 2)) (d6 : decode cc (pc + 6) = .ok (.invokespecial 187, 3)) (d9 : decode cc (pc + 9) = .ok (.athrow, 1))
    (hR : 5 < R.frames ∧ (rest.map fun v => v.category).sum + 82 ≤ R.locals ∧ cells + 1 ≤ R.cells ∧ slots + 6 ≤ R.slots) (hc : cells + 1 ≤ mc ∧ slots + 6 ≤ ms) (hx : px "java/lang/IllegalArgumentException" G) :
    W p l e R s m args below meth c H locs cells slots (vx_MQ below Qc (gk_X y A px) args s mc ms A) (F0 m pc ls rest) :=
  gk_throwS (names := gk_nms) hK hl (by decide +kernel) gk_nmsf q_13_4 q_13_5 hstr
    (vx_hat (fun w hw => hK.1.2.2.2 w (gk_xin1 w hw)) gk_xno1 (gk_xBo hK.2.2.1 hK.2.2.1.2.2.1.2.2.2.1.2.1)) gk_xot1 hP hS hsize hex hlocks d0 d3 d4 d6 d9 hR.1 hR.2.1 hR.2.2.1 hR.2.2.2 hc.1 hc.2 hx
theorem gk_thr2 (hK : gk_K p s m c args cc RX4 nL y A) (hl : l.stackTraces = false) (hstr : vk_R RX4 is text sa s) (hP : gk_P (ly_D y) A G H) (hS : va_S A s.heap H locs) (hsize : ls.size = nL) (hex : ∀ x ∈ c.exceptionTable.toList, False) (hlocks : meth.locks = false)
    (d0 : decode cc pc = .ok (.new 97, 3)) (d3 : decode cc (pc + 3) = .ok (.dup, 1)) (d4 : decode cc (pc + 4) = .ok (.ldc is, 2)) (d6 : decode cc (pc + 6) = .ok (.invokespecial 101, 3)) (d9 : decode cc (pc + 9) = .ok (.athrow, 1))
    (hR : 5 < R.frames ∧ (rest.map fun v => v.category).sum + 82 ≤ R.locals ∧ cells + 1 ≤ R.cells ∧ slots + 6 ≤ R.slots) (hc : cells + 1 ≤ mc ∧ slots + 6 ≤ ms) (hx : px "java/lang/IllegalStateException" G) :
    W p l e R s m args below meth c H locs cells slots (vx_MQ below Qc (gk_X y A px) args s mc ms A) (F0 m pc ls rest) :=
  gk_throwS (names := gk_nms) hK hl (by decide +kernel) gk_nmsf q_14_19 q_14_20 hstr
    (vx_hat (fun w hw => hK.1.2.2.2 w (gk_xin2 w hw)) gk_xno2 (gk_xBo hK.2.2.1 hK.2.2.1.2.2.1.2.2.2.1.2.2.1)) gk_xot2 hP hS hsize hex hlocks d0 d3 d4 d6 d9 hR.1 hR.2.1 hR.2.2.1 hR.2.2.2 hc.1 hc.2 hx
end GKX
