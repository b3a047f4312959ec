/-! THE FIXED THINGS OF A RUN, and contracts over maps. -/
/-- the fixed things: the classes' numbers; the arrays' classes; single addresses; families of addresses -/
abbrev ly_T : Type := va_G × (Nat → ClassId) × (Nat → Nat) × (Nat → Nat → Nat)
def ly_D (y : ly_T) : va_G := y.1
def ly_k (y : ly_T) (i : Nat) : ClassId := y.2.1 i
def ly_a (y : ly_T) (i : Nat) : Nat := y.2.2.1 i
def ly_f (y : ly_T) (i j : Nat) : Nat := y.2.2.2 i j
def ly_TY (y : ly_T) : List (ClassId × FieldType) := [(ly_k y 0, .int), (ly_k y 0, .int), (ly_k y 0, .int), (ly_k y 3, .object RX3), (ly_k y 4, .object RX1), (ly_k y 5, .object RX0), (ly_k y 6, .object "java/lang/Object")]
def ly_Str (y : ly_T) (U : State) : Prop := vk_R RX4 99 "the holder holds nothing" (ly_a y 8) U ∧ vk_R RX4 112 "the day would be above the greatest one" (ly_a y 9) U ∧ vk_R RX4 170 "no such rule" (ly_a y 10) U ∧ vk_R RX4 173 "no such file" (ly_a y 11) U ∧ vk_R RX4 175 "no such holder" (ly_a y 12) U ∧ vk_R RX4 177 "no such old part" (ly_a y 13) U ∧ vk_R RX4 185 "an argument is out of range" (ly_a y 14) U
def ly_Tab (y : ly_T) (U : State) : Prop := (va_AO "java/lang/Object" U ∧ va_AO RX0 U ∧ va_AO RX1 U ∧ va_AO RX3 U) ∧ (va_Mi "[Ljava/lang/Object;" (ly_a y 7) U ∧ va_Dc U) ∧ (va_Nw (.methodLinkNest RX4 211 yX2_init RX4) U ∧ va_Nw (.methodLinkNest RX4 33 yX0_init RX4) U ∧ va_Nw (.methodLinkNest RX1 18 yX2_init RX4) U) ∧
  ((Cond.castable "java/lang/IndexOutOfBoundsException" "java/lang/IndexOutOfBoundsException").before #[] U = true ∧ (Cond.castable "java/lang/IllegalArgumentException" "java/lang/IllegalArgumentException").before #[] U = true ∧ (Cond.castable "java/lang/IllegalStateException" "java/lang/IllegalStateException").before #[] U = true ∧ (Cond.castable RX2 "java/lang/Object").before #[] U = true) ∧
  (va_Nc "java/lang/IllegalArgumentException" "java/lang/IndexOutOfBoundsException" U ∧ va_Nc "java/lang/IllegalStateException" "java/lang/IndexOutOfBoundsException" U ∧ va_Nc "java/lang/IllegalStateException" "java/lang/IllegalArgumentException" U) ∧
  (va_Nw (.declares (Bundle.initS "java/lang/RuntimeException")) U ∧ va_Nw (.declares (Bundle.initS "java/lang/Exception")) U ∧ va_Nw (.declares (Bundle.initS Bundle.tN)) U)
def ly_Sta (y : ly_T) (A : Nat → Prop) (U : State) (H : Heap) : Prop := vx_Zq Bundle.tN "UNASSIGNED_STACK" Bundle.steD A U H ∧ vx_Zq Bundle.tN "SUPPRESSED_SENTINEL" Bundle.listD A U H ∧ va_Z "java/util/ArrayList" "DEFAULTCAPACITY_EMPTY_ELEMENTDATA" "[Ljava/lang/Object;" (.ref (ly_a y 6)) A U H ∧ va_T (.object "java/lang/Object") (ly_a y 6) 0 (fun _ => .null) A U H
/-- what stays true of the machine all along a run -/
def gk_V (y : ly_T) (A : Nat → Prop) (U : State) : Prop := va_K (ly_D y) vwCl (ly_TY y) U ∧ ly_Str y U ∧ ly_Tab y U ∧ ly_Sta y A U U.heap
theorem gk_castM {u U : State} {C E : String} (hvm : u.vm.Alike U.vm) (h : (Cond.castable C E).before #[] u = true) : (Cond.castable C E).before #[] U = true := by
  have e := Cond.onTables_vm (A := #[]) (A' := #[]) (U := u) (U' := U) U.vm (Cond.castable C E) rfl
  have hU : U.setVm U.vm = U := rfl
  rw [hU] at e
  rw [← e, Cond.castable_setVm hvm]
  exact h
theorem gk_castU {U : State} {args : Array Value} {C E : String} (h : (Cond.castable C E).before #[] U = true) : (Cond.castable C E).before args U = true := va_any rfl h
theorem gk_Vmoved {y : ly_T} {A : Nat → Prop} {s U : State} {locs : List Loc} (h : gk_V y A s) (hS : va_S A s.heap U.heap locs) (hW : s.WarmedH U.vm) : gk_V y A U := by
  have hal := hW.alike
  obtain ⟨h1, ⟨a1, a2, a3, a4, a5, a6, a7⟩, ⟨⟨b1, b2, b3, b4⟩, ⟨b5, b6⟩, ⟨b7, b8, b9⟩, ⟨c1, c2, c3, c4⟩, ⟨c5, c6, c7⟩, c8, c9, c10⟩, d1, d2, d3, d4⟩ := h
  exact ⟨va_K.moved hal h1, ⟨vk_R.warm hW a1, vk_R.warm hW a2, vk_R.warm hW a3, vk_R.warm hW a4, vk_R.warm hW a5, vk_R.warm hW a6, vk_R.warm hW a7⟩,
    ⟨⟨va_AO.moved hal b1, va_AO.moved hal b2, va_AO.moved hal b3, va_AO.moved hal b4⟩, ⟨va_Mi.moved hal b5, va_Dc.moved hal b6⟩, ⟨va_Nw.warmM hW b7, va_Nw.warmM hW b8, va_Nw.warmM hW b9⟩, ⟨gk_castM hal c1, gk_castM hal c2, gk_castM hal c3, gk_castM hal c4⟩, ⟨va_Nc.moved hal c5, va_Nc.moved hal c6, va_Nc.moved hal c7⟩, va_Nw.warmD hW c8, va_Nw.warmD hW c9, va_Nw.warmD hW c10⟩,
    vx_Zq.moved hal (d1.kept hS.2.1), vx_Zq.moved hal (d2.kept hS.2.1), va_Z.moved hal (d3.kept hS.2.1), va_T.moved hal (d4.kept hS.2.1)⟩
theorem gk_good : ∀ w ∈ wsL_law, goodWord w = true := List.all_eq_true.mp (by decide +kernel)
theorem gk_gA {ws : List Cond} (h : ∀ w ∈ ws, w ∈ wsL_law) : GoodIn wsL_law ws := fun w hw => ⟨h w hw, good_of_word (gk_good w (h w hw))⟩
theorem gk_gC {w : Cond} (h : w ∈ wsL_law) : GoodIn wsL_law (w :: wsL_law) := gk_gA (fun z hz => by
  rcases List.mem_cons.mp hz with h1 | h1
  · rw [h1]; exact h
  · exact h1)
theorem gk_gV {own C : String} {idx : Nat} {yy : MethodName} {w : Cond} (h1 : Cond.methodLink own idx yy ∈ wsL_law) (h2 : Cond.instanceMethod yy ∈ wsL_law) (h3 : Cond.selects C yy yy ∈ wsL_law) (h4 : Cond.initialized C ∈ wsL_law) (h5 : w ∈ wsL_law) : GoodIn wsL_law (wsV own idx C yy (w :: wsL_law)) := gk_gA (fun z hz => by
  unfold wsV at hz
  simp only [List.mem_append, List.mem_cons, List.not_mem_nil, or_false] at hz
  rcases hz with (h | h | h | h) | h | h
  · rw [h]; exact h1
  · rw [h]; exact h2
  · rw [h]; exact h3
  · rw [h]; exact h4
  · rw [h]; exact h5
  · exact h)
theorem gk_gS {own : String} {idx : Nat} {yy : MethodName} {w : Cond} (h1 : Cond.methodLink own idx yy ∈ wsL_law) (h2 : Cond.static yy ∈ wsL_law) (h3 : Cond.initialized yy.cls ∈ wsL_law) (h5 : w ∈ wsL_law) : GoodIn wsL_law (va_wsS own idx yy (w :: wsL_law)) := gk_gA (fun z hz => by
  unfold va_wsS at hz
  simp only [List.mem_append, List.mem_cons, List.not_mem_nil, or_false] at hz
  rcases hz with (h | h | h) | h | h
  · rw [h]; exact h1
  · rw [h]; exact h2
  · rw [h]; exact h3
  · rw [h]; exact h5
  · exact h)
def gk_Pc (y : ly_T) (A : Nat → Prop) (av : List Value) (G : gk_G) : Array Value → State → Prop := va_Pc av (fun U => (∀ q, U.heap.size ≤ q → A q) ∧ gk_V y A U ∧ gk_P (ly_D y) A G U.heap)
def gk_Q (y : ly_T) (A : Nat → Prop) (post : Option Value → gk_G → Prop) : Array Value → State → Outcome → State → Prop := fun _ st oc t => (∃ (v : Option Value) (G : gk_G), oc = .returned v ∧ post v G ∧ gk_P (ly_D y) A G t.heap) ∧ va_F A st t
def gk_X (y : ly_T) (A : Nat → Prop) (px : String → gk_G → Prop) : String → State → State → Prop := fun E st t => (∃ G : gk_G, px E G ∧ gk_P (ly_D y) A G t.heap) ∧ va_F A st t
/-- a method that returns: its contract over maps -/
def gk_M0 (l : Launch) (yy : MethodName) (w : Cond) (fr lo mc ms : Nat) (y : ly_T) (A : Nat → Prop) (av : List Value) (G : gk_G) (post : Option Value → gk_G → Prop) : Prop := Met l yy (w :: wsL_law) { frames := fr, cells := mc, slots := ms, locals := lo } (gk_Pc y A av G) (gk_Q y A post) mc ms A
/-- a method that returns or throws -/
def gk_M (l : Launch) (yy : MethodName) (w : Cond) (fr lo mc ms : Nat) (y : ly_T) (A : Nat → Prop) (av : List Value) (G : gk_G) (post : Option Value → gk_G → Prop) (px : String → gk_G → Prop) : Prop := vx_Met l yy (w :: wsL_law) { frames := fr, cells := mc, slots := ms, locals := lo } (gk_Pc y A av G) (gk_Q y A post) (gk_X y A px) mc ms A
def gk_pu (v : Option Value) (r : List Value) : List Value := match v with
  | none => r
  | some x => x :: r
theorem gk_pu_eq (v : Option Value) (r : List Value) : v.toList ++ r = gk_pu v r := by cases v <;> rfl
theorem gk_blind {y : ly_T} {A : Nat → Prop} {av : List Value} {G : gk_G} : FrameBlind (gk_Pc y A av G) := fun a U g mk h => by
  obtain ⟨h1, h2, h3, h4⟩ := h
  exact ⟨h1, h2, gk_Vmoved (U := U.calling g mk a) (locs := []) h3 va_S.rf (State.WarmedH.refl U), h4⟩
section GKC
variable {p : Program} {l : Launch} {e : Env} {R : Room} {s : State} {m : MethodId} {args : Array Value} {below : List Frame} {meth : Method} {c : Code} {H : Heap} {locs : List Loc} {cells slots : Nat} {Q : State → Prop}
variable {cc bytes : ByteArray} {pc : Nat} {ls : Array Slot} {rest st0 As : List Value} {A : Nat → Prop} {G : gk_G} {own : String} {y : ly_T} {yy : MethodName} {fr lo mc ms nL index maxL n : Nat} {ret : Option FieldType} {post : Option Value → gk_G → Prop} {px : String → gk_G → Prop} {b : Nat}
theorem gk_preS (hV : gk_V y A s) (hP : gk_P (ly_D y) A G H) (hS : va_S A s.heap H locs) (hA : ∀ q, s.heap.size ≤ q → A q) (av : List Value) : PreS s H (gk_Pc y A av G) av := by
  refine ⟨gk_blind, fun U hU hW => ⟨rfl, fun q hq => hA q ?_, gk_Vmoved (locs := locs) hV (by rw [hU]; exact hS) hW, by rw [hU]; exact hP⟩⟩
  rw [hU] at hq
  exact Nat.le_trans hS.1 hq
theorem gk_preV (hV : gk_V y A s) (hP : gk_P (ly_D y) A G H) (hS : va_S A s.heap H locs) (hA : ∀ q, s.heap.size ≤ q → A q) {C : String} (hr : ∃ cell : Cell, H[b]? = some cell ∧ cell.vm.isStatics = false ∧ s.vm.findClass C = some cell.cls) : PreV s H C b (gk_Pc y A (.ref b :: As) G) As := by
  refine ⟨gk_blind, hr, fun U hU hW => ⟨rfl, fun q hq => hA q ?_, gk_Vmoved (locs := locs) hV (by rw [hU]; exact hS) hW, by rw [hU]; exact hP⟩⟩
  rw [hU] at hq
  exact Nat.le_trans hS.1 hq
theorem gk_back0 {a : Array Value} (hr : va_Run p l e R s m args below meth c H locs cells slots mc ms (F0 m pc ls st0) rest (gk_Q y A post a) A) (hS : va_S A s.heap H locs)
    (kk : ∀ (v : Option Value) (G1 : gk_G) (H1 : Heap) (locs1 : List Loc), post v G1 → gk_P (ly_D y) A G1 H1 → va_S A s.heap H1 locs1 → W p l e R s m args below meth c H1 locs1 (cells + mc) (slots + ms) Q (F0 m (pc + 3) ls (gk_pu v rest))) : W p l e R s m args below meth c H locs cells slots Q (F0 m pc ls st0) := by
  intro T hT X
  obtain ⟨v, st₀, t, T', L, h0, X', hL, e1, e2, ⟨⟨v2, G1, hv, hp, hb⟩, hF⟩, st⟩ := hr T hT X
  cases hv
  obtain ⟨k1, k2, k3⟩ := vx_keep (A1 := A) (free := A) h0 e1 hS (fun q _ h => h) (fun q h => h) hL hF
  obtain ⟨t2, a1, b1⟩ := kk v G1 T'.heap (locs ++ L) hp (by rw [e1]; exact hb) k3 T' rfl X'
  refine ⟨t2, st t2 ?_, b1⟩
  rw [gk_pu_eq]
  exact a1
theorem gk_backX {a : Array Value} (hr : vx_Run p l e R s m args below meth c H locs cells slots mc ms (F0 m pc ls st0) rest (gk_Q y A post a) (gk_X y A px) A) (hS : va_S A s.heap H locs)
    (kx : ∀ (E : String) (ce : Cell) (q9 : Addr) (G1 : gk_G) (H1 : Heap) (locs1 : List Loc), px E G1 → gk_P (ly_D y) A G1 H1 → va_S A s.heap H1 locs1 → H1[q9]? = some ce → ce.vm = .none → s.vm.findClass E = some ce.cls → vx_W p l e R s m args below meth c H1 locs1 (cells + mc) (slots + ms) Q (F0 m pc ls rest) q9)
    (kk : ∀ (v : Option Value) (G1 : gk_G) (H1 : Heap) (locs1 : List Loc), post v G1 → gk_P (ly_D y) A G1 H1 → va_S A s.heap H1 locs1 → W p l e R s m args below meth c H1 locs1 (cells + mc) (slots + ms) Q (F0 m (pc + 3) ls (gk_pu v rest))) : W p l e R s m args below meth c H locs cells slots Q (F0 m pc ls st0) := by
  intro T hT X
  rcases hr T hT X with ⟨v, st₀, t, T', L, h0, X', hL, e1, e2, ⟨⟨v2, G1, hv, hp, hb⟩, hF⟩, st⟩ | ⟨q, st₀, t, T', L, E, ce, h0, X', hL, e1, e2, ⟨⟨G1, hp, hb⟩, hF⟩, hce, hcv, hcl, st⟩
  · cases hv
    obtain ⟨k1, k2, k3⟩ := vx_keep (A1 := A) (free := A) h0 e1 hS (fun q _ h => h) (fun q h => h) hL hF
    obtain ⟨t2, a1, b1⟩ := kk v G1 T'.heap (locs ++ L) hp (by rw [e1]; exact hb) k3 T' rfl X'
    refine ⟨t2, st t2 ?_, b1⟩
    rw [gk_pu_eq]
    exact a1
  · obtain ⟨k1, k2, k3⟩ := vx_keep (A1 := A) (free := A) h0 e1 hS (fun q _ h => h) (fun q h => h) hL hF
    obtain ⟨t2, a1, b1⟩ := kx E ce q G1 T'.heap (locs ++ L) hp (by rw [e1]; exact hb) k3 (by rw [e1]; exact hce) hcv hcl T' rfl X'
    exact ⟨t2, st.trans a1, b1⟩
/-- what a call of any kind needs of the caller -/
def gk_K (p : Program) (s : State) (m : MethodId) (c : Code) (args : Array Value) (cc : ByteArray) (own : String) (nL : Nat) (y : ly_T) (A : Nat → Prop) : Prop := gk_C p s m c args cc own ∧ c.maxLocals = nL ∧ gk_V y A s ∧ ∀ q, s.heap.size ≤ q → A q
theorem gk_fix (h : gk_C p s m c args cc own) (hml : c.maxLocals = nL) : CallFix p m c cc nL s args wsL_law own := ⟨h.1, h.2.1, hml, h.2.2.1, h.2.2.2⟩
theorem gk_callV (hK : gk_K p s m c args cc own nL y A) (hM : gk_M l yy (.code yy bytes maxL ret) fr lo mc ms y A (.ref b :: As) G post px) {C : String} (hg : GoodIn wsL_law (wsV own index C yy (.code yy bytes maxL ret :: wsL_law))) (hd : yy.cls = C ∧ yy.cls ≠ "java/lang/invoke/MethodHandle" ∧ yy.cls ≠ "java/lang/invoke/VarHandle" ∧ (parseMethodDescriptor yy.desc).map (fun d => d.parameters.length) = some n) (hR : fr + 1 ≤ R.frames ∧ 8 + (maxL + 11) + lo ≤ R.locals) (hP : gk_P (ly_D y) A G H) (hS : va_S A s.heap H locs) (hr : ∃ cell : Cell, H[b]? = some cell ∧ cell.vm.isStatics = false ∧ s.vm.findClass C = some cell.cls)
    (hn : As.length = n) (hsz : ls.size = nL) (hst : st0 = As.reverse ++ .ref b :: rest) (hW : (rest.map fun v => v.category).sum ≤ 8) (hdg : decode cc pc = .ok (.invokevirtual index, 3)) (hf : cells + mc ≤ R.cells ∧ slots + ms ≤ R.slots)
    (kx : ∀ (E : String) (ce : Cell) (q9 : Addr) (G1 : gk_G) (H1 : Heap) (locs1 : List Loc), px E G1 → gk_P (ly_D y) A G1 H1 → va_S A s.heap H1 locs1 → H1[q9]? = some ce → ce.vm = .none → s.vm.findClass E = some ce.cls → vx_W p l e R s m args below meth c H1 locs1 (cells + mc) (slots + ms) Q (F0 m pc ls rest) q9)
    (kk : ∀ (v : Option Value) (G1 : gk_G) (H1 : Heap) (locs1 : List Loc), post v G1 → gk_P (ly_D y) A G1 H1 → va_S A s.heap H1 locs1 → W p l e R s m args below meth c H1 locs1 (cells + mc) (slots + ms) Q (F0 m (pc + 3) ls (gk_pu v rest))) : W p l e R s m args below meth c H locs cells slots Q (F0 m pc ls st0) :=
  gk_backX (vx_runV (As := As) (rest := rest) (gk_fix hK.1 hK.2.1) hM (cwV n hK.1.2.2.2 hg rfl rfl rfl hd hR) (gk_preV hK.2.2.1 hP hS hK.2.2.2 hr) rfl hn hsz hst (lv_room hW) hdg hf) hS kx kk
theorem gk_callV0 (hK : gk_K p s m c args cc own nL y A) (hM : gk_M0 l yy (.code yy bytes maxL ret) fr lo mc ms y A (.ref b :: As) G post) {C : String} (hg : GoodIn wsL_law (wsV own index C yy (.code yy bytes maxL ret :: wsL_law))) (hd : yy.cls = C ∧ yy.cls ≠ "java/lang/invoke/MethodHandle" ∧ yy.cls ≠ "java/lang/invoke/VarHandle" ∧ (parseMethodDescriptor yy.desc).map (fun d => d.parameters.length) = some n) (hR : fr + 1 ≤ R.frames ∧ 8 + (maxL + 11) + lo ≤ R.locals) (hP : gk_P (ly_D y) A G H) (hS : va_S A s.heap H locs) (hr : ∃ cell : Cell, H[b]? = some cell ∧ cell.vm.isStatics = false ∧ s.vm.findClass C = some cell.cls)
    (hn : As.length = n) (hsz : ls.size = nL) (hst : st0 = As.reverse ++ .ref b :: rest) (hW : (rest.map fun v => v.category).sum ≤ 8) (hdg : decode cc pc = .ok (.invokevirtual index, 3)) (hf : cells + mc ≤ R.cells ∧ slots + ms ≤ R.slots)
    (kk : ∀ (v : Option Value) (G1 : gk_G) (H1 : Heap) (locs1 : List Loc), post v G1 → gk_P (ly_D y) A G1 H1 → va_S A s.heap H1 locs1 → W p l e R s m args below meth c H1 locs1 (cells + mc) (slots + ms) Q (F0 m (pc + 3) ls (gk_pu v rest))) : W p l e R s m args below meth c H locs cells slots Q (F0 m pc ls st0) :=
  gk_back0 (va_runV (As := As) (rest := rest) (gk_fix hK.1 hK.2.1) hM (cwV n hK.1.2.2.2 hg rfl rfl rfl hd hR) (gk_preV hK.2.2.1 hP hS hK.2.2.2 hr) rfl hn hsz hst (lv_room hW) hdg hf) hS kk
theorem gk_callS (hK : gk_K p s m c args cc own nL y A) (hM : gk_M l yy (.code yy bytes maxL ret) fr lo mc ms y A As G post px) (hg : GoodIn wsL_law (va_wsS own index yy (.code yy bytes maxL ret :: wsL_law))) (hd : yy.cls ≠ "java/lang/invoke/MethodHandle" ∧ yy.cls ≠ "java/lang/invoke/VarHandle" ∧ (parseMethodDescriptor yy.desc).map (fun d => d.parameters.length) = some n) (hR : fr + 1 ≤ R.frames ∧ 8 + (maxL + 11) + lo ≤ R.locals) (hP : gk_P (ly_D y) A G H) (hS : va_S A s.heap H locs)
    (hn : As.length = n) (hsz : ls.size = nL) (hst : st0 = As.reverse ++ rest) (hW : (rest.map fun v => v.category).sum ≤ 8) (hdg : decode cc pc = .ok (.invokestatic index, 3)) (hf : cells + mc ≤ R.cells ∧ slots + ms ≤ R.slots)
    (kx : ∀ (E : String) (ce : Cell) (q9 : Addr) (G1 : gk_G) (H1 : Heap) (locs1 : List Loc), px E G1 → gk_P (ly_D y) A G1 H1 → va_S A s.heap H1 locs1 → H1[q9]? = some ce → ce.vm = .none → s.vm.findClass E = some ce.cls → vx_W p l e R s m args below meth c H1 locs1 (cells + mc) (slots + ms) Q (F0 m pc ls rest) q9)
    (kk : ∀ (v : Option Value) (G1 : gk_G) (H1 : Heap) (locs1 : List Loc), post v G1 → gk_P (ly_D y) A G1 H1 → va_S A s.heap H1 locs1 → W p l e R s m args below meth c H1 locs1 (cells + mc) (slots + ms) Q (F0 m (pc + 3) ls (gk_pu v rest))) : W p l e R s m args below meth c H locs cells slots Q (F0 m pc ls st0) :=
  gk_backX (vx_runS (As := As) (rest := rest) (gk_fix hK.1 hK.2.1) hM (va_cwS n hK.1.2.2.2 hg rfl rfl rfl hd hR) (gk_preS hK.2.2.1 hP hS hK.2.2.2 As) rfl hn hsz hst (lv_room hW) hdg hf) hS kx kk
theorem gk_callS0 (hK : gk_K p s m c args cc own nL y A) (hM : gk_M0 l yy (.code yy bytes maxL ret) fr lo mc ms y A As G post) (hg : GoodIn wsL_law (va_wsS own index yy (.code yy bytes maxL ret :: wsL_law))) (hd : yy.cls ≠ "java/lang/invoke/MethodHandle" ∧ yy.cls ≠ "java/lang/invoke/VarHandle" ∧ (parseMethodDescriptor yy.desc).map (fun d => d.parameters.length) = some n) (hR : fr + 1 ≤ R.frames ∧ 8 + (maxL + 11) + lo ≤ R.locals) (hP : gk_P (ly_D y) A G H) (hS : va_S A s.heap H locs)
    (hn : As.length = n) (hsz : ls.size = nL) (hst : st0 = As.reverse ++ rest) (hW : (rest.map fun v => v.category).sum ≤ 8) (hdg : decode cc pc = .ok (.invokestatic index, 3)) (hf : cells + mc ≤ R.cells ∧ slots + ms ≤ R.slots)
    (kk : ∀ (v : Option Value) (G1 : gk_G) (H1 : Heap) (locs1 : List Loc), post v G1 → gk_P (ly_D y) A G1 H1 → va_S A s.heap H1 locs1 → W p l e R s m args below meth c H1 locs1 (cells + mc) (slots + ms) Q (F0 m (pc + 3) ls (gk_pu v rest))) : W p l e R s m args below meth c H locs cells slots Q (F0 m pc ls st0) :=
  gk_back0 (va_runS (As := As) (rest := rest) (gk_fix hK.1 hK.2.1) hM (va_cwS n hK.1.2.2.2 hg rfl rfl rfl hd hR) (gk_preS hK.2.2.1 hP hS hK.2.2.2 As) rfl hn hsz hst (lv_room hW) hdg hf) hS kk
/-- a static method with a table of its own, that returns -/
theorem gk_callSW {hh : List (Nat × Nat × Nat × Nat)} (hK : gk_K p s m c args cc own nL y A) (hM : gk_M0 l yy (.codeWith yy bytes maxL ret hh) fr lo mc ms y A As G post) (hg : GoodIn wsL_law (va_wsS own index yy (.codeWith yy bytes maxL ret hh :: wsL_law))) (hd : yy.cls ≠ "java/lang/invoke/MethodHandle" ∧ yy.cls ≠ "java/lang/invoke/VarHandle" ∧ (parseMethodDescriptor yy.desc).map (fun d => d.parameters.length) = some n) (hR : fr + 1 ≤ R.frames ∧ 8 + (maxL + 11) + lo ≤ R.locals) (hP : gk_P (ly_D y) A G H) (hS : va_S A s.heap H locs)
    (hn : As.length = n) (hsz : ls.size = nL) (hst : st0 = As.reverse ++ rest) (hW : (rest.map fun v => v.category).sum ≤ 8) (hdg : decode cc pc = .ok (.invokestatic index, 3)) (hf : cells + mc ≤ R.cells ∧ slots + ms ≤ R.slots)
    (kk : ∀ (v : Option Value) (G1 : gk_G) (H1 : Heap) (locs1 : List Loc), post v G1 → gk_P (ly_D y) A G1 H1 → va_S A s.heap H1 locs1 → W p l e R s m args below meth c H1 locs1 (cells + mc) (slots + ms) Q (F0 m (pc + 3) ls (gk_pu v rest))) : W p l e R s m args below meth c H locs cells slots Q (F0 m pc ls st0) :=
  gk_back0 (vx_runSW (As := As) (rest := rest) (gk_fix hK.1 hK.2.1) hM (vx_cwSW n hK.1.2.2.2 hg rfl rfl rfl hd hR) (gk_preS hK.2.2.1 hP hS hK.2.2.2 As) rfl hn hsz hst (lv_room hW) hdg hf) hS kk
/-- a constructor -/
theorem gk_callI (hK : gk_K p s m c args cc own nL y A) (hM : gk_M0 l yy (.code yy bytes maxL none) fr lo mc ms y A (.ref b :: As) G post) (hw : Cond.code yy bytes maxL none ∈ wsL_law) (hini : Cond.initialized yy.cls ∈ wsL_law) (hl : Cond.methodLink own index yy ∈ wsL_law) (hin : Cond.instanceMethod yy ∈ wsL_law) (hy1 : yy.name = "<init>") (hd : yy.cls ≠ "java/lang/invoke/MethodHandle" ∧ yy.cls ≠ "java/lang/invoke/VarHandle" ∧ (parseMethodDescriptor yy.desc).map (fun d => d.parameters.length) = some n) (hR : fr + 1 ≤ R.frames ∧ 8 + (maxL + 11) + lo ≤ R.locals) (hP : gk_P (ly_D y) A G H) (hS : va_S A s.heap H locs)
    (hn : As.length = n) (hsz : ls.size = nL) (hst : st0 = As.reverse ++ .ref b :: rest) (hW : (rest.map fun v => v.category).sum ≤ 8) (hdg : decode cc pc = .ok (.invokespecial index, 3)) (hf : cells + mc ≤ R.cells ∧ slots + ms ≤ R.slots)
    (kk : ∀ (v : Option Value) (G1 : gk_G) (H1 : Heap) (locs1 : List Loc), post v G1 → gk_P (ly_D y) A G1 H1 → va_S A s.heap H1 locs1 → W p l e R s m args below meth c H1 locs1 (cells + mc) (slots + ms) Q (F0 m (pc + 3) ls (gk_pu v rest))) : W p l e R s m args below meth c H locs cells slots Q (F0 m pc ls st0) :=
  gk_back0 (va_runI (As := As) (rest := rest) (gk_fix hK.1 hK.2.1) hM (cwI n hK.1.2.2.2 (gk_gC hw) rfl rfl rfl (hK.1.2.2.2 _ hini) (hK.1.2.2.2 _ hl) (hK.1.2.2.2 _ hin) hy1 hd hR) (gk_preS hK.2.2.1 hP hS hK.2.2.2 (.ref b :: As)) rfl hn hsz hst (lv_room hW) hdg hf) hS kk
/-- a private constructor of a nest mate -/
theorem gk_callIN {host : String} (hK : gk_K p s m c args cc own nL y A) (hM : gk_M0 l yy (.code yy bytes maxL none) fr lo mc ms y A (.ref b :: As) G post) (hw : Cond.code yy bytes maxL none ∈ wsL_law) (hini : Cond.initialized yy.cls ∈ wsL_law) (hl : va_Nw (.methodLinkNest own index yy host) s) (hin : Cond.instanceMethod yy ∈ wsL_law) (hy1 : yy.name = "<init>") (hd : yy.cls ≠ "java/lang/invoke/MethodHandle" ∧ yy.cls ≠ "java/lang/invoke/VarHandle" ∧ (parseMethodDescriptor yy.desc).map (fun d => d.parameters.length) = some n) (hR : fr + 1 ≤ R.frames ∧ 8 + (maxL + 11) + lo ≤ R.locals) (hP : gk_P (ly_D y) A G H) (hS : va_S A s.heap H locs)
    (hn : As.length = n) (hsz : ls.size = nL) (hst : st0 = As.reverse ++ .ref b :: rest) (hW : (rest.map fun v => v.category).sum ≤ 8) (hdg : decode cc pc = .ok (.invokespecial index, 3)) (hf : cells + mc ≤ R.cells ∧ slots + ms ≤ R.slots)
    (kk : ∀ (v : Option Value) (G1 : gk_G) (H1 : Heap) (locs1 : List Loc), post v G1 → gk_P (ly_D y) A G1 H1 → va_S A s.heap H1 locs1 → W p l e R s m args below meth c H1 locs1 (cells + mc) (slots + ms) Q (F0 m (pc + 3) ls (gk_pu v rest))) : W p l e R s m args below meth c H locs cells slots Q (F0 m pc ls st0) :=
  gk_back0 (va_runIN (As := As) (rest := rest) (gk_fix hK.1 hK.2.1) hM ⟨va_cnB n hK.1.2.2.2 (gk_gC hw) rfl rfl rfl hl (hK.1.2.2.2 _ hini) hd hR, hy1, hK.1.2.2.2 _ hin⟩ (gk_preS hK.2.2.1 hP hS hK.2.2.2 (.ref b :: As)) rfl hn hsz hst (lv_room hW) hdg hf) hS kk
theorem gk_throwS {text cls : String} {names : List String} {ik is ic sa : Nat} {Qc : Array Value → State → Outcome → State → Prop} (hK : gk_K p s m c args cc own nL y A) (hl : l.stackTraces = false) (hcls : Bundle.fit cls = true) (hnames : ∀ n ∈ names, Bundle.fit n = true) (hk : Cond.classLink own ik cls ∈ wsL_law) (hini : Cond.initialized cls ∈ wsL_law) (hstr : vk_R own is text sa s) (hat : ∀ w ∈ vx_atS own ic cls names, w.before args s = true) (hgood : ∀ w ∈ vx_atS own ic cls names, vx_ot w = true)
    (hP : gk_P (ly_D y) A G H) (hS : va_S A s.heap H locs) (hsize : ls.size = nL) (hex : ∀ x ∈ c.exceptionTable.toList, False) (hlocks : meth.locks = false)
    (d0 : decode cc pc = .ok (.new ik, 3)) (d3 : decode cc (pc + 3) = .ok (.dup, 1)) (d4 : decode cc (pc + 4) = .ok (.ldc is, 2)) (d6 : decode cc (pc + 6) = .ok (.invokespecial ic, 3)) (d9 : decode cc (pc + 9) = .ok (.athrow, 1))
    (hRframes : names.length + 3 < R.frames) (hRlocals : (rest.map fun v => v.category).sum + (13 * (names.length + 1) + 43) ≤ R.locals) (hRcells : cells + 1 ≤ R.cells) (hRslots : slots + 6 ≤ R.slots) (hc : cells + 1 ≤ mc) (hs : slots + 6 ≤ ms) (hx : px cls G) :
    W p l e R s m args below meth c H locs cells slots (vx_MQ below Qc (gk_X y A px) args s mc ms A) (F0 m pc ls rest) := by
  obtain ⟨hC, hml, hV, hA⟩ := hK
  refine vx_throwS hC.1 hC.2.1 hl hC.2.2.1 hcls hnames (hC.2.2.2 _ hk) (hC.2.2.2 _ hini) hstr hat (fun w hw => ?_) hV.2.2.2.1 hV.2.2.2.2.1 hS (hsize.trans hml.symm) d0 d3 d4 d6 d9 (fun x hx => (hex x hx).elim) hRframes hRlocals hRcells hRslots hlocks (fun t hal hz hq => ⟨⟨G, hx, fun a e hG => ⟨(hP a e hG).1, (hP a e hG).2.kept (hq a (gk_lt hP hG))⟩⟩, ⟨Nat.le_trans hS.1 hz, fun q h1 h2 => (hq q (Nat.lt_of_lt_of_le h1 hS.1)).trans (hS.2.1 q h1 h2)⟩⟩) hS.2.2 hc hs
  rcases List.mem_cons.mp hw with h | hw
  · rw [h]; rfl
  · rcases List.mem_cons.mp hw with h | hw
    · rw [h]; rfl
    · exact hgood w hw
/-- out of a method with no table: what a callee threw goes on -/
theorem gk_out {Qc : Array Value → State → Outcome → State → Prop} {E : String} {ce : Cell} {q9 : Addr} (hex : ∀ x ∈ c.exceptionTable.toList, False) (hlocks : meth.locks = false) (hP : gk_P (ly_D y) A G H) (hS : va_S A s.heap H locs) (h1 : H[q9]? = some ce) (h2 : ce.vm = .none) (h3 : s.vm.findClass E = some ce.cls) (hx : px E G) (hc : cells ≤ mc) (hs : slots ≤ ms) :
    vx_W p l e R s m args below meth c H locs cells slots (vx_MQ below Qc (gk_X y A px) args s mc ms A) (F0 m pc ls rest) q9 :=
  vx_out (fun x hx => (hex x hx).elim) hlocks h1 h2 h3 (fun t ht _ => ⟨⟨G, hx, by rw [ht]; exact hP⟩, hS.F ht⟩) hS.2.2 hc hs
theorem gk_iret0 {v : Int32} (hC : gk_C p s m c args cc own) (hr : meth.sig.returnType = some .int) (hlocks : meth.locks = false) (hP : gk_P (ly_D y) A G H) (hS : va_S A s.heap H locs) (hc : cells ≤ mc) (hs : slots ≤ ms) (hdg : decode cc pc = .ok (.ireturn, 1)) (hp : post (some (.int v)) G) : W p l e R s m args below meth c H locs cells slots (MQ below (gk_Q y A post) args s mc ms A) (F0 m pc ls [.int v]) :=
  W.widen hc hs (W.iret (v := v) hC.1 hC.2.1 hr (fun t ht _ => ⟨⟨some (.int v), G, rfl, hp, by rw [ht]; exact hP⟩, hS.F ht⟩) hS.2.2 hdg hlocks)
theorem gk_zret0 {v : Int32} (hC : gk_C p s m c args cc own) (hr : meth.sig.returnType = some .boolean) (hb : narrow .boolean (.int v) = .int v) (hlocks : meth.locks = false) (hP : gk_P (ly_D y) A G H) (hS : va_S A s.heap H locs) (hc : cells ≤ mc) (hs : slots ≤ ms) (hdg : decode cc pc = .ok (.ireturn, 1)) (hp : post (some (.int v)) G) : W p l e R s m args below meth c H locs cells slots (MQ below (gk_Q y A post) args s mc ms A) (F0 m pc ls [.int v]) :=
  W.widen hc hs (W.zret (v := v) hC.1 hC.2.1 hr hb (fun t ht _ => ⟨⟨some (.int v), G, rfl, hp, by rw [ht]; exact hP⟩, hS.F ht⟩) hS.2.2 hdg hlocks)
theorem gk_vret0 (hC : gk_C p s m c args cc own) (hr : meth.sig.returnType = none) (hlocks : meth.locks = false) (hP : gk_P (ly_D y) A G H) (hS : va_S A s.heap H locs) (hc : cells ≤ mc) (hs : slots ≤ ms) (hdg : decode cc pc = .ok (.return_, 1)) (hp : post none G) : W p l e R s m args below meth c H locs cells slots (MQ below (gk_Q y A post) args s mc ms A) (F0 m pc ls []) :=
  W.widen hc hs (W.vret hC.1 hC.2.1 hr (fun t ht _ => ⟨⟨none, G, rfl, hp, by rw [ht]; exact hP⟩, hS.F ht⟩) hS.2.2 hdg hlocks)
theorem gk_aret0 {v : Value} {rt : FieldType} (hC : gk_C p s m c args cc own) (hr : meth.sig.returnType = some rt) (hrt : (∃ n, rt = .object n) ∨ ∃ t, rt = .array t) (hv : v = .null ∨ ∃ a, v = .ref a) (hlocks : meth.locks = false) (hP : gk_P (ly_D y) A G H) (hS : va_S A s.heap H locs) (hc : cells ≤ mc) (hs : slots ≤ ms) (hdg : decode cc pc = .ok (.areturn, 1)) (hp : post (some v) G) : W p l e R s m args below meth c H locs cells slots (MQ below (gk_Q y A post) args s mc ms A) (F0 m pc ls [v]) :=
  W.widen hc hs (W.aret (v := v) hC.1 hC.2.1 hr hrt hv (fun t ht _ => ⟨⟨some v, G, rfl, hp, by rw [ht]; exact hP⟩, hS.F ht⟩) hS.2.2 hdg hlocks)
/-- the start of a method -/
theorem gk_of0 {w : Cond} {av : List Value} (hy : plainFor yy = true) (hw : w = .code yy cc maxL ret) (ho : yy.cls = own) (hlen : (lg_sl av).length ≤ maxL)
    (body : ∀ (p : Program) (e : Env) (s : State) (m : MethodId) (below : List Frame) (meth : Method) (c : Code) (ls : Array Slot), gk_K p s m c av.toArray cc own maxL y A → meth.sig.returnType = ret → meth.locks = false → meth.name = yy.name → gk_P (ly_D y) A G s.heap → va_S A s.heap s.heap [] → lv_has ls maxL (lv_args 0 av) →
      W p l e { frames := fr, cells := mc, slots := ms, locals := lo } s m av.toArray below meth c s.heap [] 0 0 (MQ below (gk_Q y A post) av.toArray s mc ms A) (F0 m 0 ls [])) : gk_M0 l yy w fr lo mc ms y A av G post := by
  subst hw
  refine va_MetF hy rfl ?_
  intro p e s m args below meth c s₁ B hml hv
  obtain ⟨rfl, hA, hV, hP⟩ := hv
  have hts := atoms_spec (ws := Cond.code yy cc maxL ret :: wsL_law) B.pre
  rw [lg_entry_eq]
  refine body p e s m below meth c _ ⟨⟨B.exec, B.bytes, ?_, fun w hw => hts w (List.mem_cons_of_mem _ hw)⟩, hml, hV, hA⟩ B.returns B.notSynchronized (name_of_methodNamed B.named B.method).1 hP va_S.rf (lv_entry av hlen)
  rw [← ho]
  exact findClass_of_methodNamed B.named
theorem gk_ofW {w : Cond} {av : List Value} {hh : List (Nat × Nat × Nat × Nat)} (hy : plainName yy.cls = true) (hw : w = .codeWith yy cc maxL ret hh) (ho : yy.cls = own) (hlen : (lg_sl av).length ≤ maxL)
    (body : ∀ (p : Program) (e : Env) (s : State) (m : MethodId) (below : List Frame) (meth : Method) (c : Code) (ls : Array Slot), gk_K p s m c av.toArray cc own maxL y A → meth.sig.returnType = ret → meth.locks = false → c.exceptionTable.toList = tableOf hh → gk_P (ly_D y) A G s.heap → va_S A s.heap s.heap [] → lv_has ls maxL (lv_args 0 av) →
      W p l e { frames := fr, cells := mc, slots := ms, locals := lo } s m av.toArray below meth c s.heap [] 0 0 (MQ below (gk_Q y A post) av.toArray s mc ms A) (F0 m 0 ls [])) : gk_M0 l yy w fr lo mc ms y A av G post := by
  subst hw
  refine va_MetW hy rfl ?_
  intro p e s m args below meth c s₁ B hml hv
  obtain ⟨rfl, hA, hV, hP⟩ := hv
  have hts := atoms_spec (ws := Cond.codeWith yy cc maxL ret hh :: wsL_law) B.pre
  rw [lg_entry_eq]
  refine body p e s m below meth c _ ⟨⟨B.exec, B.bytes, ?_, fun w hw => hts w (List.mem_cons_of_mem _ hw)⟩, hml, hV, hA⟩ B.returns B.notSynchronized (vx_table (x := yy) B (hts _ List.mem_cons_self)) hP va_S.rf (lv_entry av hlen)
  rw [← ho]
  exact findClass_of_methodNamed B.named
theorem gk_ofX {w : Cond} {av : List Value} (hy : plainName yy.cls = true) (hw : w = .code yy cc maxL ret) (ho : yy.cls = own) (hlen : (lg_sl av).length ≤ maxL)
    (body : ∀ (p : Program) (e : Env) (s : State) (m : MethodId) (below : List Frame) (meth : Method) (c : Code) (ls : Array Slot), gk_K p s m c av.toArray cc own maxL y A → meth.sig.returnType = ret → meth.locks = false → (∀ x ∈ c.exceptionTable.toList, False) → gk_P (ly_D y) A G s.heap → va_S A s.heap s.heap [] → lv_has ls maxL (lv_args 0 av) →
      W p l e { frames := fr, cells := mc, slots := ms, locals := lo } s m av.toArray below meth c s.heap [] 0 0 (vx_MQ below (gk_Q y A post) (gk_X y A px) av.toArray s mc ms A) (F0 m 0 ls [])) : gk_M l yy w fr lo mc ms y A av G post px := by
  subst hw
  refine vx_ofW hy rfl ?_
  intro p e s m args below meth c s₁ B hml hex hv
  obtain ⟨rfl, hA, hV, hP⟩ := hv
  have hts := atoms_spec (ws := Cond.code yy cc maxL ret :: wsL_law) B.pre
  rw [lg_entry_eq]
  refine body p e s m below meth c _ ⟨⟨B.exec, B.bytes, ?_, fun w hw => hts w (List.mem_cons_of_mem _ hw)⟩, hml, hV, hA⟩ B.returns B.notSynchronized hex hP va_S.rf (lv_entry av hlen)
  rw [← ho]
  exact findClass_of_methodNamed B.named
end GKC
