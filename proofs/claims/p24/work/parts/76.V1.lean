/-! THE CLAIM OUT OF ONE WALK OF THE LAW'S BODY. Your part is whole_start (and what it stands on); all else here is the same for every law, but numbers. -/
def R_law : String := "LogTurnerLaw"
def lw_P (b : Addr) (xs : List Int32) (args : Array Value) (s : State) : Prop := args = #[.ref b] ∧ s.IntsAt b xs ∧ xs.length ≤ 260 ∧ (Jvm.Cond.and given_1 narrow_1).before args s = true
def lw_Q (_ : Array Value) (s : State) (o : Outcome) (t : State) : Prop := o = .returned (some (.int 1)) ∧ Framed s o t [] 711450 6967421
def lw_Z (below : List Frame) (a : Array Value) (s : State) : State → Prop := fun t => ∃ o, t.status = .running ∧ Ended t below o ∧ lw_Q a s o t
/-- the law's own end, with 1 on the stack, nothing written that was there before, its room as the claim has it -/
theorem lw_ret {p : Program} {l : Launch} {e : Env} {s : State} {m : MethodId} {below : List Frame} {meth : Method} {c : Code} {b : Nat} (hx : p.tables.exec = Jvm.exec) (hb : c.code = code) (hr : meth.sig.returnType = ret) (hlocks : meth.locks = false) {pc : Nat} {H : Heap} {ls : Array Slot} (hdg : decode code pc = .ok (.ireturn, 1)) : W p l e room_1 s m #[Value.ref b] below meth c H [] 711450 6967421 (lw_Z below #[Value.ref b] s) (F0 m pc ls [.int 1]) := by
  intro T hT X
  obtain ⟨fs, hret, hrun, hended, hW, hframe⟩ := X.leave (v := some (.int 1)) (hlocks := hlocks) (fun h => by rw [hr] at h; cases h)
  have hmeth' : T.vm.method? m = some meth := X.method'
  refine ⟨T.setFrames fs, ?_, .returned (some (.int 1)), hrun, hended, rfl, ⟨_, rfl⟩, hW, hframe⟩
  jvm_step X.here [X.here.top, hx, hb, hdg, hmeth', hr, ret, narrow_b1]
  (try refine ⟨rfl, ?_⟩); (try refine ⟨rfl, ?_⟩)
  first | (intro acts; rw [hret _ acts rfl rfl rfl]) | rw [hret _ _ rfl rfl rfl]
  exact Steps.refl _
/-- what holds at the law's entry: the machine, the code, the tables' words (any of lw_tbl by 'hts w (by decide +kernel)'), the script of L ints xs at the cell b, what the Statement gives of the start (any of its parts by flat_of_before) -/
def lw_At (p : Program) (s : State) (m : MethodId) (meth : Method) (c : Code) (b L : Nat) (xs : Nat → Int32) : Prop :=
  p.tables.exec = Jvm.exec ∧ c.code = code ∧ meth.sig.returnType = ret ∧ c.maxLocals = 8 ∧ s.vm.findClass R_law = some m.cls ∧ (∀ w ∈ lw_tbl, w.before #[Value.ref b] s = true) ∧ va_X b L xs s s.heap ∧ b < s.heap.size ∧ meth.locks = false ∧ (Jvm.Cond.and given_1 narrow_1).before #[Value.ref b] s = true
/-! what the Statement gives of the start, in the words of the walk -/
theorem st_eq {args : Array Value} {s : State} {a d : Term} {n : Int32} (h : (Cond.eq a d).before args s = true) (hd : d.eval args s none [] s = some (.int n)) : a.eval args s none [] s = some (.int n) := by
  simp only [Cond.before, Cond.holds, Cond.value, hd] at h
  cases ha : a.eval args s none [] s with
  | none => simp [ha] at h
  | some x => cases x <;> simp [ha] at h ⊢ <;> exact h
theorem st_str {args : Array Value} {s : State} {t : Term} {C : String} (h : (Cond.exactly t C).before args s = true) : ∃ a : Nat, t.eval args s none [] s = some (.ref a) := by
  obtain ⟨a, _, _, _, h1, -⟩ := Cond.exactly_spec (args := args) (first := s) (s := s) (o := none) (idx := []) h
  exact ⟨a, h1⟩
theorem st_arI {args : Array Value} {s : State} (h : (Cond.arrayClass .int).before args s = true) : ∃ cA : ClassId, ArrOfT s cA .int ∧ va_RA s cA .int := by
  obtain ⟨cA, k, comp, h1, h2, h3⟩ := Cond.arrayClass_spec (args := args) (first := s) (s := s) (o := none) (idx := []) h
  exact ⟨cA, fun n z => ⟨fun k h => (by cases h), k, h2, comp, h3⟩, h1⟩
theorem st_arO {args : Array Value} {s : State} {C : String} (h : (Cond.arrayOver (.object C)).before args s = true) : ∃ cA : ClassId, ArrOfT s cA (.object C) ∧ va_RA s cA (.object C) := by
  obtain ⟨comp, cA, k, f1, -, f3, f4, f5⟩ := Cond.arrayOver_spec (args := args) (first := s) (s := s) (o := none) (idx := []) h
  exact ⟨cA, fun n z => ⟨fun k h => (by cases h), k, f3, comp, f4⟩, k, comp, f3, f4, f1, f5⟩
def st_k (a0 a1 a2 a3 a4 a5 a6 : ClassId) : Nat → ClassId
  | 0 => a0
  | 1 => a1
  | 2 => a2
  | 3 => a3
  | 4 => a4
  | 5 => a5
  | _ => a6
def st_d (i0 i1 i2 i3 i4 i5 i6 : Nat → Nat) : Nat → Nat → Nat
  | 0 => i0
  | 1 => i1
  | 2 => i2
  | 3 => i3
  | 4 => i4
  | 5 => i5
  | _ => i6
def st_q (q6 q7 q8 q9 q10 q11 q12 q13 q14 : Nat) : Nat → Nat
  | 6 => q6
  | 7 => q7
  | 8 => q8
  | 9 => q9
  | 10 => q10
  | 11 => q11
  | 12 => q12
  | 13 => q13
  | _ => q14
set_option maxHeartbeats 4000000 in
set_option maxRecDepth 100000 in
theorem st_start {p : Program} {s : State} {m : MethodId} {meth : Method} {c : Code} {b L : Nat} {xs : Nat → Int32} (C0 : lw_At p s m meth c b L xs) : ∃ y : ly_T, gk_K p s m c #[Value.ref b] cL_law RL 8 y (fun q => s.heap.size ≤ q) := by
  obtain ⟨hx, hb, hr, hml, hown, hts, hX, hbl, hlocks, hgv⟩ := id C0
  have htw : ∀ w ∈ wsL_law, w.before #[Value.ref b] s = true := fun w h => hts w (wsL_law_in w h)
  have hs := flat_of_before _ hgv
  have hA : ∀ a : Nat, a < s.heap.size → ¬ (fun q : Nat => s.heap.size ≤ q) a := fun a h => Nat.not_le.mpr h
  obtain ⟨c0, i0, K0⟩ := u_known (C := RJx4a65c) (T := TJx4a65c) (N := 3) (n := 3) htw inlJx4a65c (hts (Cond.instantiable RJx4a65c 3) (by decide +kernel))
  obtain ⟨c1, i1, K1⟩ := u_known (C := RX0) (T := TX0) (N := 2) (n := 2) htw inlX0 (hts (Cond.instantiable RX0 2) (by decide +kernel))
  obtain ⟨c2, i2, K2⟩ := u_known (C := RX1) (T := TX1) (N := 7) (n := 7) htw inlX1 (hts (Cond.instantiable RX1 7) (by decide +kernel))
  obtain ⟨c3, i3, K3⟩ := u_known (C := RX2) (T := TX2) (N := 3) (n := 3) htw inlX2 (hts (Cond.instantiable RX2 3) (by decide +kernel))
  obtain ⟨c4, i4, K4⟩ := u_known (C := RX3) (T := TX3) (N := 10) (n := 10) htw inlX3 (hts (Cond.instantiable RX3 10) (by decide +kernel))
  obtain ⟨c5, i5, K5⟩ := u_known (C := RX4) (T := TX4) (N := 4) (n := 4) htw inlX4 (hts (Cond.instantiable RX4 4) (by decide +kernel))
  obtain ⟨a0, A0⟩ := st_arI (hts (Cond.arrayClass .int) (by decide +kernel))
  obtain ⟨a3, A3⟩ := st_arO (hts (Cond.arrayOver (.object RX3)) (by decide +kernel))
  obtain ⟨a4, A4⟩ := st_arO (hts (Cond.arrayOver (.object RX1)) (by decide +kernel))
  obtain ⟨a5, A5⟩ := st_arO (hts (Cond.arrayOver (.object RX0)) (by decide +kernel))
  obtain ⟨a6, A6⟩ := st_arO (hts (Cond.arrayOver (.object "java/lang/Object")) (by decide +kernel))
  obtain ⟨g0, G0⟩ := st_str (hs (Cond.exactly (.string RX4 99) "java/lang/String") (by decide +kernel))
  obtain ⟨g1, G1⟩ := st_str (hs (Cond.exactly (.string RX4 112) "java/lang/String") (by decide +kernel))
  obtain ⟨g2, G2⟩ := st_str (hs (Cond.exactly (.string RX4 170) "java/lang/String") (by decide +kernel))
  obtain ⟨g3, G3⟩ := st_str (hs (Cond.exactly (.string RX4 173) "java/lang/String") (by decide +kernel))
  obtain ⟨g4, G4⟩ := st_str (hs (Cond.exactly (.string RX4 175) "java/lang/String") (by decide +kernel))
  obtain ⟨g5, G5⟩ := st_str (hs (Cond.exactly (.string RX4 177) "java/lang/String") (by decide +kernel))
  obtain ⟨g6, G6⟩ := st_str (hs (Cond.exactly (.string RX4 185) "java/lang/String") (by decide +kernel))
  obtain ⟨mi, hmi⟩ := va_Mi.of (hs (Cond.isRef (.mirror "[Ljava/lang/Object;")) (by decide +kernel))
  obtain ⟨t6, ht6, hT6⟩ := va_Tof (N := 0) (f := fun _ => .null) (A := fun q : Nat => s.heap.size ≤ q) (by decide) (hs (Cond.arrayOf (.static "java/util/ArrayList" "DEFAULTCAPACITY_EMPTY_ELEMENTDATA" "[Ljava/lang/Object;") (.object "java/lang/Object")) (by decide +kernel)) (st_eq (n := 0) (hs (Cond.eq (.length (.static "java/util/ArrayList" "DEFAULTCAPACITY_EMPTY_ELEMENTDATA" "[Ljava/lang/Object;")) (.int 0)) (by decide +kernel)) rfl) (fun j hj => absurd hj (Nat.not_lt_zero j)) hA
  refine ⟨((st_k c0 c1 c2 c3 c4 c5 c5, st_d i0 i1 i2 i3 i4 i5 i5), st_k a0 a0 a0 a3 a4 a5 a6, st_q t6 mi g0 g1 g2 g3 g4 g5 g6, fun _ _ => 0), ⟨hx, hb, hown, htw⟩, hml, ⟨⟨?_, ?_⟩, ?_, ?_, ?_⟩, fun q h => h⟩
  · intro k q hq
    match k, hq with
    | 0, hq => cases hq; exact K0
    | 1, hq => cases hq; exact K1
    | 2, hq => cases hq; exact K2
    | 3, hq => cases hq; exact K3
    | 4, hq => cases hq; exact K4
    | 5, hq => cases hq; exact K5
    | k + 6, hq => simp [vwCl] at hq
  · intro k q hq
    match k, hq with
    | 0, hq => cases hq; exact A0
    | 1, hq => cases hq; exact A0
    | 2, hq => cases hq; exact A0
    | 3, hq => cases hq; exact A3
    | 4, hq => cases hq; exact A4
    | 5, hq => cases hq; exact A5
    | 6, hq => cases hq; exact A6
    | k + 7, hq => simp [ly_TY] at hq
  · exact ⟨vk_R.of (hts (Cond.stringRef RX4 99 "the holder holds nothing") (by decide +kernel)) G0, vk_R.of (hts (Cond.stringRef RX4 112 "the day would be above the greatest one") (by decide +kernel)) G1, vk_R.of (hts (Cond.stringRef RX4 170 "no such rule") (by decide +kernel)) G2, vk_R.of (hts (Cond.stringRef RX4 173 "no such file") (by decide +kernel)) G3, vk_R.of (hts (Cond.stringRef RX4 175 "no such holder") (by decide +kernel)) G4, vk_R.of (hts (Cond.stringRef RX4 177 "no such old part") (by decide +kernel)) G5, vk_R.of (hts (Cond.stringRef RX4 185 "an argument is out of range") (by decide +kernel)) G6⟩
  · exact ⟨⟨va_AO.of (hts (Cond.arrayOver (.object "java/lang/Object")) (by decide +kernel)), va_AO.of (hts (Cond.arrayOver (.object RX0)) (by decide +kernel)), va_AO.of (hts (Cond.arrayOver (.object RX1)) (by decide +kernel)), va_AO.of (hts (Cond.arrayOver (.object RX3)) (by decide +kernel))⟩, ⟨hmi, va_Dc.of (hts (Cond.declares ⟨"java/lang/Object", "getClass", "()Ljava/lang/Class;"⟩) (by decide +kernel))⟩, ⟨va_Nw.of rfl (hts (Cond.methodLinkNest RX4 211 yX2_init RX4) (by decide +kernel)), va_Nw.of rfl (hts (Cond.methodLinkNest RX4 33 yX0_init RX4) (by decide +kernel)), va_Nw.of rfl (hts (Cond.methodLinkNest RX1 18 yX2_init RX4) (by decide +kernel))⟩, ⟨va_any rfl (hts (Cond.castable "java/lang/IndexOutOfBoundsException" "java/lang/IndexOutOfBoundsException") (by decide +kernel)), va_any rfl (hts (Cond.castable "java/lang/IllegalArgumentException" "java/lang/IllegalArgumentException") (by decide +kernel)), va_any rfl (hts (Cond.castable "java/lang/IllegalStateException" "java/lang/IllegalStateException") (by decide +kernel)), va_any rfl (hts (Cond.castable RX2 "java/lang/Object") (by decide +kernel))⟩, ⟨va_Nc.of (hs (Cond.not (.castable "java/lang/IllegalArgumentException" "java/lang/IndexOutOfBoundsException")) (by decide +kernel)), va_Nc.of (hs (Cond.not (.castable "java/lang/IllegalStateException" "java/lang/IndexOutOfBoundsException")) (by decide +kernel)), va_Nc.of (hs (Cond.not (.castable "java/lang/IllegalStateException" "java/lang/IllegalArgumentException")) (by decide +kernel))⟩, va_Nw.of rfl (hts (Cond.declares (Bundle.initS "java/lang/RuntimeException")) (by decide +kernel)), va_Nw.of rfl (hts (Cond.declares (Bundle.initS "java/lang/Exception")) (by decide +kernel)), va_Nw.of rfl (hts (Cond.declares (Bundle.initS Bundle.tN)) (by decide +kernel))⟩
  · exact ⟨vx_Zqof (hts (Cond.laysStatic Bundle.tN "UNASSIGNED_STACK" Bundle.steD) (by decide +kernel)) (hts (Cond.initialized Bundle.tN) (by decide +kernel)) (hs (Cond.isRef (.static Bundle.tN "UNASSIGNED_STACK" Bundle.steD)) (by decide +kernel)) hA, vx_Zqof (hts (Cond.laysStatic Bundle.tN "SUPPRESSED_SENTINEL" Bundle.listD) (by decide +kernel)) (hts (Cond.initialized Bundle.tN) (by decide +kernel)) (hs (Cond.isRef (.static Bundle.tN "SUPPRESSED_SENTINEL" Bundle.listD)) (by decide +kernel)) hA, va_Zref (hts (Cond.laysStatic "java/util/ArrayList" "DEFAULTCAPACITY_EMPTY_ELEMENTDATA" "[Ljava/lang/Object;") (by decide +kernel)) (hts (Cond.initialized "java/util/ArrayList") (by decide +kernel)) ht6 hA, hT6⟩
