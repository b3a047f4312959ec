section
-- ===== PART A: goes FIRST, ahead of the names: the tables' words, and 'selects' of the private methods out of them =====
/-- a private method of a class that the tables say can be made, by its rows of tables_1 -/
def lw_okq (q : MethodName × Nat) : Prop := (q.1.cls ≠ "java/lang/invoke/MethodHandle" ∧ q.1.cls ≠ "java/lang/invoke/VarHandle") ∧ Cond.instantiable q.1.cls q.2 ∈ tables_1 ∧ Cond.privateMethod q.1 ∈ tables_1 ∧ Cond.instanceMethod q.1 ∈ tables_1
theorem lw_p0 : lw_okq (⟨"LogTurner", "turnToday", "(LLogTurner$LogFile;)I"⟩, 4) := ⟨⟨by decide +kernel, by decide +kernel⟩, List.mem_of_getElem? (i := 23) (by decide +kernel), List.mem_of_getElem? (i := 194) (by decide +kernel), List.mem_of_getElem? (i := 195) (by decide +kernel)⟩
theorem lw_p1 : lw_okq (⟨"java/util/ArrayList", "add", "(Ljava/lang/Object;[Ljava/lang/Object;I)V"⟩, 3) := ⟨⟨by decide +kernel, by decide +kernel⟩, List.mem_of_getElem? (i := 82) (by decide +kernel), List.mem_of_getElem? (i := 206) (by decide +kernel), List.mem_of_getElem? (i := 207) (by decide +kernel)⟩
theorem lw_p2 : lw_okq (⟨"java/util/ArrayList", "grow", "()[Ljava/lang/Object;"⟩, 3) := ⟨⟨by decide +kernel, by decide +kernel⟩, List.mem_of_getElem? (i := 82) (by decide +kernel), List.mem_of_getElem? (i := 210) (by decide +kernel), List.mem_of_getElem? (i := 211) (by decide +kernel)⟩
theorem lw_p3 : lw_okq (⟨"java/util/ArrayList", "grow", "(I)[Ljava/lang/Object;"⟩, 3) := ⟨⟨by decide +kernel, by decide +kernel⟩, List.mem_of_getElem? (i := 82) (by decide +kernel), List.mem_of_getElem? (i := 214) (by decide +kernel), List.mem_of_getElem? (i := 215) (by decide +kernel)⟩
theorem lw_p4 : lw_okq (⟨"LogTurner", "markTurnedToday", "(LLogTurner$LogFile;)V"⟩, 4) := ⟨⟨by decide +kernel, by decide +kernel⟩, List.mem_of_getElem? (i := 23) (by decide +kernel), List.mem_of_getElem? (i := 261) (by decide +kernel), List.mem_of_getElem? (i := 262) (by decide +kernel)⟩
theorem lw_p5 : lw_okq (⟨"LogTurner", "squeezeOldParts", "(Ljava/util/ArrayList;)V"⟩, 4) := ⟨⟨by decide +kernel, by decide +kernel⟩, List.mem_of_getElem? (i := 23) (by decide +kernel), List.mem_of_getElem? (i := 265) (by decide +kernel), List.mem_of_getElem? (i := 266) (by decide +kernel)⟩
theorem lw_p6 : lw_okq (⟨"LogTurner", "isHeld", "(LLogTurner$Part;)Z"⟩, 4) := ⟨⟨by decide +kernel, by decide +kernel⟩, List.mem_of_getElem? (i := 23) (by decide +kernel), List.mem_of_getElem? (i := 283) (by decide +kernel), List.mem_of_getElem? (i := 284) (by decide +kernel)⟩
theorem lw_p7 : lw_okq (⟨"LogTurner", "throwOldParts", "(LLogTurner$LogFile;)I"⟩, 4) := ⟨⟨by decide +kernel, by decide +kernel⟩, List.mem_of_getElem? (i := 23) (by decide +kernel), List.mem_of_getElem? (i := 287) (by decide +kernel), List.mem_of_getElem? (i := 288) (by decide +kernel)⟩
theorem lw_p8 : lw_okq (⟨"LogTurner", "mustGo", "(LLogTurner$Part;LLogTurner$Rule;I)Z"⟩, 4) := ⟨⟨by decide +kernel, by decide +kernel⟩, List.mem_of_getElem? (i := 23) (by decide +kernel), List.mem_of_getElem? (i := 291) (by decide +kernel), List.mem_of_getElem? (i := 292) (by decide +kernel)⟩
theorem lw_p9 : lw_okq (⟨"java/util/ArrayList", "fastRemove", "([Ljava/lang/Object;I)V"⟩, 3) := ⟨⟨by decide +kernel, by decide +kernel⟩, List.mem_of_getElem? (i := 82) (by decide +kernel), List.mem_of_getElem? (i := 299) (by decide +kernel), List.mem_of_getElem? (i := 300) (by decide +kernel)⟩
theorem lw_p10 : lw_okq (⟨"LogTurner", "hasFileAmong", "(LLogTurner$Rule;I)Z"⟩, 4) := ⟨⟨by decide +kernel, by decide +kernel⟩, List.mem_of_getElem? (i := 23) (by decide +kernel), List.mem_of_getElem? (i := 304) (by decide +kernel), List.mem_of_getElem? (i := 305) (by decide +kernel)⟩
theorem lw_p11 : lw_okq (⟨"LogTurner", "tellHoldersOf", "(LLogTurner$Rule;)V"⟩, 4) := ⟨⟨by decide +kernel, by decide +kernel⟩, List.mem_of_getElem? (i := 23) (by decide +kernel), List.mem_of_getElem? (i := 308) (by decide +kernel), List.mem_of_getElem? (i := 309) (by decide +kernel)⟩
theorem lw_p12 : lw_okq (⟨"LogTurner", "ruleOf", "(I)LLogTurner$Rule;"⟩, 4) := ⟨⟨by decide +kernel, by decide +kernel⟩, List.mem_of_getElem? (i := 23) (by decide +kernel), List.mem_of_getElem? (i := 325) (by decide +kernel), List.mem_of_getElem? (i := 326) (by decide +kernel)⟩
theorem lw_p13 : lw_okq (⟨"java/lang/Throwable", "fillInStackTrace", "(I)Ljava/lang/Throwable;"⟩, 6) := ⟨⟨by decide +kernel, by decide +kernel⟩, List.mem_of_getElem? (i := 367) (by decide +kernel), List.mem_of_getElem? (i := 365) (by decide +kernel), List.mem_of_getElem? (i := 366) (by decide +kernel)⟩
theorem lw_p14 : lw_okq (⟨"LogTurner", "fileOf", "(I)LLogTurner$LogFile;"⟩, 4) := ⟨⟨by decide +kernel, by decide +kernel⟩, List.mem_of_getElem? (i := 23) (by decide +kernel), List.mem_of_getElem? (i := 430) (by decide +kernel), List.mem_of_getElem? (i := 431) (by decide +kernel)⟩
theorem lw_p15 : lw_okq (⟨"LogTurner", "holderOf", "(I)LLogTurner$Holder;"⟩, 4) := ⟨⟨by decide +kernel, by decide +kernel⟩, List.mem_of_getElem? (i := 23) (by decide +kernel), List.mem_of_getElem? (i := 442) (by decide +kernel), List.mem_of_getElem? (i := 443) (by decide +kernel)⟩
def lw_privs_1 : List (MethodName × Nat) := [(⟨"LogTurner", "turnToday", "(LLogTurner$LogFile;)I"⟩, 4), (⟨"java/util/ArrayList", "add", "(Ljava/lang/Object;[Ljava/lang/Object;I)V"⟩, 3), (⟨"java/util/ArrayList", "grow", "()[Ljava/lang/Object;"⟩, 3), (⟨"java/util/ArrayList", "grow", "(I)[Ljava/lang/Object;"⟩, 3), (⟨"LogTurner", "markTurnedToday", "(LLogTurner$LogFile;)V"⟩, 4), (⟨"LogTurner", "squeezeOldParts", "(Ljava/util/ArrayList;)V"⟩, 4), (⟨"LogTurner", "isHeld", "(LLogTurner$Part;)Z"⟩, 4), (⟨"LogTurner", "throwOldParts", "(LLogTurner$LogFile;)I"⟩, 4), (⟨"LogTurner", "mustGo", "(LLogTurner$Part;LLogTurner$Rule;I)Z"⟩, 4), (⟨"java/util/ArrayList", "fastRemove", "([Ljava/lang/Object;I)V"⟩, 3), (⟨"LogTurner", "hasFileAmong", "(LLogTurner$Rule;I)Z"⟩, 4), (⟨"LogTurner", "tellHoldersOf", "(LLogTurner$Rule;)V"⟩, 4), (⟨"LogTurner", "ruleOf", "(I)LLogTurner$Rule;"⟩, 4), (⟨"java/lang/Throwable", "fillInStackTrace", "(I)Ljava/lang/Throwable;"⟩, 6), (⟨"LogTurner", "fileOf", "(I)LLogTurner$LogFile;"⟩, 4), (⟨"LogTurner", "holderOf", "(I)LLogTurner$Holder;"⟩, 4)]
theorem lw_r1 : ∀ q ∈ lw_privs_1, lw_okq q := List.forall_mem_cons.mpr ⟨lw_p0, List.forall_mem_cons.mpr ⟨lw_p1, List.forall_mem_cons.mpr ⟨lw_p2, List.forall_mem_cons.mpr ⟨lw_p3, List.forall_mem_cons.mpr ⟨lw_p4, List.forall_mem_cons.mpr ⟨lw_p5, List.forall_mem_cons.mpr ⟨lw_p6, List.forall_mem_cons.mpr ⟨lw_p7, List.forall_mem_cons.mpr ⟨lw_p8, List.forall_mem_cons.mpr ⟨lw_p9, List.forall_mem_cons.mpr ⟨lw_p10, List.forall_mem_cons.mpr ⟨lw_p11, List.forall_mem_cons.mpr ⟨lw_p12, List.forall_mem_cons.mpr ⟨lw_p13, List.forall_mem_cons.mpr ⟨lw_p14, List.forall_mem_cons.mpr ⟨lw_p15, fun _ h => absurd h List.not_mem_nil⟩⟩⟩⟩⟩⟩⟩⟩⟩⟩⟩⟩⟩⟩⟩⟩
theorem lw_p16 : lw_okq (⟨"LogTurnerModel", "goes", "(ZZZ)Z"⟩, 23) := ⟨⟨by decide +kernel, by decide +kernel⟩, List.mem_of_getElem? (i := 580) (by decide +kernel), List.mem_of_getElem? (i := 672) (by decide +kernel), List.mem_of_getElem? (i := 673) (by decide +kernel)⟩
theorem lw_p17 : lw_okq (⟨"LogTurnerModel", "isDueOn", "(II)Z"⟩, 23) := ⟨⟨by decide +kernel, by decide +kernel⟩, List.mem_of_getElem? (i := 580) (by decide +kernel), List.mem_of_getElem? (i := 714) (by decide +kernel), List.mem_of_getElem? (i := 715) (by decide +kernel)⟩
theorem lw_p18 : lw_okq (⟨"LogTurnerModel", "turns", "(I)I"⟩, 23) := ⟨⟨by decide +kernel, by decide +kernel⟩, List.mem_of_getElem? (i := 580) (by decide +kernel), List.mem_of_getElem? (i := 721) (by decide +kernel), List.mem_of_getElem? (i := 722) (by decide +kernel)⟩
theorem lw_p19 : lw_okq (⟨"LogTurnerModel", "isHeld", "(I)Z"⟩, 23) := ⟨⟨by decide +kernel, by decide +kernel⟩, List.mem_of_getElem? (i := 580) (by decide +kernel), List.mem_of_getElem? (i := 725) (by decide +kernel), List.mem_of_getElem? (i := 726) (by decide +kernel)⟩
theorem lw_p20 : lw_okq (⟨"LogTurnerModel", "oldsOf", "(I)I"⟩, 23) := ⟨⟨by decide +kernel, by decide +kernel⟩, List.mem_of_getElem? (i := 580) (by decide +kernel), List.mem_of_getElem? (i := 729) (by decide +kernel), List.mem_of_getElem? (i := 730) (by decide +kernel)⟩
theorem lw_p21 : lw_okq (⟨"LogTurnerModel", "throwsAway", "(I)V"⟩, 23) := ⟨⟨by decide +kernel, by decide +kernel⟩, List.mem_of_getElem? (i := 580) (by decide +kernel), List.mem_of_getElem? (i := 733) (by decide +kernel), List.mem_of_getElem? (i := 734) (by decide +kernel)⟩
theorem lw_p22 : lw_okq (⟨"LogTurnerModel", "placeOf", "(II)I"⟩, 23) := ⟨⟨by decide +kernel, by decide +kernel⟩, List.mem_of_getElem? (i := 580) (by decide +kernel), List.mem_of_getElem? (i := 769) (by decide +kernel), List.mem_of_getElem? (i := 770) (by decide +kernel)⟩
def lw_privs_2 : List (MethodName × Nat) := [(⟨"LogTurnerModel", "goes", "(ZZZ)Z"⟩, 23), (⟨"LogTurnerModel", "isDueOn", "(II)Z"⟩, 23), (⟨"LogTurnerModel", "turns", "(I)I"⟩, 23), (⟨"LogTurnerModel", "isHeld", "(I)Z"⟩, 23), (⟨"LogTurnerModel", "oldsOf", "(I)I"⟩, 23), (⟨"LogTurnerModel", "throwsAway", "(I)V"⟩, 23), (⟨"LogTurnerModel", "placeOf", "(II)I"⟩, 23)]
theorem lw_r2 : ∀ q ∈ lw_privs_2, lw_okq q := List.forall_mem_cons.mpr ⟨lw_p16, List.forall_mem_cons.mpr ⟨lw_p17, List.forall_mem_cons.mpr ⟨lw_p18, List.forall_mem_cons.mpr ⟨lw_p19, List.forall_mem_cons.mpr ⟨lw_p20, List.forall_mem_cons.mpr ⟨lw_p21, List.forall_mem_cons.mpr ⟨lw_p22, fun _ h => absurd h List.not_mem_nil⟩⟩⟩⟩⟩⟩⟩
def lw_privs : List (MethodName × Nat) := lw_privs_1 ++ (lw_privs_2)
def lw_tbl : List Cond := k2_sels lw_privs ++ tables_1
theorem lw_privs_ok : ∀ q ∈ lw_privs, lw_okq q := by
  show ∀ q ∈ lw_privs_1 ++ (lw_privs_2), lw_okq q
  exact List.forall_mem_append.mpr ⟨lw_r1, lw_r2⟩
end
section
/-! ===== BEGIN words of one list among another's, by their places ===== -/
theorem goodIn_r {big : List Cond} (ws : List Cond) (ps : List Nat) (hp : ws = ps.filterMap (fun i => big[i]?)) (h : ws.all goodWord = true) : GoodIn big ws := by
  intro w hw
  have h1 := List.all_eq_true.mp h w hw
  rw [hp] at hw
  obtain ⟨i, -, hi⟩ := List.mem_filterMap.mp hw
  have hm : w ∈ big := by first | exact List.mem_of_getElem? hi | exact List.getElem?_mem hi
  exact ⟨hm, good_of_word h1⟩
theorem goodIn_app {big a b : List Cond} (ha : GoodIn big a) (hb : GoodIn big b) : GoodIn big (a ++ b) := fun w h => (List.mem_append.mp h).elim (ha w) (hb w)
theorem goodIn_ca {big a b : List Cond} {c : Cond} (ha : GoodIn big (c :: a)) (hb : GoodIn big b) : GoodIn big (c :: (a ++ b)) := fun w h => (List.mem_cons.mp h).elim (fun e => ha w (List.mem_cons.mpr (Or.inl e))) (fun h => (List.mem_append.mp h).elim (fun h => ha w (List.mem_cons.mpr (Or.inr h))) (hb w))
theorem goodIn_sub {big ws : List Cond} (hm : ∀ w ∈ ws, w ∈ big) (h : ws.all goodWord = true) : GoodIn big ws := fun w hw => ⟨hm w hw, good_of_word (List.all_eq_true.mp h w hw)⟩
/-! ===== END ===== -/

/-! ===== BEGIN exceptions that leave a method, and their catching by the caller (launches without stack traces) ===== -/
section VXA
/-! The laws vx_back, vx_callV, vx_callS, vx_callSW, vx_throw0, vx_throwS follow proofs of the library, with one case more: JvmDerived/Free/Laws.lean (Back.of_free), Shelf42/LK1.lean (callV, callS), Shelf/KitTraced.lean (throwNew0V, throwNewS). -/
/-- where a method has thrown q: the class by its name, the cell, what was written, the world -/
def vx_T (XC : String → State → State → Prop) (st : State) (q : Addr) (t : State) (mc ms : Nat) (free : Addr → Prop) : Prop :=
  ∃ (E : String) (ce : Cell) (L : List Loc), XC E st t ∧ t.heap[q]? = some ce ∧ ce.vm = .none ∧ st.vm.findClass E = some ce.cls ∧ st.WarmedH t.vm ∧ st.sameButNew ({ t with vm := st.vm } : State) L mc ms ∧ ∀ z ∈ L, free z.base
def vx_Q (Qc : Array Value → State → Outcome → State → Prop) (XC : String → State → State → Prop) (mc ms : Nat) (free : Addr → Prop) : Array Value → State → Outcome → State → Prop := fun a st o t =>
  (Qc a st o t ∧ ∃ L, FrameEnd st o t L mc ms ∧ ∀ q ∈ L, free q.base) ∨ ∃ q, o = .threw q ∧ vx_T XC st q t mc ms free
/-- a callee that returns or throws -/
def vx_Met (l : Launch) (y : MethodName) (ws : List Cond) (rm : Room) (Pc : Array Value → State → Prop) (Qc : Array Value → State → Outcome → State → Prop) (XC : String → State → State → Prop) (mc ms : Nat) (free : Addr → Prop) : Prop :=
  MetFree l y (headSpec ws rm) Pc (fun _ _ _ _ _ => True) (vx_Q Qc XC mc ms free)
def vx_Post (XC : String → State → State → Prop) (mc ms : Nat) (free : Addr → Prop) : Pt → Array Value → Addr → Pt → Prop := fun A a q B =>
  ∃ (g : JFrame) (mk : MethodId) (t : State) (L : List Loc) (E : String) (ce : Cell), B.U.heap = t.heap ∧ B.U.vm = t.vm ∧ XC E (A.U.calling g mk a) t ∧ t.heap[q]? = some ce ∧ ce.vm = .none ∧ A.U.vm.findClass E = some ce.cls ∧ B.locs = A.locs ++ L ∧ (∀ z ∈ L, free z.base) ∧ B.cells = A.cells + mc ∧ B.slots = A.slots + ms
def vx_Back (l : Launch) (R : Room) (p : Program) (e : Env) (below : List Frame) (s : State) (sargs : Array Value) (y : MethodName) (len W9 : Nat)
    (Pre : Pt → Array Value → Prop) (Post : Pt → Array Value → Option Value → Pt → Prop) (PostX : Pt → Array Value → Addr → Pt → Prop) : Prop :=
  ∀ (m : MethodId) (meth : Method) (c : Code) (A : Pt) (g : JFrame) (ig : Instr) (mk : MethodId) (a : Array Value),
    Stand p l e R s m sargs below meth c A.U A.locs A.cells A.slots → g.method = m → g.locals.size = c.maxLocals → decode c.code g.pc = .ok (ig, len) →
    2 * g.monitorRoom + (g.stack.map fun v => v.category).sum ≤ W9 → A.U.methodNamed? y = some mk → Pre A a →
    (∃ (v : Option Value) (B : Pt), Stand p l e R s m sargs below meth c B.U B.locs B.cells B.slots ∧ Post A a v B ∧
      Steps p.tables e below (doInvoke e (A.U.setTop g) [] mk a).1 (B.U.setTop { g with pc := g.pc + len, stack := v.toList ++ g.stack })) ∨
    (∃ (q : Addr) (B : Pt), Stand p l e R s m sargs below meth c B.U B.locs B.cells B.slots ∧ PostX A a q B ∧
      Steps p.tables e below (doInvoke e (A.U.setTop g) [] mk a).1 ((B.U.setTop g).pushFrame (.throwing q)))
section Payer
variable {l : Launch} {R : Room} {p : Program} {e : Env} {below : List Frame} {s : State} {sargs : Array Value} {y : MethodName} {len W9 : Nat}
theorem vx_back {ws : List Cond} {rm : Room} {Pc : Array Value → State → Prop} {Qc : Array Value → State → Outcome → State → Prop} {XC : String → State → State → Prop} {mc ms : Nat} {free : Addr → Prop} {bytes : ByteArray} {maxL : Nat} {ret : Option FieldType}
    (hM : vx_Met l y ws rm Pc Qc XC mc ms free) (hblind : FrameBlind Pc) (hrc : rm.cells = mc) (hrs : rm.slots = ms)
    (hframes : rm.frames + 1 ≤ R.frames) (hlocals : W9 + (maxL + 11) + rm.locals ≤ R.locals)
    (hws : ∀ w ∈ ws, ∀ a' U, s.WarmedH U.vm → w.before a' U = true) (hcode : Cond.code y bytes maxL ret ∈ ws) (hinit : ∀ a' U, s.WarmedH U.vm → (Cond.initialized y.cls).before a' U = true) :
    vx_Back l R p e below s sargs y len W9 (PreOf R mc ms Pc) (PostOf Qc mc ms free) (vx_Post XC mc ms free) := by
  intro m meth c A g ig mk a X hg hsize hdg hW hn hp
  have h1 : (headSpec ws rm).pre.before a A.U = true := atoms_intro fun w hw => hws w hw _ _ X.warmed
  have h2 : (Cond.code y bytes maxL ret).before a A.U = true := hws _ hcode _ _ X.warmed
  have h3 : (Cond.initialized y.cls).before a A.U = true := hinit _ _ X.warmed
  have h4 : A.cells + (headSpec ws rm).room.cells ≤ R.cells := by rw [show (headSpec ws rm).room.cells = mc from hrc]; exact hp.1
  have h5 : A.slots + (headSpec ws rm).room.slots ≤ R.slots := by rw [show (headSpec ws rm).room.slots = ms from hrs]; exact hp.2.1
  have hPc : Pc a (A.U.calling g mk a) := hblind _ _ _ _ hp.2.2
  obtain ⟨U, Ls, c0, s0⟩ := A
  dsimp only [Pt.U, Pt.locs, Pt.cells, Pt.slots] at h1 h2 h3 h4 h5 X hn hPc ⊢
  obtain ⟨methY, cY, hmY, hcY, -, hlY, -, -, -, -⟩ := Cond.code_spec hn h2
  obtain ⟨kY, hkY, -⟩ := className_of_methodNamed hn
  have hinitY : kY.init = .initialized := Cond.initialized_spec (findClass_of_methodNamed hn) hkY h3
  have h : At U g.method c below := by rw [hg]; exact X.here
  have hlocals9 : W9 + (maxL + 11) + (headSpec ws rm).room.locals ≤ R.locals := hlocals
  have happ : (headSpec ws rm).appliesLoose y e.platform (U.calling g mk a) = true :=
    Spec.appliesLoose_calling (g := g) h hdg hn hkY hinitY
      (X.room_calling (g := g) (R' := (headSpec ws rm).room) hsize hmY hcY hframes (by rw [hlY]; omega) h4 h5) h1
  obtain ⟨mid, hmid⟩ := h.above
  have hfr : (U.setTop g).frames = (.java g :: mid) ++ below := by rw [State.frames_setTop' g h.top, hmid]; rfl
  obtain ⟨o, s₂, hsteps, -, hend, hq⟩ := Steps.callFree hM p X.admits X.cas X.clock (acts := []) hfr happ hPc trivial
  have hq' : vx_Q Qc XC mc ms free a (U.calling g mk a) o s₂ := hq
  rw [State.frames_setTop' g h.top] at hend
  obtain ⟨g₀, hg0⟩ := Option.isSome_iff_exists.mp h.top
  obtain ⟨r, hr⟩ := State.topJava?_eq_some.mp hg0
  have hr' : (({ U with heap := s₂.heap, slotsUsed := s₂.slotsUsed } : State).setVm s₂.vm).frames = .java g₀ :: r := hr
  rcases hq' with ⟨hqc, L, hfe, hL⟩ | ⟨q, rfl, E, ce, L, hx, hce, hcv, hcl, hW₂, hsm, hL⟩
  · obtain ⟨⟨v, rfl⟩, hW₂, e2, q2, q3, q4, q5, q6⟩ := id hfe
    have e3 : s₂ = ({ (U.calling g mk a).setFrames s₂.frames with heap := s₂.heap, slotsUsed := s₂.slotsUsed } : State).setVm s₂.vm := by
      have : s₂ = ({ s₂ with vm := (U.calling g mk a).vm } : State).setVm s₂.vm := rfl
      rw [e2] at this
      exact this
    obtain ⟨c₂, i₂, len₂, hc₂, hd₂, hf₂⟩ := hend
    have hW' : U.WarmedH s₂.vm := hW₂
    have hcc : c₂ = c := by
      have h1 : s₂.code? g.method = U.code? g.method := by
        rw [State.code?_eq, State.code?_eq, hW'.alike.method?]
      exact Option.some.inj (hc₂.symm.trans (h1.trans h.code))
    subst hcc
    have hlen : len₂ = len := by rw [hdg] at hd₂; cases hd₂; rfl
    subst hlen
    have hs₂ : s₂ = (({ U with heap := s₂.heap, slotsUsed := s₂.slotsUsed } : State).setVm s₂.vm).setTop { g with pc := g.pc + len₂, stack := v.toList ++ g.stack } := by
      refine e3.trans ?_
      rw [hf₂, State.calling_eq h.top, State.setFrames_setFrames, State.setTop_of_frames _ hr', hr]
      rfl
    have hsame : U.sameButNew ({ U with heap := s₂.heap, slotsUsed := s₂.slotsUsed } : State) L mc ms := by
      refine ⟨?_, q2, q3, q4, q5, q6⟩
      obtain ⟨t, ht, -⟩ := State.frames_cons hr
      show ({ U with heap := s₂.heap, slotsUsed := s₂.slotsUsed } : State) = { U.setFrames U.frames with heap := s₂.heap, slotsUsed := s₂.slotsUsed }
      rw [State.setFrames_self ht]
    subst hg
    refine Or.inl ⟨v, ⟨(({ U with heap := s₂.heap, slotsUsed := s₂.slotsUsed } : State).setVm s₂.vm), Ls ++ L, c0 + mc, s0 + ms⟩,
      ⟨X.admits, X.cas, X.clock, X.frames, X.room, X.hears, X.method, X.code, (X.here.setHeapUsed s₂.heap s₂.slotsUsed).setVm hW'.alike, X.tail, State.WarmedH.trans X.warmed hW', X.limits, X.bytes, X.same.trans (hsame.setVm s.vm)⟩,
      ⟨g, mk, s₂, L, rfl, rfl, hqc, rfl, hL, rfl, rfl⟩, ?_⟩
    show Steps p.tables e below _ ((({ U with heap := s₂.heap, slotsUsed := s₂.slotsUsed } : State).setVm s₂.vm).setTop { g with pc := g.pc + len₂, stack := v.toList ++ g.stack })
    rw [← hs₂]
    exact hsteps
  · obtain ⟨e2, q2, q3, q4, q5, q6⟩ := id hsm
    have e3 : s₂ = ({ (U.calling g mk a).setFrames s₂.frames with heap := s₂.heap, slotsUsed := s₂.slotsUsed } : State).setVm s₂.vm := by
      have : s₂ = ({ s₂ with vm := (U.calling g mk a).vm } : State).setVm s₂.vm := rfl
      rw [e2] at this
      exact this
    have hf₂ : s₂.frames = .throwing q :: .java g :: U.frames.tail := hend
    have hW' : U.WarmedH s₂.vm := hW₂
    have hs₂ : s₂ = ((({ U with heap := s₂.heap, slotsUsed := s₂.slotsUsed } : State).setVm s₂.vm).setTop g).pushFrame (.throwing q) := by
      refine e3.trans ?_
      rw [hf₂, State.calling_eq h.top, State.setFrames_setFrames, State.pushFrame, State.frames_setTop _ hr', State.setTop_of_frames _ hr', State.setFrames_setFrames, hr]
      rfl
    have hsame : U.sameButNew ({ U with heap := s₂.heap, slotsUsed := s₂.slotsUsed } : State) L mc ms := by
      refine ⟨?_, q2, q3, q4, q5, q6⟩
      obtain ⟨t, ht, -⟩ := State.frames_cons hr
      show ({ U with heap := s₂.heap, slotsUsed := s₂.slotsUsed } : State) = { U.setFrames U.frames with heap := s₂.heap, slotsUsed := s₂.slotsUsed }
      rw [State.setFrames_self ht]
    subst hg
    refine Or.inr ⟨q, ⟨(({ U with heap := s₂.heap, slotsUsed := s₂.slotsUsed } : State).setVm s₂.vm), Ls ++ L, c0 + mc, s0 + ms⟩,
      ⟨X.admits, X.cas, X.clock, X.frames, X.room, X.hears, X.method, X.code, (X.here.setHeapUsed s₂.heap s₂.slotsUsed).setVm hW'.alike, X.tail, State.WarmedH.trans X.warmed hW', X.limits, X.bytes, X.same.trans (hsame.setVm s.vm)⟩,
      ⟨g, mk, s₂, L, E, ce, rfl, rfl, hx, hce, hcv, hcl, rfl, hL, rfl, rfl⟩, ?_⟩
    show Steps p.tables e below _ (((({ U with heap := s₂.heap, slotsUsed := s₂.slotsUsed } : State).setVm s₂.vm).setTop g).pushFrame (.throwing q))
    rw [← hs₂]
    exact hsteps
end Payer
section Calls
variable {p : Program} {l : Launch} {e : Env} {R : Room} {s : State} {m : MethodId} {args : Array Value} {below : List Frame} {meth : Method} {c : Code} {T : State} {locs : List Loc} {cells slots : Nat}
theorem vx_callV (X : Stand p l e R s m args below meth c T locs cells slots) (hexec : p.tables.exec = Jvm.exec) {own C : String} {index : Nat} {y : MethodName} {bytes : ByteArray} {maxL : Nat} {ret : Option FieldType}
    (hown : s.vm.findClass own = some m.cls) (hlink : (Cond.methodLink own index y).before args s = true) (hinst : (Cond.instanceMethod y).before args s = true) (hsel : (Cond.selects C y y).before args s = true)
    (hcode : (Cond.code y bytes maxL ret).before args s = true) (hy : y.cls ≠ "java/lang/invoke/MethodHandle" ∧ y.cls ≠ "java/lang/invoke/VarHandle")
    {W9 : Nat} {Pre : Pt → Array Value → Prop} {Post : Pt → Array Value → Option Value → Pt → Prop} {PostX : Pt → Array Value → Addr → Pt → Prop} (hK : vx_Back l R p e below s args y 3 W9 Pre Post PostX)
    {b : Addr} {cellB : Cell} (hcell : T.heap[b]? = some cellB) (hobj : cellB.vm.isStatics = false) (hcls : s.vm.findClass C = some cellB.cls)
    {g : JFrame} (hg : g.method = m) (hsize : g.locals.size = c.maxLocals) {argsL rest : List Value} (hlen : ∀ sig, parseMethodDescriptor y.desc = some sig → argsL.length = sig.parameters.length)
    (hstack : g.stack = argsL.reverse ++ .ref b :: rest) (hW : 2 * g.monitorRoom + (rest.map fun v => v.category).sum ≤ W9) (hdg : decode c.code g.pc = .ok (.invokevirtual index, 3))
    (hpre : ∀ vm₁, s.WarmedH vm₁ → Pre ⟨T.setVm vm₁, locs, cells, slots⟩ (Value.ref b :: argsL).toArray) :
    (∃ (v : Option Value) (vm₁ : Vm) (B : Pt), s.WarmedH vm₁ ∧ Stand p l e R s m args below meth c B.U B.locs B.cells B.slots ∧ Post ⟨T.setVm vm₁, locs, cells, slots⟩ (Value.ref b :: argsL).toArray v B ∧
      ∀ target, Steps p.tables e below (B.U.setTop { g with pc := g.pc + 3, stack := v.toList ++ rest }) target → Steps p.tables e below (T.setTop g) target) ∨
    (∃ (q : Addr) (vm₁ : Vm) (B : Pt), s.WarmedH vm₁ ∧ Stand p l e R s m args below meth c B.U B.locs B.cells B.slots ∧ PostX ⟨T.setVm vm₁, locs, cells, slots⟩ (Value.ref b :: argsL).toArray q B ∧
      Steps p.tables e below (T.setTop g) ((B.U.setTop { g with stack := rest }).pushFrame (.throwing q))) := by
  obtain ⟨mk, methM, hnamed, hmethM, hstM, habM⟩ := Cond.instanceMethod_spec hinst
  obtain ⟨methM', cM, hmethM', -, -, -, -, -, -, hsigM⟩ := Cond.code_spec hnamed hcode
  cases hmethM.symm.trans hmethM'
  obtain ⟨c2, r2, m2, q1, q2, q3, q4, kP, hkP, hkPi⟩ := Cond.selects_spec hsel
  cases hcls.symm.trans q1
  cases (State.methodFound?_of_named hnamed hy).symm.trans q2
  cases hnamed.symm.trans q3
  have hselP : selectMethod e.platform s.vm cellB.cls mk = .method mk := by rw [Launch.admits_selectMethod X.admits]; exact q4
  obtain ⟨vm₁, X₁, hstep₁⟩ := X.invokevirtual hexec hown hlink hnamed hmethM hstM hkP hkPi hy (a := b) (cell := cellB) hcell
    (fun z h => by rw [h] at hobj; cases hobj) hselP hmethM habM hkP hkPi (g := g) hg (argsL := argsL) (rest := rest) (hlen _ hsigM) hstack hdg
  rcases hK m meth c ⟨T.setVm vm₁, locs, cells, slots⟩ { g with stack := rest } (.invokevirtual index) mk (Value.ref b :: argsL).toArray X₁ hg hsize hdg hW (X₁.named hnamed) (hpre vm₁ X₁.warmed) with ⟨v, B, X', hpost, hsteps⟩ | ⟨q, B, X', hpost, hsteps⟩
  · exact Or.inl ⟨v, vm₁, B, X₁.warmed, X', hpost, fun target h => hstep₁ _ fun acts => by rw [doInvoke_state]; exact hsteps.trans h⟩
  · exact Or.inr ⟨q, vm₁, B, X₁.warmed, X', hpost, hstep₁ _ fun acts => by rw [doInvoke_state]; exact hsteps⟩
theorem vx_callS (X : Stand p l e R s m args below meth c T locs cells slots) (hexec : p.tables.exec = Jvm.exec) {own : String} {index : Nat} {y : MethodName} {bytes : ByteArray} {maxL : Nat} {ret : Option FieldType}
    (hown : s.vm.findClass own = some m.cls) (hlink : (Cond.methodLink own index y).before args s = true) (hstat : (Cond.static y).before args s = true) (hinit : (Cond.initialized y.cls).before args s = true)
    (hcode : (Cond.code y bytes maxL ret).before args s = true) (hy : y.cls ≠ "java/lang/invoke/MethodHandle" ∧ y.cls ≠ "java/lang/invoke/VarHandle")
    {W9 : Nat} {Pre : Pt → Array Value → Prop} {Post : Pt → Array Value → Option Value → Pt → Prop} {PostX : Pt → Array Value → Addr → Pt → Prop} (hK : vx_Back l R p e below s args y 3 W9 Pre Post PostX)
    {g : JFrame} (hg : g.method = m) (hsize : g.locals.size = c.maxLocals) {argsL rest : List Value} (hlen : ∀ sig, parseMethodDescriptor y.desc = some sig → argsL.length = sig.parameters.length)
    (hstack : g.stack = argsL.reverse ++ rest) (hW : 2 * g.monitorRoom + (rest.map fun v => v.category).sum ≤ W9) (hdg : decode c.code g.pc = .ok (.invokestatic index, 3))
    (hpre : ∀ vm₁, s.WarmedH vm₁ → Pre ⟨T.setVm vm₁, locs, cells, slots⟩ argsL.toArray) :
    (∃ (v : Option Value) (vm₁ : Vm) (B : Pt), s.WarmedH vm₁ ∧ Stand p l e R s m args below meth c B.U B.locs B.cells B.slots ∧ Post ⟨T.setVm vm₁, locs, cells, slots⟩ argsL.toArray v B ∧
      ∀ target, Steps p.tables e below (B.U.setTop { g with pc := g.pc + 3, stack := v.toList ++ rest }) target → Steps p.tables e below (T.setTop g) target) ∨
    (∃ (q : Addr) (vm₁ : Vm) (B : Pt), s.WarmedH vm₁ ∧ Stand p l e R s m args below meth c B.U B.locs B.cells B.slots ∧ PostX ⟨T.setVm vm₁, locs, cells, slots⟩ argsL.toArray q B ∧
      Steps p.tables e below (T.setTop g) ((B.U.setTop { g with stack := rest }).pushFrame (.throwing q))) := by
  obtain ⟨mk, hnamed⟩ := Cond.code_named hcode
  obtain ⟨methM, cM, hmethM, -, -, -, -, -, -, hsigM⟩ := Cond.code_spec hnamed hcode
  have hstatic : methM.isStatic = true := Cond.static_spec hnamed hmethM hstat
  obtain ⟨kP, hkP, -⟩ := className_of_methodNamed hnamed
  have hinitP : kP.init = .initialized := Cond.initialized_spec (findClass_of_methodNamed hnamed) hkP hinit
  obtain ⟨vm₁, X₁, hstep₁⟩ := X.invokestatic hexec hown hlink hnamed hmethM hstatic hkP hinitP hy (g := g) hg (argsL := argsL) (rest := rest) (hlen _ hsigM) hstack hdg
  rcases hK m meth c ⟨T.setVm vm₁, locs, cells, slots⟩ { g with stack := rest } (.invokestatic index) mk argsL.toArray X₁ hg hsize hdg hW (X₁.named hnamed) (hpre vm₁ X₁.warmed) with ⟨v, B, X', hpost, hsteps⟩ | ⟨q, B, X', hpost, hsteps⟩
  · exact Or.inl ⟨v, vm₁, B, X₁.warmed, X', hpost, fun target h => hstep₁ _ fun acts => by rw [doInvoke_state]; exact hsteps.trans h⟩
  · exact Or.inr ⟨q, vm₁, B, X₁.warmed, X', hpost, hstep₁ _ fun acts => by rw [doInvoke_state]; exact hsteps⟩
end Calls
theorem vx_cls {s : State} {T : State} {vm₁ : Vm} {E : String} {k : ClassId} (hW : s.WarmedH vm₁) (h : (T.setVm vm₁).vm.findClass E = some k) : s.vm.findClass E = some k := by
  have h1 : vm₁.findClass E = some k := h
  rw [hW.alike.findClass] at h1
  exact h1
/-- the method's frame g, with q thrown over it -/
def vx_W (p : Program) (l : Launch) (e : Env) (R : Room) (s : State) (m : MethodId) (args : Array Value) (below : List Frame) (meth : Method) (c : Code) (H : Heap) (locs : List Loc) (cells slots : Nat) (Q : State → Prop) (g : JFrame) (q : Addr) : Prop :=
  ∀ T : State, T.heap = H → Stand p l e R s m args below meth c T locs cells slots → ∃ t, Steps p.tables e below ((T.setTop g).pushFrame (.throwing q)) t ∧ Q t
def vx_Run (p : Program) (l : Launch) (e : Env) (R : Room) (s : State) (m : MethodId) (args : Array Value) (below : List Frame) (meth : Method) (c : Code) (H : Heap) (locs : List Loc) (cells slots mc ms : Nat) (g : JFrame) (rest : List Value) (Qa : State → Outcome → State → Prop) (XC : String → State → State → Prop) (free : Addr → Prop) : Prop :=
  ∀ T : State, T.heap = H → Stand p l e R s m args below meth c T locs cells slots →
    (∃ (v : Option Value) (st₀ t T' : State) (L : List Loc), st₀.heap = H ∧ Stand p l e R s m args below meth c T' (locs ++ L) (cells + mc) (slots + ms) ∧ (∀ q ∈ L, free q.base) ∧ T'.heap = t.heap ∧ T'.vm = t.vm ∧ Qa st₀ (.returned v) t ∧
      Goes p e below T g T' { g with pc := g.pc + 3, stack := v.toList ++ rest }) ∨
    (∃ (q : Addr) (st₀ t T' : State) (L : List Loc) (E : String) (ce : Cell), st₀.heap = H ∧ Stand p l e R s m args below meth c T' (locs ++ L) (cells + mc) (slots + ms) ∧ (∀ z ∈ L, free z.base) ∧ T'.heap = t.heap ∧ T'.vm = t.vm ∧ XC E st₀ t ∧ t.heap[q]? = some ce ∧ ce.vm = .none ∧ s.vm.findClass E = some ce.cls ∧
      Steps p.tables e below (T.setTop g) ((T'.setTop { g with stack := rest }).pushFrame (.throwing q)))
def vx_X {S : Type} (px : S → Prop) (B : String → S → State → Prop) (A : Nat → Prop) : String → State → State → Prop := fun E st t => ∃ u : S, px u ∧ B E u t ∧ va_F A st t
section Runs
variable {p : Program} {l : Launch} {e : Env} {R : Room} {s : State} {m : MethodId} {args : Array Value} {below : List Frame} {meth : Method} {c : Code} {H : Heap} {locs : List Loc} {cells slots : Nat}
variable {y : MethodName} {bytes cc : ByteArray} {maxL nL mc ms n index : Nat} {ret : Option FieldType} {ws : List Cond} {rm : Room} {Pc : Array Value → State → Prop} {Qc : Array Value → State → Outcome → State → Prop} {XC : String → State → State → Prop} {free : Addr → Prop} {Ts : List Cond} {own C : String} {b : Addr} {As rest : List Value} {g : JFrame}
theorem vx_callBack (cb : CallB R s args own index y bytes maxL ret ws rm mc ms n) (hM : vx_Met l y ws rm Pc Qc XC mc ms free) (hbl : FrameBlind Pc) : vx_Back l R p e below s args y 3 8 (PreOf R mc ms Pc) (PostOf Qc mc ms free) (vx_Post XC mc ms free) := by
  obtain ⟨hrc, hrs, hfr, hlo, hws, hcw, -, hini, -⟩ := cb
  exact vx_back (bytes := bytes) (maxL := maxL) (ret := ret) hM hbl hrc hrs hfr hlo hws hcw (fun a' U hW => word_at hW (Or.inl (by first | rfl | simp [Cond.onTables, Cond.keeps, Cond.steady])) hini)
theorem vx_runV (S : CallFix p m c cc nL s args Ts own) (hM : vx_Met l y ws rm Pc Qc XC mc ms free) (cw : CallW R s args own C index y bytes maxL ret ws rm mc ms n) (hp : PreV s H C b Pc As)
    (hg : g.method = m) (hn : As.length = n) (hsize : g.locals.size = nL) (hstack : g.stack = As.reverse ++ .ref b :: rest) (hW : 2 * g.monitorRoom + (rest.map fun v => v.category).sum ≤ 8) (hdg : decode cc g.pc = .ok (.invokevirtual index, 3)) (hf : cells + mc ≤ R.cells ∧ slots + ms ≤ R.slots) :
    vx_Run p l e R s m args below meth c H locs cells slots mc ms g rest (Qc (Value.ref b :: As).toArray) XC free := by
  have hK : vx_Back l R p e below s args y 3 8 (PreOf R mc ms Pc) (PostOf Qc mc ms free) (vx_Post XC mc ms free) := vx_callBack cw.1 hM hp.1
  obtain ⟨⟨-, -, -, -, -, -, hcode, -, hy, hlen, hl⟩, hin, hse⟩ := cw
  obtain ⟨hx, hb, hml, ho, -⟩ := S
  obtain ⟨-, ⟨cellB, hcB, hoB, hclB⟩, hPc⟩ := hp
  intro T hT X
  rcases vx_callV X hx (C := C) (bytes := bytes) (maxL := maxL) (ret := ret) ho hl hin hse hcode hy hK (by rw [hT]; exact hcB) hoB hclB hg (hsize.trans hml.symm) (argsL := As) (rest := rest) (fun sig h => hn.trans (hlen sig h)) hstack hW (by rw [hb]; exact hdg)
    (fun vm₁ hW₁ => ⟨hf.1, hf.2, hPc (T.setVm vm₁) hT hW₁⟩) with ⟨v, vm₁, ⟨U', l2, c2, s2⟩, hW₁, X', ⟨g', mk, t, L, e1, e2, hq, h1, hL, h2, h3⟩, st⟩ | ⟨q, vm₁, ⟨U', l2, c2, s2⟩, hW₁, X', ⟨g', mk, t, L, E, ce, e1, e2, hq, hce, hcv, hcl, h1, hL, h2, h3⟩, st⟩
  · dsimp only [Pt.U, Pt.locs, Pt.cells, Pt.slots] at X' e1 e2 h1 h2 h3 st
    subst h1; subst h2; subst h3
    exact Or.inl ⟨v, (T.setVm vm₁).calling g' mk (Value.ref b :: As).toArray, t, U', L, hT, X', hL, e1, e2, hq, st⟩
  · dsimp only [Pt.U, Pt.locs, Pt.cells, Pt.slots] at X' e1 e2 h1 h2 h3 st hcl
    subst h1; subst h2; subst h3
    exact Or.inr ⟨q, (T.setVm vm₁).calling g' mk (Value.ref b :: As).toArray, t, U', L, E, ce, hT, X', hL, e1, e2, hq, hce, hcv, vx_cls hW₁ hcl, st⟩
theorem vx_runS (S : CallFix p m c cc nL s args Ts own) (hM : vx_Met l y ws rm Pc Qc XC mc ms free) (cw : CallB R s args own index y bytes maxL ret ws rm mc ms n ∧ (Cond.static y).before args s = true) (hp : PreS s H Pc As)
    (hg : g.method = m) (hn : As.length = n) (hsize : g.locals.size = nL) (hstack : g.stack = As.reverse ++ rest) (hW : 2 * g.monitorRoom + (rest.map fun v => v.category).sum ≤ 8) (hdg : decode cc g.pc = .ok (.invokestatic index, 3)) (hf : cells + mc ≤ R.cells ∧ slots + ms ≤ R.slots) :
    vx_Run p l e R s m args below meth c H locs cells slots mc ms g rest (Qc As.toArray) XC free := by
  have hK : vx_Back l R p e below s args y 3 8 (PreOf R mc ms Pc) (PostOf Qc mc ms free) (vx_Post XC mc ms free) := vx_callBack cw.1 hM hp.1
  obtain ⟨⟨-, -, -, -, -, -, hcode, hini, hy, hlen, hl⟩, hstt⟩ := cw
  obtain ⟨hx, hb, hml, ho, -⟩ := S
  intro T hT X
  rcases vx_callS X hx (bytes := bytes) (maxL := maxL) (ret := ret) ho hl hstt hini hcode hy hK hg (hsize.trans hml.symm) (argsL := As) (rest := rest) (fun sig h => hn.trans (hlen sig h)) hstack hW (by rw [hb]; exact hdg)
    (fun vm₁ hW₁ => ⟨hf.1, hf.2, hp.2 (T.setVm vm₁) hT hW₁⟩) with ⟨v, vm₁, ⟨U', l2, c2, s2⟩, hW₁, X', ⟨g', mk, t, L, e1, e2, hq, h1, hL, h2, h3⟩, st⟩ | ⟨q, vm₁, ⟨U', l2, c2, s2⟩, hW₁, X', ⟨g', mk, t, L, E, ce, e1, e2, hq, hce, hcv, hcl, h1, hL, h2, h3⟩, st⟩
  · dsimp only [Pt.U, Pt.locs, Pt.cells, Pt.slots] at X' e1 e2 h1 h2 h3 st
    subst h1; subst h2; subst h3
    exact Or.inl ⟨v, (T.setVm vm₁).calling g' mk As.toArray, t, U', L, hT, X', hL, e1, e2, hq, st⟩
  · dsimp only [Pt.U, Pt.locs, Pt.cells, Pt.slots] at X' e1 e2 h1 h2 h3 st hcl
    subst h1; subst h2; subst h3
    exact Or.inr ⟨q, (T.setVm vm₁).calling g' mk As.toArray, t, U', L, E, ce, hT, X', hL, e1, e2, hq, hce, hcv, vx_cls hW₁ hcl, st⟩
end Runs
section Rows
variable {p : Program} {l : Launch} {e : Env} {R : Room} {s : State} {m : MethodId} {args : Array Value} {below : List Frame} {meth : Method} {c : Code} {H : Heap} {locs : List Loc} {cells slots : Nat} {Q : State → Prop}
variable {mc ms : Nat} {free : Addr → Prop} {A0 A1 : Nat → Prop} {H0 : Heap} {a : Array Value} {pc : Nat} {ls : Array Slot} {st0 rest : List Value}
theorem vx_keep {st₀ t T' : State} {L : List Loc} (h0 : st₀.heap = H) (e1 : T'.heap = t.heap) (hS : va_S A0 H0 H locs) (hA : ∀ q, q < H.size → A1 q → A0 q) (hf : ∀ q, free q → A0 q) (hL : ∀ q ∈ L, free q.base) (hF : va_F A1 st₀ t) :
    H.size ≤ T'.heap.size ∧ (∀ q : Nat, q < H.size → ¬ A1 q → T'.heap[q]? = H[q]?) ∧ va_S A0 H0 T'.heap (locs ++ L) := by
  obtain ⟨hz, hk⟩ := hF
  rw [h0] at hz hk
  exact ⟨by rw [e1]; exact hz, fun q h1 h2 => by rw [e1]; exact hk q h1 h2,
    ⟨Nat.le_trans hS.1 (by rw [e1]; exact hz), fun q h1 h2 => by rw [e1, hk q (Nat.lt_of_lt_of_le h1 hS.1) (fun z => h2 (hA q (Nat.lt_of_lt_of_le h1 hS.1) z))]; exact hS.2.1 q h1 h2, fun q hq => by
      rcases List.mem_append.mp hq with h | h
      · exact hS.2.2 q h
      · exact hf _ (hL q h)⟩⟩
theorem vx_calli {S SX : Type} {post : Int32 → S → Prop} {px : SX → Prop} {B : S → State → Prop} {BX : String → SX → State → Prop} {AX : Nat → Prop} (hr : vx_Run p l e R s m args below meth c H locs cells slots mc ms (F0 m pc ls st0) rest (va_Qi post B A1 a) (vx_X px BX AX) free) (hS : va_S A0 H0 H locs) (hA : ∀ q, q < H.size → A1 q → A0 q) (hf : ∀ q, free q → A0 q) (hAX : ∀ q, q < H.size → AX q → A0 q)
    (kx : ∀ (E : String) (ce : Cell) (q9 : Addr) (u : SX) (t : State) (H1 : Heap) (locs1 : List Loc), t.heap = H1 → s.vm.Alike t.vm → px u → BX E u t → H.size ≤ H1.size → (∀ q : Nat, q < H.size → ¬ AX q → H1[q]? = H[q]?) → va_S A0 H0 H1 locs1 → H1[q9]? = some ce → ce.vm = .none → s.vm.findClass E = some ce.cls → vx_W p l e R s m args below meth c H1 locs1 (cells + mc) (slots + ms) Q (F0 m pc ls rest) q9)
    (kk : ∀ (r : Int32) (u : S) (t : State) (H1 : Heap) (locs1 : List Loc), t.heap = H1 → s.vm.Alike t.vm → post r u → B u t → H.size ≤ H1.size → (∀ q : Nat, q < H.size → ¬ A1 q → H1[q]? = H[q]?) → va_S A0 H0 H1 locs1 → W p l e R s m args below meth c H1 locs1 (cells + mc) (slots + ms) Q (F0 m (pc + 3) ls (.int r :: rest))) : W p l e R s m args below meth c H locs cells slots Q (F0 m pc ls st0) := by
  intro T hT X
  rcases hr T hT X with ⟨v, st₀, t, T', L, h0, X', hL, e1, e2, ⟨⟨r, u, hv, hp, hb⟩, hF⟩, st⟩ | ⟨q, st₀, t, T', L, E, ce, h0, X', hL, e1, e2, ⟨u, hp, hb, hF⟩, hce, hcv, hcl, st⟩
  · cases hv
    obtain ⟨k1, k2, k3⟩ := vx_keep h0 e1 hS hA hf hL hF
    obtain ⟨t2, a1, b1⟩ := kk r u t T'.heap (locs ++ L) e1.symm (by rw [← e2]; exact X'.warmed.alike) hp hb k1 k2 k3 T' rfl X'
    exact ⟨t2, st t2 a1, b1⟩
  · obtain ⟨k1, k2, k3⟩ := vx_keep h0 e1 hS hAX hf hL hF
    obtain ⟨t2, a1, b1⟩ := kx E ce q u t T'.heap (locs ++ L) e1.symm (by rw [← e2]; exact X'.warmed.alike) hp hb k1 k2 k3 (by rw [e1]; exact hce) hcv hcl T' rfl X'
    exact ⟨t2, st.trans a1, b1⟩
theorem vx_calll {S SX : Type} {post : Int64 → S → Prop} {px : SX → Prop} {B : S → State → Prop} {BX : String → SX → State → Prop} {AX : Nat → Prop} (hr : vx_Run p l e R s m args below meth c H locs cells slots mc ms (F0 m pc ls st0) rest (va_Ql post B A1 a) (vx_X px BX AX) free) (hS : va_S A0 H0 H locs) (hA : ∀ q, q < H.size → A1 q → A0 q) (hf : ∀ q, free q → A0 q) (hAX : ∀ q, q < H.size → AX q → A0 q)
    (kx : ∀ (E : String) (ce : Cell) (q9 : Addr) (u : SX) (t : State) (H1 : Heap) (locs1 : List Loc), t.heap = H1 → s.vm.Alike t.vm → px u → BX E u t → H.size ≤ H1.size → (∀ q : Nat, q < H.size → ¬ AX q → H1[q]? = H[q]?) → va_S A0 H0 H1 locs1 → H1[q9]? = some ce → ce.vm = .none → s.vm.findClass E = some ce.cls → vx_W p l e R s m args below meth c H1 locs1 (cells + mc) (slots + ms) Q (F0 m pc ls rest) q9)
    (kk : ∀ (r : Int64) (u : S) (t : State) (H1 : Heap) (locs1 : List Loc), t.heap = H1 → s.vm.Alike t.vm → post r u → B u t → H.size ≤ H1.size → (∀ q : Nat, q < H.size → ¬ A1 q → H1[q]? = H[q]?) → va_S A0 H0 H1 locs1 → W p l e R s m args below meth c H1 locs1 (cells + mc) (slots + ms) Q (F0 m (pc + 3) ls (.long r :: rest))) : W p l e R s m args below meth c H locs cells slots Q (F0 m pc ls st0) := by
  intro T hT X
  rcases hr T hT X with ⟨v, st₀, t, T', L, h0, X', hL, e1, e2, ⟨⟨r, u, hv, hp, hb⟩, hF⟩, st⟩ | ⟨q, st₀, t, T', L, E, ce, h0, X', hL, e1, e2, ⟨u, hp, hb, hF⟩, hce, hcv, hcl, st⟩
  · cases hv
    obtain ⟨k1, k2, k3⟩ := vx_keep h0 e1 hS hA hf hL hF
    obtain ⟨t2, a1, b1⟩ := kk r u t T'.heap (locs ++ L) e1.symm (by rw [← e2]; exact X'.warmed.alike) hp hb k1 k2 k3 T' rfl X'
    exact ⟨t2, st t2 a1, b1⟩
  · obtain ⟨k1, k2, k3⟩ := vx_keep h0 e1 hS hAX hf hL hF
    obtain ⟨t2, a1, b1⟩ := kx E ce q u t T'.heap (locs ++ L) e1.symm (by rw [← e2]; exact X'.warmed.alike) hp hb k1 k2 k3 (by rw [e1]; exact hce) hcv hcl T' rfl X'
    exact ⟨t2, st.trans a1, b1⟩
theorem vx_callf {S SX : Type} {post : UInt32 → S → Prop} {px : SX → Prop} {B : S → State → Prop} {BX : String → SX → State → Prop} {AX : Nat → Prop} (hr : vx_Run p l e R s m args below meth c H locs cells slots mc ms (F0 m pc ls st0) rest (va_Qf post B A1 a) (vx_X px BX AX) free) (hS : va_S A0 H0 H locs) (hA : ∀ q, q < H.size → A1 q → A0 q) (hf : ∀ q, free q → A0 q) (hAX : ∀ q, q < H.size → AX q → A0 q)
    (kx : ∀ (E : String) (ce : Cell) (q9 : Addr) (u : SX) (t : State) (H1 : Heap) (locs1 : List Loc), t.heap = H1 → s.vm.Alike t.vm → px u → BX E u t → H.size ≤ H1.size → (∀ q : Nat, q < H.size → ¬ AX q → H1[q]? = H[q]?) → va_S A0 H0 H1 locs1 → H1[q9]? = some ce → ce.vm = .none → s.vm.findClass E = some ce.cls → vx_W p l e R s m args below meth c H1 locs1 (cells + mc) (slots + ms) Q (F0 m pc ls rest) q9)
    (kk : ∀ (r : UInt32) (u : S) (t : State) (H1 : Heap) (locs1 : List Loc), t.heap = H1 → s.vm.Alike t.vm → post r u → B u t → H.size ≤ H1.size → (∀ q : Nat, q < H.size → ¬ A1 q → H1[q]? = H[q]?) → va_S A0 H0 H1 locs1 → W p l e R s m args below meth c H1 locs1 (cells + mc) (slots + ms) Q (F0 m (pc + 3) ls (.float r :: rest))) : W p l e R s m args below meth c H locs cells slots Q (F0 m pc ls st0) := by
  intro T hT X
  rcases hr T hT X with ⟨v, st₀, t, T', L, h0, X', hL, e1, e2, ⟨⟨r, u, hv, hp, hb⟩, hF⟩, st⟩ | ⟨q, st₀, t, T', L, E, ce, h0, X', hL, e1, e2, ⟨u, hp, hb, hF⟩, hce, hcv, hcl, st⟩
  · cases hv
    obtain ⟨k1, k2, k3⟩ := vx_keep h0 e1 hS hA hf hL hF
    obtain ⟨t2, a1, b1⟩ := kk r u t T'.heap (locs ++ L) e1.symm (by rw [← e2]; exact X'.warmed.alike) hp hb k1 k2 k3 T' rfl X'
    exact ⟨t2, st t2 a1, b1⟩
  · obtain ⟨k1, k2, k3⟩ := vx_keep h0 e1 hS hAX hf hL hF
    obtain ⟨t2, a1, b1⟩ := kx E ce q u t T'.heap (locs ++ L) e1.symm (by rw [← e2]; exact X'.warmed.alike) hp hb k1 k2 k3 (by rw [e1]; exact hce) hcv hcl T' rfl X'
    exact ⟨t2, st.trans a1, b1⟩
theorem vx_calld {S SX : Type} {post : UInt64 → S → Prop} {px : SX → Prop} {B : S → State → Prop} {BX : String → SX → State → Prop} {AX : Nat → Prop} (hr : vx_Run p l e R s m args below meth c H locs cells slots mc ms (F0 m pc ls st0) rest (va_Qd post B A1 a) (vx_X px BX AX) free) (hS : va_S A0 H0 H locs) (hA : ∀ q, q < H.size → A1 q → A0 q) (hf : ∀ q, free q → A0 q) (hAX : ∀ q, q < H.size → AX q → A0 q)
    (kx : ∀ (E : String) (ce : Cell) (q9 : Addr) (u : SX) (t : State) (H1 : Heap) (locs1 : List Loc), t.heap = H1 → s.vm.Alike t.vm → px u → BX E u t → H.size ≤ H1.size → (∀ q : Nat, q < H.size → ¬ AX q → H1[q]? = H[q]?) → va_S A0 H0 H1 locs1 → H1[q9]? = some ce → ce.vm = .none → s.vm.findClass E = some ce.cls → vx_W p l e R s m args below meth c H1 locs1 (cells + mc) (slots + ms) Q (F0 m pc ls rest) q9)
    (kk : ∀ (r : UInt64) (u : S) (t : State) (H1 : Heap) (locs1 : List Loc), t.heap = H1 → s.vm.Alike t.vm → post r u → B u t → H.size ≤ H1.size → (∀ q : Nat, q < H.size → ¬ A1 q → H1[q]? = H[q]?) → va_S A0 H0 H1 locs1 → W p l e R s m args below meth c H1 locs1 (cells + mc) (slots + ms) Q (F0 m (pc + 3) ls (.double r :: rest))) : W p l e R s m args below meth c H locs cells slots Q (F0 m pc ls st0) := by
  intro T hT X
  rcases hr T hT X with ⟨v, st₀, t, T', L, h0, X', hL, e1, e2, ⟨⟨r, u, hv, hp, hb⟩, hF⟩, st⟩ | ⟨q, st₀, t, T', L, E, ce, h0, X', hL, e1, e2, ⟨u, hp, hb, hF⟩, hce, hcv, hcl, st⟩
  · cases hv
    obtain ⟨k1, k2, k3⟩ := vx_keep h0 e1 hS hA hf hL hF
    obtain ⟨t2, a1, b1⟩ := kk r u t T'.heap (locs ++ L) e1.symm (by rw [← e2]; exact X'.warmed.alike) hp hb k1 k2 k3 T' rfl X'
    exact ⟨t2, st t2 a1, b1⟩
  · obtain ⟨k1, k2, k3⟩ := vx_keep h0 e1 hS hAX hf hL hF
    obtain ⟨t2, a1, b1⟩ := kx E ce q u t T'.heap (locs ++ L) e1.symm (by rw [← e2]; exact X'.warmed.alike) hp hb k1 k2 k3 (by rw [e1]; exact hce) hcv hcl T' rfl X'
    exact ⟨t2, st.trans a1, b1⟩
theorem vx_callv {S SX : Type} {post : S → Prop} {px : SX → Prop} {B : S → State → Prop} {BX : String → SX → State → Prop} {AX : Nat → Prop} (hr : vx_Run p l e R s m args below meth c H locs cells slots mc ms (F0 m pc ls st0) rest (va_Qv post B A1 a) (vx_X px BX AX) free) (hS : va_S A0 H0 H locs) (hA : ∀ q, q < H.size → A1 q → A0 q) (hf : ∀ q, free q → A0 q) (hAX : ∀ q, q < H.size → AX q → A0 q)
    (kx : ∀ (E : String) (ce : Cell) (q9 : Addr) (u : SX) (t : State) (H1 : Heap) (locs1 : List Loc), t.heap = H1 → s.vm.Alike t.vm → px u → BX E u t → H.size ≤ H1.size → (∀ q : Nat, q < H.size → ¬ AX q → H1[q]? = H[q]?) → va_S A0 H0 H1 locs1 → H1[q9]? = some ce → ce.vm = .none → s.vm.findClass E = some ce.cls → vx_W p l e R s m args below meth c H1 locs1 (cells + mc) (slots + ms) Q (F0 m pc ls rest) q9)
    (kk : ∀ (u : S) (t : State) (H1 : Heap) (locs1 : List Loc), t.heap = H1 → s.vm.Alike t.vm → post u → B u t → H.size ≤ H1.size → (∀ q : Nat, q < H.size → ¬ A1 q → H1[q]? = H[q]?) → va_S A0 H0 H1 locs1 → W p l e R s m args below meth c H1 locs1 (cells + mc) (slots + ms) Q (F0 m (pc + 3) ls (rest))) : W p l e R s m args below meth c H locs cells slots Q (F0 m pc ls st0) := by
  intro T hT X
  rcases hr T hT X with ⟨v, st₀, t, T', L, h0, X', hL, e1, e2, ⟨⟨u, hv, hp, hb⟩, hF⟩, st⟩ | ⟨q, st₀, t, T', L, E, ce, h0, X', hL, e1, e2, ⟨u, hp, hb, hF⟩, hce, hcv, hcl, st⟩
  · cases hv
    obtain ⟨k1, k2, k3⟩ := vx_keep h0 e1 hS hA hf hL hF
    obtain ⟨t2, a1, b1⟩ := kk u t T'.heap (locs ++ L) e1.symm (by rw [← e2]; exact X'.warmed.alike) hp hb k1 k2 k3 T' rfl X'
    exact ⟨t2, st t2 a1, b1⟩
  · obtain ⟨k1, k2, k3⟩ := vx_keep h0 e1 hS hAX hf hL hF
    obtain ⟨t2, a1, b1⟩ := kx E ce q u t T'.heap (locs ++ L) e1.symm (by rw [← e2]; exact X'.warmed.alike) hp hb k1 k2 k3 (by rw [e1]; exact hce) hcv hcl T' rfl X'
    exact ⟨t2, st.trans a1, b1⟩
/-- caught by the row x of this method's table; the rows ahead don't take it -/
theorem vx_catch {own name : String} {E : String} {ce : Cell} {q : Addr} (hown : s.vm.findClass own = some m.cls) (pre : List ExceptionTableEntry) (x : ExceptionTableEntry) (suf : List ExceptionTableEntry) (hsplit : c.exceptionTable.toList = pre ++ x :: suf)
    (hpass : ∀ z ∈ pre, covers z pc = false ∨ (z.catchType ≠ 0 ∧ ∃ nm : String, (Cond.classLink own z.catchType nm).before args s = true ∧ va_Nc E nm s)) (hx : covers x pc = true) (h0 : x.catchType ≠ 0)
    (hlink : (Cond.classLink own x.catchType name).before args s = true) (hcast : (Cond.castable E name).before args s = true) (hcell : H[q]? = some ce) (hv : ce.vm = .none) (hcl : s.vm.findClass E = some ce.cls)
    (kk : W p l e R s m args below meth c H locs cells slots Q (F0 m x.handlerPc ls [.ref q])) : vx_W p l e R s m args below meth c H locs cells slots Q (F0 m pc ls rest) q := by
  intro T hT X
  have hpl : e.platform.magicAccessors = ({} : Platform).magicAccessors := by rw [X.admits.platform]
  obtain ⟨c3, c4, hc3, hc4, hasg⟩ := Cond.castable_spec hcast
  cases Option.some.inj (hc3.symm.trans hcl)
  obtain ⟨c5, hc5, hcl5⟩ := Cond.classLink_spec hown hlink e.platform hpl
  cases Option.some.inj (hc4.symm.trans hc5)
  obtain ⟨vm', X', st⟩ := X.thenCaughtThrough q (g := F0 m pc ls rest) rfl (Steps.refl _) (by rw [hT]; exact hcell) (by rw [hv]; rfl) (by obtain ⟨k9, h9, -⟩ := Vm.findClass_spec hcl; exact ⟨k9, h9⟩) pre x suf hsplit
    (fun z hz => by
      rcases hpass z hz with h | ⟨hz0, nm, hl1, hn1⟩
      · exact Or.inl h
      · obtain ⟨c6, hc6, hcl6⟩ := Cond.classLink_spec hown hl1 e.platform hpl
        obtain ⟨a8, b8, h1, h2, h3⟩ := hn1
        cases Option.some.inj (h1.symm.trans hcl)
        cases Option.some.inj (h2.symm.trans hc6)
        exact Or.inr ⟨hz0, _, hcl6, h3⟩) hx (Or.inr ⟨h0, c4, hcl5, hasg⟩)
  obtain ⟨t, a1, b1⟩ := kk (T.setVm vm') hT X'
  exact ⟨t, st.trans a1, b1⟩
end Rows
section Ends
variable {p : Program} {l : Launch} {e : Env} {R : Room} {s : State} {m : MethodId} {args : Array Value} {below : List Frame} {meth : Method} {c : Code} {H : Heap} {locs : List Loc} {cells slots : Nat} {Q : State → Prop}
variable {mc ms : Nat} {free : Addr → Prop} {A0 A1 : Nat → Prop} {H0 : Heap} {a : Array Value} {ls : Array Slot} {st0 rest : List Value}
variable {Qc : Array Value → State → Outcome → State → Prop} {XC : String → State → State → Prop}
/-- what a body that may throw owes at its end -/
def vx_MQ (below : List Frame) (Qc : Array Value → State → Outcome → State → Prop) (XC : String → State → State → Prop) (a : Array Value) (s : State) (mc ms : Nat) (free : Addr → Prop) : State → Prop := fun t =>
  ∃ o, t.status = .running ∧ Ended t below o ∧ vx_Q Qc XC mc ms free a s o t
theorem vx_ret {g : JFrame} {mc ms : Nat} (k : W p l e R s m args below meth c H locs cells slots (MQ below Qc args s mc ms free) g) : W p l e R s m args below meth c H locs cells slots (vx_MQ below Qc XC args s mc ms free) g := by
  intro T hT X
  obtain ⟨t, a1, o, b1, b2, b3, b4⟩ := k T hT X
  exact ⟨t, a1, o, b1, b2, Or.inl ⟨b3, b4⟩⟩
/-- not caught here: it goes on to the caller -/
theorem vx_widen {g : JFrame} {q : Addr} {k n : Nat} (h1 : cells ≤ k) (h2 : slots ≤ n) (kk : vx_W p l e R s m args below meth c H locs k n Q g q) : vx_W p l e R s m args below meth c H locs cells slots Q g q := fun T hT X => kk T hT (stand_widen X h1 h2)
theorem vx_out {pc : Nat} {E : String} {ce : Cell} {q : Addr} {mc ms : Nat} (hout : ∀ x ∈ c.exceptionTable.toList, covers x pc = false) (hlocks : meth.locks = false) (hcell : H[q]? = some ce) (hv : ce.vm = .none) (hcl : s.vm.findClass E = some ce.cls)
    (hx : ∀ t : State, t.heap = H → s.vm.Alike t.vm → XC E s t) (hf : ∀ z ∈ locs, free z.base) (hc : cells ≤ mc) (hs : slots ≤ ms) :
    vx_W p l e R s m args below meth c H locs cells slots (vx_MQ below Qc XC args s mc ms free) (F0 m pc ls rest) q := by
  intro T hT X
  obtain ⟨st1, hrun, hend, hW, hsm⟩ := X.leaveThrown q (g := F0 m pc ls rest) rfl rfl rfl hout hlocks
  have hcell9 : (T.setFrames (.throwing q :: below)).heap[q]? = some ce := by
    show T.heap[q]? = some ce
    rw [hT]; exact hcell
  exact ⟨_, st1, .threw q, hrun, hend, Or.inr ⟨q, rfl, E, ce, locs, hx _ hT hW.alike, hcell9, hv, hcl, hW, hsm.mono hc hs, hf⟩⟩
theorem vx_frame {U : State} {k n : Nat} (h : s.sameButNew ({ U with vm := s.vm } : State) locs k n) : s.heap.size ≤ U.heap.size ∧ ∀ q : Nat, q < s.heap.size → (∀ z ∈ locs, z.base ≠ q) → U.heap[q]? = s.heap[q]? := by
  obtain ⟨-, h2, -, -, -, h6⟩ := h
  refine ⟨h2, fun q hq hz => ?_⟩
  obtain ⟨c9, e1, e2, e3, e4⟩ := h6 q _ (Array.getElem?_eq_getElem hq)
  have hs : c9.slots = (s.heap[q]).slots := Array.ext_getElem? fun i => e4 i fun hm => hz _ hm rfl
  have h9 : c9 = s.heap[q] := by
    rw [hs] at e2
    exact e2
  have e5 : U.heap[q]? = some c9 := e1
  rw [e5, h9, Array.getElem?_eq_getElem hq]
/-- the words of a throw but the four that speak of the heap -/
def vx_no (w : Cond) : Bool := decide (w ≠ .isRef (.static Bundle.tN "UNASSIGNED_STACK" Bundle.steD)) && decide (w ≠ .isRef (.static Bundle.tN "SUPPRESSED_SENTINEL" Bundle.listD)) && decide (w ≠ .laysStatic Bundle.tN "UNASSIGNED_STACK" Bundle.steD) && decide (w ≠ .laysStatic Bundle.tN "SUPPRESSED_SENTINEL" Bundle.listD)
def vx_at0 (own : String) (ic : Nat) (X : String) (names : List String) : List Cond := (Bundle.ownAtoms0 own ic X names).filter vx_no
def vx_atS (own : String) (ic : Nat) (X : String) (names : List String) : List Cond := (Bundle.ownAtoms own ic X names).filter vx_no
/-- a word that the tables alone decide, or a good one -/
def vx_ot (w : Cond) : Bool := w.onTables || goodWord w
theorem vx_ot_at {args a' : Array Value} {s U : State} {w : Cond} (hW : s.WarmedH U.vm) (hvm : s.vm = U.vm) (hg : vx_ot w = true) (h : w.before args s = true) : w.before a' U = true := by
  simp only [vx_ot, Bool.or_eq_true] at hg
  rcases hg with hg | hg
  · exact va_tabs hg hvm h
  · exact word_at hW (good_of_word hg) h
/-- a list's words: the good ones out of the method's own list, the others by premises of their own -/
theorem vx_hat {args : Array Value} {s : State} {L B : List Cond} (h1 : ∀ w ∈ L.filter goodWord, w.before args s = true) (h2 : ∀ w ∈ L.filter (fun w => !goodWord w), w ∈ B) (h3 : ∀ w ∈ B, w.before args s = true) : ∀ w ∈ L, w.before args s = true := by
  intro w hw
  by_cases g : goodWord w = true
  · exact h1 w (List.mem_filter.mpr ⟨hw, g⟩)
  · refine h3 w (h2 w (List.mem_filter.mpr ⟨hw, ?_⟩))
    show (!goodWord w) = true
    cases hgw : goodWord w
    · rfl
    · exact absurd hgw g
theorem vx_c {args : Array Value} {s : State} {w : Cond} {B : List Cond} (h : w.before args s = true) (t : ∀ w ∈ B, w.before args s = true) : ∀ w' ∈ w :: B, w'.before args s = true := fun w' h' => (List.mem_cons.mp h').elim (fun e => by rw [e]; exact h) (t w')
theorem vx_n {args : Array Value} {s : State} : ∀ w ∈ ([] : List Cond), w.before args s = true := fun _ h => nomatch h
theorem vx_own {args : Array Value} {s : State} {L : List Cond} (h1 : ∀ w ∈ L.filter vx_no, w.before args s = true)
    (hU : (Cond.isRef (.static Bundle.tN "UNASSIGNED_STACK" Bundle.steD)).before args s = true) (hN : (Cond.isRef (.static Bundle.tN "SUPPRESSED_SENTINEL" Bundle.listD)).before args s = true)
    (lU : (Cond.laysStatic Bundle.tN "UNASSIGNED_STACK" Bundle.steD).before args s = true) (lN : (Cond.laysStatic Bundle.tN "SUPPRESSED_SENTINEL" Bundle.listD).before args s = true) : ∀ w ∈ L, w.before args s = true := by
  intro w hw
  by_cases e1 : w = .isRef (.static Bundle.tN "UNASSIGNED_STACK" Bundle.steD)
  · rw [e1]; exact hU
  · by_cases e2 : w = .isRef (.static Bundle.tN "SUPPRESSED_SENTINEL" Bundle.listD)
    · rw [e2]; exact hN
    · by_cases e3 : w = .laysStatic Bundle.tN "UNASSIGNED_STACK" Bundle.steD
      · rw [e3]; exact lU
      · by_cases e4 : w = .laysStatic Bundle.tN "SUPPRESSED_SENTINEL" Bundle.listD
        · rw [e4]; exact lN
        · exact h1 w (List.mem_filter.mpr ⟨hw, by unfold vx_no; rw [decide_eq_true e1, decide_eq_true e2, decide_eq_true e3, decide_eq_true e4]; rfl⟩)
/-- where a static field lies, its class's statics cell in H -/
def vx_L (C n d : String) (A : Nat → Prop) (U : State) (H : Heap) : Prop := ∃ (c : ClassId) (k : Class) (i : Nat) (f : Field) (a : Nat) (cell : Cell), U.vm.findClass C = some c ∧ U.fieldFound? C n d = some (c, k, i, f) ∧ f.isStatic = true ∧ k.statics = some a ∧ H[a]? = some cell ∧ cell.vm.isStatics = true ∧ cell.cls = c ∧ f.slot < cell.slots.size ∧ k.staticTypes[f.slot]? = some f.type ∧ ¬ A a
theorem vx_L.moved {C n d : String} {A : Nat → Prop} {u U : State} {H : Heap} (hvm : u.vm.Alike U.vm) (h : vx_L C n d A u H) : vx_L C n d A U H := by
  obtain ⟨c, k, i, f, a, cell, h1, h2, h3, h4, h5, h6, h7, h8, h9, h10⟩ := h
  obtain ⟨k', hi', he⟩ := State.fieldFound?_setVm hvm h2
  exact ⟨c, k', i, f, a, cell, by rw [hvm.findClass]; exact h1, hi', h3, by rw [he]; exact h4, h5, h6, h7, h8, by rw [he]; exact h9, h10⟩
theorem vx_L.kept {C n d : String} {A : Nat → Prop} {U : State} {H H1 : Heap} (h : vx_L C n d A U H) (hq : ∀ a : Nat, a < H.size → ¬ A a → H1[a]? = H[a]?) : vx_L C n d A U H1 := by
  obtain ⟨c, k, i, f, a, cell, h1, h2, h3, h4, h5, h6, h7, h8, h9, h10⟩ := h
  exact ⟨c, k, i, f, a, cell, h1, h2, h3, h4, by rw [hq a (Array.getElem?_eq_some_iff.mp h5).1 h10]; exact h5, h6, h7, h8, h9, h10⟩
theorem vx_L.narrow {C n d : String} {A B : Nat → Prop} {U : State} {H : Heap} (h : vx_L C n d A U H) (hAB : ∀ q, B q → A q) : vx_L C n d B U H := by
  obtain ⟨c, k, i, f, a, cell, h1, h2, h3, h4, h5, h6, h7, h8, h9, h10⟩ := h
  exact ⟨c, k, i, f, a, cell, h1, h2, h3, h4, h5, h6, h7, h8, h9, fun z => h10 (hAB _ z)⟩
theorem vx_L.word {C n d : String} {A : Nat → Prop} {s : State} {args : Array Value} (h : vx_L C n d A s s.heap) : (Cond.laysStatic C n d).before args s = true := by
  obtain ⟨c, k, i, f, a, cell, h1, h2, h3, h4, h5, h6, h7, h8, h9, -⟩ := h
  show (Cond.laysStatic C n d).holds args s none s [] = true
  exact Cond.laysStatic_of h1 h2 h3 h4 h5 h6 h7 h8 h9
/-- .. and what it holds: null or some reference -/
def vx_Zq (C n d : String) (A : Nat → Prop) (U : State) (H : Heap) : Prop := va_Zq C n d A U H ∧ vx_L C n d A U H
theorem vx_Zq.moved {C n d : String} {A : Nat → Prop} {u U : State} {H : Heap} (hvm : u.vm.Alike U.vm) (h : vx_Zq C n d A u H) : vx_Zq C n d A U H := ⟨va_Zq.moved hvm h.1, vx_L.moved hvm h.2⟩
theorem vx_Zq.kept {C n d : String} {A : Nat → Prop} {U : State} {H H1 : Heap} (h : vx_Zq C n d A U H) (hq : ∀ a : Nat, a < H.size → ¬ A a → H1[a]? = H[a]?) : vx_Zq C n d A U H1 := ⟨va_Zq.kept h.1 hq, vx_L.kept h.2 hq⟩
theorem vx_Zq.narrow {C n d : String} {A B : Nat → Prop} {U : State} {H : Heap} (h : vx_Zq C n d A U H) (hAB : ∀ q, B q → A q) : vx_Zq C n d B U H := ⟨va_Zq.narrow h.1 hAB, vx_L.narrow h.2 hAB⟩
theorem vx_Zqof {args : Array Value} {s : State} {C n d : String} {A : Nat → Prop} (hl : (Cond.laysStatic C n d).before args s = true) (hini : (Cond.initialized C).before args s = true) (h : (Cond.isRef (.static C n d)).before args s = true) (hA : ∀ a : Nat, a < s.heap.size → ¬ A a) : vx_Zq C n d A s s.heap := by
  refine ⟨va_Zqof hl hini h hA, ?_⟩
  obtain ⟨c, k, i, f, a, cell, h1, h2, h3, h4, h5, h6, h7, h8, h9⟩ := Cond.laysStatic_spec hl
  exact ⟨c, k, i, f, a, cell, h1, h2, h3, h4, h5, h6, h7, h8, h9, hA a (Array.getElem?_eq_some_iff.mp h5).1⟩
theorem vx_isRef {C n d : String} {v : Value} {A : Nat → Prop} {s : State} {args : Array Value} (h : va_Z C n d v A s s.heap) (hv : v.isRef = true) : (Cond.isRef (.static C n d)).before args s = true := by
  obtain ⟨cf, kf, fi, f, a, cell, h1, h2, h3, h4, h5, h6, h7, -⟩ := h
  have he : (Term.static C n d).eval args s none [] s = some v := by
    simp [Term.eval, State.fieldNamed?, h1, h2, h4, h5, h6, h7]
  simp only [Cond.before, Cond.holds, Cond.value, he]
  cases v <;> simp_all [Value.isRef]
theorem vx_isRefq {C n d : String} {A : Nat → Prop} {s : State} {args : Array Value} (h : va_Zq C n d A s s.heap) : (Cond.isRef (.static C n d)).before args s = true := by
  rcases h with h | ⟨t, h⟩
  · exact vx_isRef h rfl
  · exact vx_isRef h rfl
/-- the same frame, seen from here: as if the method were called anew in this heap -/
theorem vx_rebase {T : State} (X : Stand p l e R s m args below meth c T locs cells slots) {R' : Room} (hf : R'.frames ≤ R.frames) (hl : R'.locals ≤ R.locals) (hc : cells + R'.cells ≤ R.cells) (hs : slots + R'.slots ≤ R.slots) :
    Stand p l e R' ((T.setVm s.vm).setFrames (.invoking m args :: below)) m args below meth c T [] 0 0 := by
  have htop : (T.setVm s.vm).topJava?.isSome := X.here.top
  have hF : ((T.setVm s.vm).setFrames (.invoking m args :: below)).frames = .invoking m args :: below := State.frames_setFrames _ (State.cur_lt_of_top htop)
  obtain ⟨g₀, hg0⟩ := Option.isSome_iff_exists.mp htop
  obtain ⟨r, hr⟩ := State.topJava?_eq_some.mp hg0
  have hl9 : e.platform.stackLimits (T.setVm s.vm).me = e.platform.stackLimits s.me := X.limits
  have hb9 : (T.setVm s.vm).me.stackBytes = s.me.stackBytes := X.bytes
  refine ⟨X.admits, X.cas, X.clock, hF, ?_, X.hears, X.method, X.code, X.here, X.tail, X.warmed, ?_, ?_, ?_⟩
  · have h := X.room
    have hU : ((T.setVm s.vm).setFrames (.invoking m args :: below)).localsInUse = s.localsInUse := by
      rw [State.localsInUse_invoking hF (meth := meth) (c := c) X.method X.code, State.localsInUse_invoking X.frames X.method X.code]
    simp only [State.hasRoom, Bool.and_eq_true, decide_eq_true_eq] at h ⊢
    obtain ⟨⟨⟨⟨h1, h2, h3, h4, h5, h6⟩, h7⟩, h8⟩, h9⟩ := h
    rw [X.frames, List.length_cons] at h2 h3
    have q1 := X.heapSize
    have q2 := X.used
    simp only [hF, hU, List.length_cons, State.stackLimits_setFrames, State.stackBytes_setFrames, hl9, hb9]
    refine ⟨⟨⟨⟨by omega, by omega, by omega, by omega, by omega, h6⟩, ?_⟩, ?_⟩, X.book⟩
    · show T.heap.size + R'.cells ≤ e.platform.maxCells
      omega
    · show T.slotsUsed + R'.slots ≤ e.platform.maxSlots
      omega
  · rw [State.stackLimits_setFrames]; rfl
  · rw [State.stackBytes_setFrames]; rfl
  · refine ⟨?_, Nat.le_refl _, Nat.le_refl _, ?_, ?_, fun a c9 h9 => ⟨c9, h9, rfl, rfl, fun _ _ => rfl⟩⟩
    · obtain ⟨t, ht, -⟩ := State.frames_cons hr
      show T.setVm s.vm = { ((T.setVm s.vm).setFrames (.invoking m args :: below)).setFrames (T.setVm s.vm).frames with heap := T.heap, slotsUsed := T.slotsUsed }
      rw [State.setFrames_setFrames, State.setFrames_self ht]
      rfl
    · show T.slotsUsed = T.slotsUsed + ((T.heap.toList.drop T.heap.size).map (·.slots.size)).sum
      rw [List.drop_eq_nil_of_le (Nat.le_of_eq Array.length_toList)]
      rfl
    · show ((T.heap.toList.drop T.heap.size).map (·.slots.size)).sum ≤ 0
      rw [List.drop_eq_nil_of_le (Nat.le_of_eq Array.length_toList)]
      exact Nat.le_refl _
/-- 'throw new E()': new; dup; invokespecial; athrow -/
theorem vx_throw0 {cc : ByteArray} {pc : Nat} (hexec : p.tables.exec = Jvm.exec) (hb : c.code = cc) (hl : l.stackTraces = false) {own cls : String} {names : List String} {ik ic mc ms : Nat} {A : Nat → Prop}
    (hown : s.vm.findClass own = some m.cls) (hcls : Bundle.fit cls = true) (hnames : ∀ n ∈ names, Bundle.fit n = true)
    (hk : (Cond.classLink own ik cls).before args s = true) (hini : (Cond.initialized cls).before args s = true) (hat : ∀ w ∈ vx_at0 own ic cls names, w.before args s = true)
    (hgood : ∀ w ∈ Cond.classLink own ik cls :: Cond.initialized cls :: vx_at0 own ic cls names, vx_ot w = true)
    (hU : vx_Zq Bundle.tN "UNASSIGNED_STACK" Bundle.steD A s s.heap) (hN : vx_Zq Bundle.tN "SUPPRESSED_SENTINEL" Bundle.listD A s s.heap) (hS : va_S A s.heap H locs) (hsize : ls.size = c.maxLocals)
    (d0 : decode cc pc = .ok (.new ik, 3)) (d3 : decode cc (pc + 3) = .ok (.dup, 1)) (d4 : decode cc (pc + 4) = .ok (.invokespecial ic, 3)) (d7 : decode cc (pc + 7) = .ok (.athrow, 1))
    (hout : ∀ x ∈ c.exceptionTable.toList, covers x (pc + 7) = false)
    (hRframes : names.length + 3 < R.frames) (hRlocals : (rest.map fun v => v.category).sum + (13 * (names.length + 1) + 42) ≤ R.locals) (hRcells : cells + 1 ≤ R.cells) (hRslots : slots + 6 ≤ R.slots) (hlocks : meth.locks = false)
    (hx : ∀ t : State, s.vm.Alike t.vm → H.size ≤ t.heap.size → (∀ q : Nat, q < H.size → t.heap[q]? = H[q]?) → XC cls s t)
    (hf : ∀ z ∈ locs, free z.base) (hc : cells + 1 ≤ mc) (hs : slots + 6 ≤ ms) :
    W p l e R s m args below meth c H locs cells slots (vx_MQ below Qc XC args s mc ms free) (F0 m pc ls rest) := by
  intro T hT X
  have htr : e.platform.stackTraces = false := (show e.platform.stackTraces = l.stackTraces by rw [X.admits.platform]).trans hl
  have Y := vx_rebase X (R' := { frames := R.frames, locals := R.locals, cells := 1, slots := 6 }) (Nat.le_refl _) (Nat.le_refl _) hRcells hRslots
  obtain ⟨s', hA⟩ : ∃ z, z = (T.setVm s.vm).setFrames (.invoking m args :: below) := ⟨_, rfl⟩
  rw [← hA] at Y
  have hvm : s'.vm = s.vm := by rw [hA]; rfl
  have hhp : s'.heap = H := by rw [hA]; exact hT
  have hW0 : s.WarmedH s'.vm := by rw [hvm]; exact State.WarmedH.refl s
  have hat' : ∀ w ∈ vx_at0 own ic cls names, w.before args s' = true := fun w hw => vx_ot_at hW0 hvm.symm (hgood w (List.mem_cons_of_mem _ (List.mem_cons_of_mem _ hw))) (hat w hw)
  have hk' : (Cond.classLink own ik cls).before args s' = true := vx_ot_at hW0 hvm.symm (hgood _ List.mem_cons_self) hk
  have hini' : (Cond.initialized cls).before args s' = true := vx_ot_at hW0 hvm.symm (hgood _ (List.mem_cons_of_mem _ List.mem_cons_self)) hini
  have hU' : vx_Zq Bundle.tN "UNASSIGNED_STACK" Bundle.steD A s' s'.heap := by rw [hhp]; exact vx_Zq.moved hW0.alike (hU.kept hS.2.1)
  have hN' : vx_Zq Bundle.tN "SUPPRESSED_SENTINEL" Bundle.listD A s' s'.heap := by rw [hhp]; exact vx_Zq.moved hW0.alike (hN.kept hS.2.1)
  have h : ∀ w ∈ Bundle.ownAtoms0 own ic cls names, w.before args s' = true := vx_own hat' (vx_isRefq hU'.1) (vx_isRefq hN'.1) hU'.2.word hN'.2.word
  have hown' : s'.vm.findClass own = some m.cls := by rw [hvm]; exact hown
  have hins : (Cond.instantiable cls 6).before args s' = true := h _ (by simp [Bundle.ownAtoms0])
  obtain ⟨vm₁, cX, kX, hfX, hkX, -, -, X₁, st1⟩ := Y.newCold hexec (own := own) (C := cls) (index := ik) (n := 6) hown' hk' hins hini'
    (g := F0 m pc ls rest) rfl (by rw [hb]; exact d0) (Nat.le_refl _) (Nat.le_refl _)
  generalize hT1 : (T.setVm vm₁).pushCell { cls := cX, slots := kX.instanceTypes.map defaultValue, vm := .none } = T1 at X₁ st1
  have hcat : (Value.ref T.heap.size).category = 1 := rfl
  have hcellA : T1.heap[T.heap.size]? = some (freshCell cX kX) := by rw [← hT1]; exact State.heap_pushCell_size _ _
  have d3' : decode c.code (pc + 3) = .ok (.dup, 1) := by rw [hb]; exact d3
  obtain ⟨U, hsteps, hrun, hend, hW, hsame, ce, hce, hO⟩ := X₁.ctorThrow0 hexec htr (own := own) (cls := cls) (names := names) (ic := ic) hown' hcls hnames h (fun x hx => nomatch hx) hfX hkX hcellA (by rw [hhp, hT]; exact Nat.le_refl _)
    (g := { method := m, pc := pc + 4, locals := ls, stack := .ref T.heap.size :: .ref T.heap.size :: rest, locked := none }) rfl hsize rfl rfl (rest := rest) rfl
    (by rw [hb]; exact d4) (by rw [hb]; exact d7) hout hRframes (by simp only [List.map_cons, List.sum_cons, hcat]; omega) hlocks
  obtain ⟨f1, f2⟩ := vx_frame hsame
  rw [hhp] at f1 f2
  have hWs : s.WarmedH U.vm := State.WarmedH.trans hW0 hW
  have hcl : s.vm.findClass cls = some ce.cls := by
    have h9 := hO.cls
    rw [hvm] at h9
    exact h9
  have hall : s.sameButNew ({ U with vm := s.vm } : State) locs mc ms := by
    subst hA
    obtain ⟨e1, e2⟩ := hsame
    rw [State.setFrames_setFrames] at e1
    have h2 : (T.setVm s.vm).sameButNew ({ U with vm := s.vm } : State) [] (0 + 1) (0 + 6) := ⟨e1, e2⟩
    have h3 := X.same.trans h2
    rw [List.append_nil] at h3
    exact h3.mono hc hs
  refine ⟨U, ?_, .threw T.heap.size, hrun, hend, Or.inr ⟨T.heap.size, rfl, cls, ce, locs, hx U hWs.alike f1 (fun q hq => f2 q hq (fun z hz => nomatch hz)), hce, hO.vm, hcl, hWs, hall, hf⟩⟩
  refine st1 _ ?_
  show Steps p.tables e below (T1.setTop { method := m, pc := pc + 3, locals := ls, stack := .ref T.heap.size :: rest, locked := none }) _
  jvm_step X₁.here [X₁.here.top, hexec, d3', Value.category]
  exact hsteps
/-- 'throw new E("text")': new; dup; ldc; invokespecial; athrow -/
theorem vx_throwS {cc : ByteArray} {pc : Nat} (hexec : p.tables.exec = Jvm.exec) (hb : c.code = cc) (hl : l.stackTraces = false) {own cls text : String} {names : List String} {ik is ic mc ms sa : Nat} {A : Nat → Prop}
    (hown : s.vm.findClass own = some m.cls) (hcls : Bundle.fit cls = true) (hnames : ∀ n ∈ names, Bundle.fit n = true)
    (hk : (Cond.classLink own ik cls).before args s = true) (hini : (Cond.initialized cls).before args s = true) (hstr : vk_R own is text sa s) (hat : ∀ w ∈ vx_atS own ic cls names, w.before args s = true)
    (hgood : ∀ w ∈ Cond.classLink own ik cls :: Cond.initialized cls :: vx_atS own ic cls names, vx_ot w = true)
    (hU : vx_Zq Bundle.tN "UNASSIGNED_STACK" Bundle.steD A s s.heap) (hN : vx_Zq Bundle.tN "SUPPRESSED_SENTINEL" Bundle.listD A s s.heap) (hS : va_S A s.heap H locs) (hsize : ls.size = c.maxLocals)
    (d0 : decode cc pc = .ok (.new ik, 3)) (d3 : decode cc (pc + 3) = .ok (.dup, 1)) (d4 : decode cc (pc + 4) = .ok (.ldc is, 2)) (d6 : decode cc (pc + 6) = .ok (.invokespecial ic, 3)) (d9 : decode cc (pc + 9) = .ok (.athrow, 1))
    (hout : ∀ x ∈ c.exceptionTable.toList, covers x (pc + 9) = false)
    (hRframes : names.length + 3 < R.frames) (hRlocals : (rest.map fun v => v.category).sum + (13 * (names.length + 1) + 43) ≤ R.locals) (hRcells : cells + 1 ≤ R.cells) (hRslots : slots + 6 ≤ R.slots) (hlocks : meth.locks = false)
    (hx : ∀ t : State, s.vm.Alike t.vm → H.size ≤ t.heap.size → (∀ q : Nat, q < H.size → t.heap[q]? = H[q]?) → XC cls s t)
    (hf : ∀ z ∈ locs, free z.base) (hc : cells + 1 ≤ mc) (hs : slots + 6 ≤ ms) :
    W p l e R s m args below meth c H locs cells slots (vx_MQ below Qc XC args s mc ms free) (F0 m pc ls rest) := by
  intro T hT X
  have htr : e.platform.stackTraces = false := (show e.platform.stackTraces = l.stackTraces by rw [X.admits.platform]).trans hl
  have Y := vx_rebase X (R' := { frames := R.frames, locals := R.locals, cells := 1, slots := 6 }) (Nat.le_refl _) (Nat.le_refl _) hRcells hRslots
  obtain ⟨s', hA⟩ : ∃ z, z = (T.setVm s.vm).setFrames (.invoking m args :: below) := ⟨_, rfl⟩
  rw [← hA] at Y
  have hvm : s'.vm = s.vm := by rw [hA]; rfl
  have hhp : s'.heap = H := by rw [hA]; exact hT
  have hW0 : s.WarmedH s'.vm := by rw [hvm]; exact State.WarmedH.refl s
  have hat' : ∀ w ∈ vx_atS own ic cls names, w.before args s' = true := fun w hw => vx_ot_at hW0 hvm.symm (hgood w (List.mem_cons_of_mem _ (List.mem_cons_of_mem _ hw))) (hat w hw)
  have hk' : (Cond.classLink own ik cls).before args s' = true := vx_ot_at hW0 hvm.symm (hgood _ List.mem_cons_self) hk
  have hini' : (Cond.initialized cls).before args s' = true := vx_ot_at hW0 hvm.symm (hgood _ (List.mem_cons_of_mem _ List.mem_cons_self)) hini
  have hU' : vx_Zq Bundle.tN "UNASSIGNED_STACK" Bundle.steD A s' s'.heap := by rw [hhp]; exact vx_Zq.moved hW0.alike (hU.kept hS.2.1)
  have hN' : vx_Zq Bundle.tN "SUPPRESSED_SENTINEL" Bundle.listD A s' s'.heap := by rw [hhp]; exact vx_Zq.moved hW0.alike (hN.kept hS.2.1)
  have h : ∀ w ∈ Bundle.ownAtoms own ic cls names, w.before args s' = true := vx_own hat' (vx_isRefq hU'.1) (vx_isRefq hN'.1) hU'.2.word hN'.2.word
  have hown' : s'.vm.findClass own = some m.cls := by rw [hvm]; exact hown
  have hins : (Cond.instantiable cls 6).before args s' = true := h _ (by simp [Bundle.ownAtoms])
  obtain ⟨vm₁, cX, kX, hfX, hkX, -, -, X₁, st1⟩ := Y.newCold hexec (own := own) (C := cls) (index := ik) (n := 6) hown' hk' hins hini'
    (g := F0 m pc ls rest) rfl (by rw [hb]; exact d0) (Nat.le_refl _) (Nat.le_refl _)
  generalize hT1 : (T.setVm vm₁).pushCell { cls := cX, slots := kX.instanceTypes.map defaultValue, vm := .none } = T1 at X₁ st1
  have hcat : (Value.ref T.heap.size).category = 1 := rfl
  have hcellA : T1.heap[T.heap.size]? = some (freshCell cX kX) := by rw [← hT1]; exact State.heap_pushCell_size _ _
  have d3' : decode c.code (pc + 3) = .ok (.dup, 1) := by rw [hb]; exact d3
  have d4' : decode c.code (pc + 4) = .ok (.ldc is, 2) := by rw [hb]; exact d4
  have hstr' : vk_R own is text sa s' := vk_R.warm hW0 hstr
  obtain ⟨U, hsteps, hrun, hend, hW, hsame, ce, hce, hO⟩ := X₁.ctorThrowS hexec htr (own := own) (cls := cls) (names := names) (ic := ic) hown' hcls hnames h (fun x hx => nomatch hx) hfX hkX hcellA (by rw [hhp, hT]; exact Nat.le_refl _) (msg := .ref sa) rfl
    (g := { method := m, pc := pc + 6, locals := ls, stack := .ref sa :: .ref T.heap.size :: .ref T.heap.size :: rest, locked := none }) rfl hsize rfl rfl (rest := rest) rfl
    (by rw [hb]; exact d6) (by rw [hb]; exact d9) hout hRframes (by simp only [List.map_cons, List.sum_cons, hcat]; omega) hlocks
  obtain ⟨f1, f2⟩ := vx_frame hsame
  rw [hhp] at f1 f2
  have hWs : s.WarmedH U.vm := State.WarmedH.trans hW0 hW
  have hcl : s.vm.findClass cls = some ce.cls := by
    have h9 := hO.cls
    rw [hvm] at h9
    exact h9
  have hall : s.sameButNew ({ U with vm := s.vm } : State) locs mc ms := by
    subst hA
    obtain ⟨e1, e2⟩ := hsame
    rw [State.setFrames_setFrames] at e1
    have h2 : (T.setVm s.vm).sameButNew ({ U with vm := s.vm } : State) [] (0 + 1) (0 + 6) := ⟨e1, e2⟩
    have h3 := X.same.trans h2
    rw [List.append_nil] at h3
    exact h3.mono hc hs
  refine ⟨U, ?_, .threw T.heap.size, hrun, hend, Or.inr ⟨T.heap.size, rfl, cls, ce, locs, hx U hWs.alike f1 (fun q hq => f2 q hq (fun z hz => nomatch hz)), hce, hO.vm, hcl, hWs, hall, hf⟩⟩
  refine st1 _ ?_
  show Steps p.tables e below (T1.setTop { method := m, pc := pc + 3, locals := ls, stack := .ref T.heap.size :: rest, locked := none }) _
  jvm_step X₁.here [X₁.here.top, hexec, d3', Value.category]
  exact X₁.ldcString hexec (own := own) (text := text) (index := is) (a := sa) hown' hstr'.1 hstr'.2
    (g := { method := m, pc := pc + 4, locals := ls, stack := .ref T.heap.size :: .ref T.heap.size :: rest, locked := none }) rfl d4' _ hsteps
/-- 'throw new E("text")', the text by a wide index -/
theorem vx_throwSW {cc : ByteArray} {pc : Nat} (hexec : p.tables.exec = Jvm.exec) (hb : c.code = cc) (hl : l.stackTraces = false) {own cls text : String} {names : List String} {ik is ic mc ms sa : Nat} {A : Nat → Prop}
    (hown : s.vm.findClass own = some m.cls) (hcls : Bundle.fit cls = true) (hnames : ∀ n ∈ names, Bundle.fit n = true)
    (hk : (Cond.classLink own ik cls).before args s = true) (hini : (Cond.initialized cls).before args s = true) (hstr : vk_R own is text sa s) (hat : ∀ w ∈ vx_atS own ic cls names, w.before args s = true)
    (hgood : ∀ w ∈ Cond.classLink own ik cls :: Cond.initialized cls :: vx_atS own ic cls names, vx_ot w = true)
    (hU : vx_Zq Bundle.tN "UNASSIGNED_STACK" Bundle.steD A s s.heap) (hN : vx_Zq Bundle.tN "SUPPRESSED_SENTINEL" Bundle.listD A s s.heap) (hS : va_S A s.heap H locs) (hsize : ls.size = c.maxLocals)
    (d0 : decode cc pc = .ok (.new ik, 3)) (d3 : decode cc (pc + 3) = .ok (.dup, 1)) (d4 : decode cc (pc + 4) = .ok (.ldc_w is, 3)) (d7 : decode cc (pc + 7) = .ok (.invokespecial ic, 3)) (d10 : decode cc (pc + 10) = .ok (.athrow, 1))
    (hout : ∀ x ∈ c.exceptionTable.toList, covers x (pc + 10) = false)
    (hRframes : names.length + 3 < R.frames) (hRlocals : (rest.map fun v => v.category).sum + (13 * (names.length + 1) + 43) ≤ R.locals) (hRcells : cells + 1 ≤ R.cells) (hRslots : slots + 6 ≤ R.slots) (hlocks : meth.locks = false)
    (hx : ∀ t : State, s.vm.Alike t.vm → H.size ≤ t.heap.size → (∀ q : Nat, q < H.size → t.heap[q]? = H[q]?) → XC cls s t)
    (hf : ∀ z ∈ locs, free z.base) (hc : cells + 1 ≤ mc) (hs : slots + 6 ≤ ms) :
    W p l e R s m args below meth c H locs cells slots (vx_MQ below Qc XC args s mc ms free) (F0 m pc ls rest) := by
  intro T hT X
  have htr : e.platform.stackTraces = false := (show e.platform.stackTraces = l.stackTraces by rw [X.admits.platform]).trans hl
  have Y := vx_rebase X (R' := { frames := R.frames, locals := R.locals, cells := 1, slots := 6 }) (Nat.le_refl _) (Nat.le_refl _) hRcells hRslots
  obtain ⟨s', hA⟩ : ∃ z, z = (T.setVm s.vm).setFrames (.invoking m args :: below) := ⟨_, rfl⟩
  rw [← hA] at Y
  have hvm : s'.vm = s.vm := by rw [hA]; rfl
  have hhp : s'.heap = H := by rw [hA]; exact hT
  have hW0 : s.WarmedH s'.vm := by rw [hvm]; exact State.WarmedH.refl s
  have hat' : ∀ w ∈ vx_atS own ic cls names, w.before args s' = true := fun w hw => vx_ot_at hW0 hvm.symm (hgood w (List.mem_cons_of_mem _ (List.mem_cons_of_mem _ hw))) (hat w hw)
  have hk' : (Cond.classLink own ik cls).before args s' = true := vx_ot_at hW0 hvm.symm (hgood _ List.mem_cons_self) hk
  have hini' : (Cond.initialized cls).before args s' = true := vx_ot_at hW0 hvm.symm (hgood _ (List.mem_cons_of_mem _ List.mem_cons_self)) hini
  have hU' : vx_Zq Bundle.tN "UNASSIGNED_STACK" Bundle.steD A s' s'.heap := by rw [hhp]; exact vx_Zq.moved hW0.alike (hU.kept hS.2.1)
  have hN' : vx_Zq Bundle.tN "SUPPRESSED_SENTINEL" Bundle.listD A s' s'.heap := by rw [hhp]; exact vx_Zq.moved hW0.alike (hN.kept hS.2.1)
  have h : ∀ w ∈ Bundle.ownAtoms own ic cls names, w.before args s' = true := vx_own hat' (vx_isRefq hU'.1) (vx_isRefq hN'.1) hU'.2.word hN'.2.word
  have hown' : s'.vm.findClass own = some m.cls := by rw [hvm]; exact hown
  have hins : (Cond.instantiable cls 6).before args s' = true := h _ (by simp [Bundle.ownAtoms])
  obtain ⟨vm₁, cX, kX, hfX, hkX, -, -, X₁, st1⟩ := Y.newCold hexec (own := own) (C := cls) (index := ik) (n := 6) hown' hk' hins hini'
    (g := F0 m pc ls rest) rfl (by rw [hb]; exact d0) (Nat.le_refl _) (Nat.le_refl _)
  generalize hT1 : (T.setVm vm₁).pushCell { cls := cX, slots := kX.instanceTypes.map defaultValue, vm := .none } = T1 at X₁ st1
  have hcat : (Value.ref T.heap.size).category = 1 := rfl
  have hcellA : T1.heap[T.heap.size]? = some (freshCell cX kX) := by rw [← hT1]; exact State.heap_pushCell_size _ _
  have d3' : decode c.code (pc + 3) = .ok (.dup, 1) := by rw [hb]; exact d3
  have d4' : decode c.code (pc + 4) = .ok (.ldc_w is, 3) := by rw [hb]; exact d4
  have hstr' : vk_R own is text sa s' := vk_R.warm hW0 hstr
  obtain ⟨U, hsteps, hrun, hend, hW, hsame, ce, hce, hO⟩ := X₁.ctorThrowS hexec htr (own := own) (cls := cls) (names := names) (ic := ic) hown' hcls hnames h (fun x hx => nomatch hx) hfX hkX hcellA (by rw [hhp, hT]; exact Nat.le_refl _) (msg := .ref sa) rfl
    (g := { method := m, pc := pc + 7, locals := ls, stack := .ref sa :: .ref T.heap.size :: .ref T.heap.size :: rest, locked := none }) rfl hsize rfl rfl (rest := rest) rfl
    (by rw [hb]; exact d7) (by rw [hb]; exact d10) hout hRframes (by simp only [List.map_cons, List.sum_cons, hcat]; omega) hlocks
  obtain ⟨f1, f2⟩ := vx_frame hsame
  rw [hhp] at f1 f2
  have hWs : s.WarmedH U.vm := State.WarmedH.trans hW0 hW
  have hcl : s.vm.findClass cls = some ce.cls := by
    have h9 := hO.cls
    rw [hvm] at h9
    exact h9
  have hall : s.sameButNew ({ U with vm := s.vm } : State) locs mc ms := by
    subst hA
    obtain ⟨e1, e2⟩ := hsame
    rw [State.setFrames_setFrames] at e1
    have h2 : (T.setVm s.vm).sameButNew ({ U with vm := s.vm } : State) [] (0 + 1) (0 + 6) := ⟨e1, e2⟩
    have h3 := X.same.trans h2
    rw [List.append_nil] at h3
    exact h3.mono hc hs
  refine ⟨U, ?_, .threw T.heap.size, hrun, hend, Or.inr ⟨T.heap.size, rfl, cls, ce, locs, hx U hWs.alike f1 (fun q hq => f2 q hq (fun z hz => nomatch hz)), hce, hO.vm, hcl, hWs, hall, hf⟩⟩
  refine st1 _ ?_
  show Steps p.tables e below (T1.setTop { method := m, pc := pc + 3, locals := ls, stack := .ref T.heap.size :: rest, locked := none }) _
  jvm_step X₁.here [X₁.here.top, hexec, d3', Value.category]
  exact X₁.ldcStringW hexec (own := own) (text := text) (index := is) (a := sa) hown' hstr'.1 hstr'.2
    (g := { method := m, pc := pc + 4, locals := ls, stack := .ref T.heap.size :: .ref T.heap.size :: rest, locked := none }) rfl d4' _ hsteps
end Ends
section Bodies
variable {l : Launch}
theorem vx_ofW {y : MethodName} {ws ws' : List Cond} {rm : Room} {Pc : Array Value → State → Prop} {Qc : Array Value → State → Outcome → State → Prop} {XC : String → State → State → Prop} {mc ms : Nat} {free : Addr → Prop} {cc : ByteArray} {maxL : Nat} {ret : Option FieldType}
    (hy : plainName y.cls = true) (hw : ws = Cond.code y cc maxL ret :: ws')
    (body : ∀ p e s m args below meth c s₁, BodyLoose p l y (headSpec ws rm) cc maxL ret e s m args below meth c s₁ → c.maxLocals = maxL → (∀ x ∈ c.exceptionTable.toList, False) → Pc args s →
      W p l e (headSpec ws rm).room s m args below meth c s.heap [] 0 0 (vx_MQ below Qc XC args s mc ms free) (entryFrame m args maxL)) : vx_Met l y ws rm Pc Qc XC mc ms free := by
  refine MetFree.of_bodyS (code := cc) (maxLocals := maxL) (ret := ret) hy ?_ ?_
  · intro args s m h hn
    obtain ⟨meth, c, h1, h2, h3, h4, h5, h6, -, -⟩ := Cond.code_spec hn (atoms_spec (ws := ws) h _ (by rw [hw]; exact List.mem_cons_self))
    exact ⟨meth, c, h1, h2, h3, h4, h5, h6⟩
  · intro p e s m args below meth c s₁ B hml hP _
    have hh0 : s₁.heap = s.heap := by rw [B.state]; rfl
    have ht : ∀ x ∈ c.exceptionTable.toList, False := by
      obtain ⟨meth9, c9, h1, h2, -, -, -, -, h7, -⟩ := Cond.code_spec B.named (atoms_spec (ws := ws) B.pre _ (by rw [hw]; exact List.mem_cons_self))
      cases Option.some.inj (h1.symm.trans B.method)
      cases Option.some.inj (h2.symm.trans (Stand.of_body B).code)
      intro x hx
      rw [Array.isEmpty_iff.mp h7] at hx
      cases hx
    obtain ⟨t, a1, o, b1, b2, b3⟩ := body p e s m args below meth c s₁ B hml ht hP s₁ hh0 (Stand.of_body B)
    exact ⟨t, o, a1, b1, b2, b3⟩
/-- the table of a body with handlers -/
theorem vx_table {p : Program} {x y : MethodName} {S : Spec} {cc bytes : ByteArray} {maxL maxL' : Nat} {ret ret' : Option FieldType} {e : Env} {s s₁ : State} {m : MethodId} {args : Array Value} {below : List Frame} {meth : Method} {c : Code} {hh : List (Nat × Nat × Nat × Nat)}
    (B : BodyLoose p l y S cc maxL ret e s m args below meth c s₁) (h : (Cond.codeWith y bytes maxL' ret' hh).before args s = true) : c.exceptionTable.toList = tableOf hh := by
  obtain ⟨m9, meth9, c9, hn9, h1, h2, -, -, h6, -⟩ := Cond.codeWith_spec h
  cases Option.some.inj (hn9.symm.trans B.named)
  cases Option.some.inj (h1.symm.trans B.method)
  cases Option.some.inj (h2.symm.trans (Stand.of_body B).code)
  rw [← h6, table_eq]
end Bodies
end VXA
/-! ===== END ===== -/
/-! ===== BEGIN a static call of a method with an exception table ===== -/
section VXS
variable {p : Program} {l : Launch} {e : Env} {R : Room} {s : State} {m : MethodId} {args : Array Value} {below : List Frame} {meth : Method} {c : Code} {T : State} {H : Heap} {locs : List Loc} {cells slots : Nat}
abbrev vx_CSW (R : Room) (s : State) (args : Array Value) (own : String) (index : Nat) (y : MethodName) (bytes : ByteArray) (maxL : Nat) (ret : Option FieldType) (hh : List (Nat × Nat × Nat × Nat)) (ws : List Cond) (rm : Room) (mc ms n : Nat) : Prop :=
  (rm.cells = mc ∧ rm.slots = ms ∧ rm.frames + 1 ≤ R.frames ∧ 8 + (maxL + 11) + rm.locals ≤ R.locals ∧ (∀ w ∈ ws, ∀ (a' : Array Value) (U : State), s.WarmedH U.vm → w.before a' U = true) ∧ Cond.codeWith y bytes maxL ret hh ∈ ws) ∧
  (Cond.codeWith y bytes maxL ret hh).before args s = true ∧ (Cond.initialized y.cls).before args s = true ∧ (y.cls ≠ "java/lang/invoke/MethodHandle" ∧ y.cls ≠ "java/lang/invoke/VarHandle") ∧
  (∀ sig, parseMethodDescriptor y.desc = some sig → n = sig.parameters.length) ∧ (Cond.methodLink own index y).before args s = true ∧ (Cond.static y).before args s = true
theorem vx_cwSW {own : String} {index maxL mc ms : Nat} {y : MethodName} {bytes : ByteArray} {ret : Option FieldType} {hh : List (Nat × Nat × Nat × Nat)} {Ts ws ws' : List Cond} {rm : Room} (n : Nat) (ht : ∀ w ∈ Ts, w.before args s = true) (hT : GoodIn Ts (va_wsS own index y ws)) (hw : ws = Cond.codeWith y bytes maxL ret hh :: ws') (hrc : rm.cells = mc) (hrs : rm.slots = ms)
    (hd : y.cls ≠ "java/lang/invoke/MethodHandle" ∧ y.cls ≠ "java/lang/invoke/VarHandle" ∧ (parseMethodDescriptor y.desc).map (fun d => d.parameters.length) = some n) (hR : rm.frames + 1 ≤ R.frames ∧ 8 + (maxL + 11) + rm.locals ≤ R.locals) :
    vx_CSW R s args own index y bytes maxL ret hh ws rm mc ms n := by
  have ok : ∀ w ∈ va_wsS own index y ws, w.before args s = true := fun w h => ht w (hT w h).1
  have hG : GoodIn Ts ws := fun w h => hT w (by unfold va_wsS; exact List.mem_append_right _ h)
  have hc : Cond.codeWith y bytes maxL ret hh ∈ ws := by rw [hw]; exact List.mem_cons_self
  refine ⟨⟨hrc, hrs, hR.1, hR.2, pay_in ht hG, hc⟩, ht _ (hG _ hc).1, ok _ (by simp [va_wsS]), ⟨hd.1, hd.2.1⟩, fun sig h => ?_, ok _ (by simp [va_wsS]), ok _ (by simp [va_wsS])⟩
  have h2 := hd.2.2
  rw [h] at h2
  exact (Option.some.inj h2).symm
theorem vx_callSW (X : Stand p l e R s m args below meth c T locs cells slots) (hexec : p.tables.exec = Jvm.exec) {own : String} {index : Nat} {y : MethodName} {bytes : ByteArray} {maxL : Nat} {ret : Option FieldType} {hh : List (Nat × Nat × Nat × Nat)}
    (hown : s.vm.findClass own = some m.cls) (hlink : (Cond.methodLink own index y).before args s = true) (hstat : (Cond.static y).before args s = true) (hinit : (Cond.initialized y.cls).before args s = true)
    (hcode : (Cond.codeWith y bytes maxL ret hh).before args s = true) (hy : y.cls ≠ "java/lang/invoke/MethodHandle" ∧ y.cls ≠ "java/lang/invoke/VarHandle")
    {W9 : Nat} {Pre : Pt → Array Value → Prop} {Post : Pt → Array Value → Option Value → Pt → Prop} (hK : Back l R p e below s args y 3 W9 Pre Post)
    {g : JFrame} (hg : g.method = m) (hsize : g.locals.size = c.maxLocals) {argsL rest : List Value} (hlen : ∀ sig, parseMethodDescriptor y.desc = some sig → argsL.length = sig.parameters.length)
    (hstack : g.stack = argsL.reverse ++ rest) (hW : 2 * g.monitorRoom + (rest.map fun v => v.category).sum ≤ W9) (hdg : decode c.code g.pc = .ok (.invokestatic index, 3))
    (hpre : ∀ vm₁, s.WarmedH vm₁ → Pre ⟨T.setVm vm₁, locs, cells, slots⟩ argsL.toArray) :
    ∃ (v : Option Value) (vm₁ : Vm) (B : Pt), s.WarmedH vm₁ ∧ Stand p l e R s m args below meth c B.U B.locs B.cells B.slots ∧ Post ⟨T.setVm vm₁, locs, cells, slots⟩ argsL.toArray v B ∧
      ∀ target, Steps p.tables e below (B.U.setTop { g with pc := g.pc + 3, stack := v.toList ++ rest }) target → Steps p.tables e below (T.setTop g) target := by
  obtain ⟨mk, methM, cM, hnamed, hmethM, -, -, -, -, -, -, hsigM⟩ := Cond.codeWith_spec hcode
  have hstatic : methM.isStatic = true := Cond.static_spec hnamed hmethM hstat
  obtain ⟨kP, hkP, -⟩ := className_of_methodNamed hnamed
  have hinitP : kP.init = .initialized := Cond.initialized_spec (findClass_of_methodNamed hnamed) hkP hinit
  obtain ⟨vm₁, X₁, hstep₁⟩ := X.invokestatic hexec hown hlink hnamed hmethM hstatic hkP hinitP hy (g := g) hg (argsL := argsL) (rest := rest) (hlen _ hsigM) hstack hdg
  obtain ⟨v, B, X', hpost, hsteps⟩ := hK m meth c ⟨T.setVm vm₁, locs, cells, slots⟩ { g with stack := rest } (.invokestatic index) mk argsL.toArray X₁ hg hsize hdg hW (X₁.named hnamed) (hpre vm₁ X₁.warmed)
  exact ⟨v, vm₁, B, X₁.warmed, X', hpost, fun target h => hstep₁ _ fun acts => by rw [doInvoke_state]; exact hsteps.trans h⟩
theorem vx_runSW {y : MethodName} {bytes cc : ByteArray} {maxL nL mc ms n index : Nat} {ret : Option FieldType} {hh : List (Nat × Nat × Nat × Nat)} {ws : List Cond} {rm : Room} {Pc : Array Value → State → Prop} {Qc : Array Value → State → Outcome → State → Prop} {free : Addr → Prop} {Ts : List Cond} {own : String} {As rest : List Value} {g : JFrame}
    (S : CallFix p m c cc nL s args Ts own) (hM : Met l y ws rm Pc Qc mc ms free) (cw : vx_CSW R s args own index y bytes maxL ret hh ws rm mc ms n) (hp : PreS s H Pc As)
    (hg : g.method = m) (hn : As.length = n) (hsize : g.locals.size = nL) (hstack : g.stack = As.reverse ++ rest) (hW : 2 * g.monitorRoom + (rest.map fun v => v.category).sum ≤ 8) (hdg : decode cc g.pc = .ok (.invokestatic index, 3)) (hf : cells + mc ≤ R.cells ∧ slots + ms ≤ R.slots) :
    va_Run p l e R s m args below meth c H locs cells slots mc ms g rest (Qc As.toArray) (free) := by
  obtain ⟨⟨hrc, hrs, hfr, hlo, hws, hcw⟩, hcode, hini, hy, hlen, hl, hstt⟩ := cw
  have hK : Back l R p e below s args y 3 8 (PreOf R mc ms Pc) (PostOf Qc mc ms free) := va_backW (hh := hh) (bytes := bytes) (maxL := maxL) (ret := ret) hM hp.1 hrc hrs hfr hlo hws hcw (fun a' U hW => word_at hW (Or.inl (by first | rfl | simp [Cond.onTables, Cond.keeps, Cond.steady])) hini)
  obtain ⟨hx, hb, hml, ho, -⟩ := S
  intro T hT X
  obtain ⟨v, vm₁, ⟨U', l2, c2, s2⟩, hW₁, X', ⟨g', mk, t, L, e1, e2, hq, h1, hL, h2, h3⟩, st⟩ := vx_callSW X hx (hh := hh) (bytes := bytes) (maxL := maxL) (ret := ret) ho hl hstt hini hcode hy hK hg (hsize.trans hml.symm) (argsL := As) (rest := rest) (fun sig h => hn.trans (hlen sig h)) hstack hW (by rw [hb]; exact hdg)
    (fun vm₁ hW₁ => ⟨hf.1, hf.2, hp.2 (T.setVm vm₁) hT hW₁⟩)
  dsimp only [Pt.U, Pt.locs, Pt.cells, Pt.slots] at X' e1 e2 h1 h2 h3 st
  subst h1; subst h2; subst h3
  exact ⟨v, (T.setVm vm₁).calling g' mk As.toArray, t, U', L, hT, X', hL, e1, e2, hq, st⟩
/-- not caught here, past rows that name other classes: it goes on to the caller -/
theorem vx_outP {p : Program} {l : Launch} {e : Env} {R : Room} {s : State} {m : MethodId} {args : Array Value} {below : List Frame} {meth : Method} {c : Code} {H : Heap} {locs : List Loc} {cells slots : Nat} {free : Addr → Prop} {ls : Array Slot} {rest : List Value} {Qc : Array Value → State → Outcome → State → Prop} {XC : String → State → State → Prop}
    {pc : Nat} {own E : String} {ce : Cell} {q : Addr} {mc ms : Nat} (hown : s.vm.findClass own = some m.cls) (hlocks : meth.locks = false)
    (hpass : ∀ z ∈ c.exceptionTable.toList, covers z pc = false ∨ (z.catchType ≠ 0 ∧ ∃ nm : String, (Cond.classLink own z.catchType nm).before args s = true ∧ va_Nc E nm s)) (hcell : H[q]? = some ce) (hv : ce.vm = .none) (hcl : s.vm.findClass E = some ce.cls)
    (hx : ∀ t : State, t.heap = H → s.vm.Alike t.vm → XC E s t) (hf : ∀ z ∈ locs, free z.base) (hc : cells ≤ mc) (hs : slots ≤ ms) :
    vx_W p l e R s m args below meth c H locs cells slots (vx_MQ below Qc XC args s mc ms free) (F0 m pc ls rest) q := by
  intro T hT X
  have hpl : e.platform.magicAccessors = ({} : Platform).magicAccessors := by rw [X.admits.platform]
  obtain ⟨vm', hW', X', st⟩ := X.outThrough hlocks q (g := F0 m pc ls rest) rfl rfl rfl (cell := ce) (by rw [hT]; exact hcell) (by rw [hv]; rfl)
    (by obtain ⟨k9, h9, -⟩ := Vm.findClass_spec hcl; exact ⟨k9, h9⟩) (fun z hz => by
      rcases hpass z hz with h | ⟨hz0, nm, hl1, hn1⟩
      · exact Or.inl h
      · obtain ⟨c6, hc6, hcl6⟩ := Cond.classLink_spec hown hl1 e.platform hpl
        obtain ⟨a8, b8, h1, h2, h3⟩ := hn1
        cases Option.some.inj (h1.symm.trans hcl)
        cases Option.some.inj (h2.symm.trans hc6)
        exact Or.inr ⟨hz0, _, hcl6, h3⟩)
  obtain ⟨g₀, hfr⟩ := X'.frames_eq
  have hcell9 : ((T.setVm vm').setFrames (.throwing q :: below)).heap[q]? = some ce := by
    show T.heap[q]? = some ce
    rw [hT]; exact hcell
  have hend : Ended ((T.setVm vm').setFrames (.throwing q :: below)) below (.threw q) := State.frames_setFrames _ (State.cur_lt_of_frames hfr)
  refine ⟨(T.setVm vm').setFrames (.throwing q :: below), ?_, .threw q, X'.here.running, hend, Or.inr ⟨q, rfl, E, ce, locs, hx _ hT (X'.ends _).1.alike, hcell9, hv, hcl, (X'.ends _).1, (X'.ends _).2.mono hc hs, hf⟩⟩
  rw [X.pushThrowing_eq]
  exact st
/-- a thing of a world lies in the heap -/
theorem vx_lt {D : va_G} {cl : List vw_C} {ws : va_W} {H1 : Heap} (h : va_P D cl ws H1) {k : Nat} {q : Nat × va_E} (hk : ws[k]? = some q) : q.1 < H1.size := (h k q hk).lt
end VXS
/-! ===== END ===== -/
/-! ===== BEGIN methods with a table of their own: called by a name, returning or throwing ===== -/
section VXH
/-! vx_backW, vx_callVX, vx_callSX, vx_callVW, vx_runVW, vx_runVX, vx_runSX, vx_ofWH follow the same proofs as their sisters above (Free/Laws.lean, Shelf42/LK1.lean); vx_outP calls Shelf42/NT130.lean (outThrough). -/
section
variable {l : Launch} {R : Room} {p : Program} {e : Env} {below : List Frame} {s : State} {sargs : Array Value} {y : MethodName} {len W9 : Nat}
theorem vx_backW {ws : List Cond} {rm : Room} {Pc : Array Value → State → Prop} {Qc : Array Value → State → Outcome → State → Prop} {XC : String → State → State → Prop} {mc ms : Nat} {free : Addr → Prop} {bytes : ByteArray} {maxL : Nat} {ret : Option FieldType} {hh : List (Nat × Nat × Nat × Nat)}
    (hM : vx_Met l y ws rm Pc Qc XC mc ms free) (hblind : FrameBlind Pc) (hrc : rm.cells = mc) (hrs : rm.slots = ms)
    (hframes : rm.frames + 1 ≤ R.frames) (hlocals : W9 + (maxL + 11) + rm.locals ≤ R.locals)
    (hws : ∀ w ∈ ws, ∀ a' U, s.WarmedH U.vm → w.before a' U = true) (hcode : Cond.codeWith y bytes maxL ret hh ∈ ws) (hinit : ∀ a' U, s.WarmedH U.vm → (Cond.initialized y.cls).before a' U = true) :
    vx_Back l R p e below s sargs y len W9 (PreOf R mc ms Pc) (PostOf Qc mc ms free) (vx_Post XC mc ms free) := by
  intro m meth c A g ig mk a X hg hsize hdg hW hn hp
  have h1 : (headSpec ws rm).pre.before a A.U = true := atoms_intro fun w hw => hws w hw _ _ X.warmed
  have h2 : (Cond.codeWith y bytes maxL ret hh).before a A.U = true := hws _ hcode _ _ X.warmed
  have h3 : (Cond.initialized y.cls).before a A.U = true := hinit _ _ X.warmed
  have h4 : A.cells + (headSpec ws rm).room.cells ≤ R.cells := by rw [show (headSpec ws rm).room.cells = mc from hrc]; exact hp.1
  have h5 : A.slots + (headSpec ws rm).room.slots ≤ R.slots := by rw [show (headSpec ws rm).room.slots = ms from hrs]; exact hp.2.1
  have hPc : Pc a (A.U.calling g mk a) := hblind _ _ _ _ hp.2.2
  obtain ⟨U, Ls, c0, s0⟩ := A
  dsimp only [Pt.U, Pt.locs, Pt.cells, Pt.slots] at h1 h2 h3 h4 h5 X hn hPc ⊢
  obtain ⟨m9, methY, cY, hn9, hmY, hcY, -, hlY, -⟩ := Cond.codeWith_spec h2
  cases Option.some.inj (hn9.symm.trans hn)
  obtain ⟨kY, hkY, -⟩ := className_of_methodNamed hn
  have hinitY : kY.init = .initialized := Cond.initialized_spec (findClass_of_methodNamed hn) hkY h3
  have h : At U g.method c below := by rw [hg]; exact X.here
  have hlocals9 : W9 + (maxL + 11) + (headSpec ws rm).room.locals ≤ R.locals := hlocals
  have happ : (headSpec ws rm).appliesLoose y e.platform (U.calling g mk a) = true :=
    Spec.appliesLoose_calling (g := g) h hdg hn hkY hinitY
      (X.room_calling (g := g) (R' := (headSpec ws rm).room) hsize hmY hcY hframes (by rw [hlY]; omega) h4 h5) h1
  obtain ⟨mid, hmid⟩ := h.above
  have hfr : (U.setTop g).frames = (.java g :: mid) ++ below := by rw [State.frames_setTop' g h.top, hmid]; rfl
  obtain ⟨o, s₂, hsteps, -, hend, hq⟩ := Steps.callFree hM p X.admits X.cas X.clock (acts := []) hfr happ hPc trivial
  have hq' : vx_Q Qc XC mc ms free a (U.calling g mk a) o s₂ := hq
  rw [State.frames_setTop' g h.top] at hend
  obtain ⟨g₀, hg0⟩ := Option.isSome_iff_exists.mp h.top
  obtain ⟨r, hr⟩ := State.topJava?_eq_some.mp hg0
  have hr' : (({ U with heap := s₂.heap, slotsUsed := s₂.slotsUsed } : State).setVm s₂.vm).frames = .java g₀ :: r := hr
  rcases hq' with ⟨hqc, L, hfe, hL⟩ | ⟨q, rfl, E, ce, L, hx, hce, hcv, hcl, hW₂, hsm, hL⟩
  · obtain ⟨⟨v, rfl⟩, hW₂, e2, q2, q3, q4, q5, q6⟩ := id hfe
    have e3 : s₂ = ({ (U.calling g mk a).setFrames s₂.frames with heap := s₂.heap, slotsUsed := s₂.slotsUsed } : State).setVm s₂.vm := by
      have : s₂ = ({ s₂ with vm := (U.calling g mk a).vm } : State).setVm s₂.vm := rfl
      rw [e2] at this
      exact this
    obtain ⟨c₂, i₂, len₂, hc₂, hd₂, hf₂⟩ := hend
    have hW' : U.WarmedH s₂.vm := hW₂
    have hcc : c₂ = c := by
      have h1 : s₂.code? g.method = U.code? g.method := by
        rw [State.code?_eq, State.code?_eq, hW'.alike.method?]
      exact Option.some.inj (hc₂.symm.trans (h1.trans h.code))
    subst hcc
    have hlen : len₂ = len := by rw [hdg] at hd₂; cases hd₂; rfl
    subst hlen
    have hs₂ : s₂ = (({ U with heap := s₂.heap, slotsUsed := s₂.slotsUsed } : State).setVm s₂.vm).setTop { g with pc := g.pc + len₂, stack := v.toList ++ g.stack } := by
      refine e3.trans ?_
      rw [hf₂, State.calling_eq h.top, State.setFrames_setFrames, State.setTop_of_frames _ hr', hr]
      rfl
    have hsame : U.sameButNew ({ U with heap := s₂.heap, slotsUsed := s₂.slotsUsed } : State) L mc ms := by
      refine ⟨?_, q2, q3, q4, q5, q6⟩
      obtain ⟨t, ht, -⟩ := State.frames_cons hr
      show ({ U with heap := s₂.heap, slotsUsed := s₂.slotsUsed } : State) = { U.setFrames U.frames with heap := s₂.heap, slotsUsed := s₂.slotsUsed }
      rw [State.setFrames_self ht]
    subst hg
    refine Or.inl ⟨v, ⟨(({ U with heap := s₂.heap, slotsUsed := s₂.slotsUsed } : State).setVm s₂.vm), Ls ++ L, c0 + mc, s0 + ms⟩,
      ⟨X.admits, X.cas, X.clock, X.frames, X.room, X.hears, X.method, X.code, (X.here.setHeapUsed s₂.heap s₂.slotsUsed).setVm hW'.alike, X.tail, State.WarmedH.trans X.warmed hW', X.limits, X.bytes, X.same.trans (hsame.setVm s.vm)⟩,
      ⟨g, mk, s₂, L, rfl, rfl, hqc, rfl, hL, rfl, rfl⟩, ?_⟩
    show Steps p.tables e below _ ((({ U with heap := s₂.heap, slotsUsed := s₂.slotsUsed } : State).setVm s₂.vm).setTop { g with pc := g.pc + len₂, stack := v.toList ++ g.stack })
    rw [← hs₂]
    exact hsteps
  · obtain ⟨e2, q2, q3, q4, q5, q6⟩ := id hsm
    have e3 : s₂ = ({ (U.calling g mk a).setFrames s₂.frames with heap := s₂.heap, slotsUsed := s₂.slotsUsed } : State).setVm s₂.vm := by
      have : s₂ = ({ s₂ with vm := (U.calling g mk a).vm } : State).setVm s₂.vm := rfl
      rw [e2] at this
      exact this
    have hf₂ : s₂.frames = .throwing q :: .java g :: U.frames.tail := hend
    have hW' : U.WarmedH s₂.vm := hW₂
    have hs₂ : s₂ = ((({ U with heap := s₂.heap, slotsUsed := s₂.slotsUsed } : State).setVm s₂.vm).setTop g).pushFrame (.throwing q) := by
      refine e3.trans ?_
      rw [hf₂, State.calling_eq h.top, State.setFrames_setFrames, State.pushFrame, State.frames_setTop _ hr', State.setTop_of_frames _ hr', State.setFrames_setFrames, hr]
      rfl
    have hsame : U.sameButNew ({ U with heap := s₂.heap, slotsUsed := s₂.slotsUsed } : State) L mc ms := by
      refine ⟨?_, q2, q3, q4, q5, q6⟩
      obtain ⟨t, ht, -⟩ := State.frames_cons hr
      show ({ U with heap := s₂.heap, slotsUsed := s₂.slotsUsed } : State) = { U.setFrames U.frames with heap := s₂.heap, slotsUsed := s₂.slotsUsed }
      rw [State.setFrames_self ht]
    subst hg
    refine Or.inr ⟨q, ⟨(({ U with heap := s₂.heap, slotsUsed := s₂.slotsUsed } : State).setVm s₂.vm), Ls ++ L, c0 + mc, s0 + ms⟩,
      ⟨X.admits, X.cas, X.clock, X.frames, X.room, X.hears, X.method, X.code, (X.here.setHeapUsed s₂.heap s₂.slotsUsed).setVm hW'.alike, X.tail, State.WarmedH.trans X.warmed hW', X.limits, X.bytes, X.same.trans (hsame.setVm s.vm)⟩,
      ⟨g, mk, s₂, L, E, ce, rfl, rfl, hx, hce, hcv, hcl, rfl, hL, rfl, rfl⟩, ?_⟩
    show Steps p.tables e below _ (((({ U with heap := s₂.heap, slotsUsed := s₂.slotsUsed } : State).setVm s₂.vm).setTop g).pushFrame (.throwing q))
    rw [← hs₂]
    exact hsteps
end
variable {p : Program} {l : Launch} {e : Env} {R : Room} {s : State} {m : MethodId} {args : Array Value} {below : List Frame} {meth : Method} {c : Code} {T : State} {H : Heap} {locs : List Loc} {cells slots : Nat}
theorem vx_callVX (X : Stand p l e R s m args below meth c T locs cells slots) (hexec : p.tables.exec = Jvm.exec) {own C : String} {index : Nat} {y : MethodName} {bytes : ByteArray} {maxL : Nat} {ret : Option FieldType} {hh : List (Nat × Nat × Nat × Nat)}
    (hown : s.vm.findClass own = some m.cls) (hlink : (Cond.methodLink own index y).before args s = true) (hinst : (Cond.instanceMethod y).before args s = true) (hsel : (Cond.selects C y y).before args s = true)
    (hcode : (Cond.codeWith y bytes maxL ret hh).before args s = true) (hy : y.cls ≠ "java/lang/invoke/MethodHandle" ∧ y.cls ≠ "java/lang/invoke/VarHandle")
    {W9 : Nat} {Pre : Pt → Array Value → Prop} {Post : Pt → Array Value → Option Value → Pt → Prop} {PostX : Pt → Array Value → Addr → Pt → Prop} (hK : vx_Back l R p e below s args y 3 W9 Pre Post PostX)
    {b : Addr} {cellB : Cell} (hcell : T.heap[b]? = some cellB) (hobj : cellB.vm.isStatics = false) (hcls : s.vm.findClass C = some cellB.cls)
    {g : JFrame} (hg : g.method = m) (hsize : g.locals.size = c.maxLocals) {argsL rest : List Value} (hlen : ∀ sig, parseMethodDescriptor y.desc = some sig → argsL.length = sig.parameters.length)
    (hstack : g.stack = argsL.reverse ++ .ref b :: rest) (hW : 2 * g.monitorRoom + (rest.map fun v => v.category).sum ≤ W9) (hdg : decode c.code g.pc = .ok (.invokevirtual index, 3))
    (hpre : ∀ vm₁, s.WarmedH vm₁ → Pre ⟨T.setVm vm₁, locs, cells, slots⟩ (Value.ref b :: argsL).toArray) :
    (∃ (v : Option Value) (vm₁ : Vm) (B : Pt), s.WarmedH vm₁ ∧ Stand p l e R s m args below meth c B.U B.locs B.cells B.slots ∧ Post ⟨T.setVm vm₁, locs, cells, slots⟩ (Value.ref b :: argsL).toArray v B ∧
      ∀ target, Steps p.tables e below (B.U.setTop { g with pc := g.pc + 3, stack := v.toList ++ rest }) target → Steps p.tables e below (T.setTop g) target) ∨
    (∃ (q : Addr) (vm₁ : Vm) (B : Pt), s.WarmedH vm₁ ∧ Stand p l e R s m args below meth c B.U B.locs B.cells B.slots ∧ PostX ⟨T.setVm vm₁, locs, cells, slots⟩ (Value.ref b :: argsL).toArray q B ∧
      Steps p.tables e below (T.setTop g) ((B.U.setTop { g with stack := rest }).pushFrame (.throwing q))) := by
  obtain ⟨mk, methM, hnamed, hmethM, hstM, habM⟩ := Cond.instanceMethod_spec hinst
  obtain ⟨m8, methM', cM, hn8, hmethM', -, -, -, -, -, -, hsigM⟩ := Cond.codeWith_spec hcode
  cases Option.some.inj (hn8.symm.trans hnamed)
  cases hmethM.symm.trans hmethM'
  obtain ⟨c2, r2, m2, q1, q2, q3, q4, kP, hkP, hkPi⟩ := Cond.selects_spec hsel
  cases hcls.symm.trans q1
  cases (State.methodFound?_of_named hnamed hy).symm.trans q2
  cases hnamed.symm.trans q3
  have hselP : selectMethod e.platform s.vm cellB.cls mk = .method mk := by rw [Launch.admits_selectMethod X.admits]; exact q4
  obtain ⟨vm₁, X₁, hstep₁⟩ := X.invokevirtual hexec hown hlink hnamed hmethM hstM hkP hkPi hy (a := b) (cell := cellB) hcell
    (fun z h => by rw [h] at hobj; cases hobj) hselP hmethM habM hkP hkPi (g := g) hg (argsL := argsL) (rest := rest) (hlen _ hsigM) hstack hdg
  rcases hK m meth c ⟨T.setVm vm₁, locs, cells, slots⟩ { g with stack := rest } (.invokevirtual index) mk (Value.ref b :: argsL).toArray X₁ hg hsize hdg hW (X₁.named hnamed) (hpre vm₁ X₁.warmed) with ⟨v, B, X', hpost, hsteps⟩ | ⟨q, B, X', hpost, hsteps⟩
  · exact Or.inl ⟨v, vm₁, B, X₁.warmed, X', hpost, fun target h => hstep₁ _ fun acts => by rw [doInvoke_state]; exact hsteps.trans h⟩
  · exact Or.inr ⟨q, vm₁, B, X₁.warmed, X', hpost, hstep₁ _ fun acts => by rw [doInvoke_state]; exact hsteps⟩
theorem vx_callSX (X : Stand p l e R s m args below meth c T locs cells slots) (hexec : p.tables.exec = Jvm.exec) {own : String} {index : Nat} {y : MethodName} {bytes : ByteArray} {maxL : Nat} {ret : Option FieldType} {hh : List (Nat × Nat × Nat × Nat)}
    (hown : s.vm.findClass own = some m.cls) (hlink : (Cond.methodLink own index y).before args s = true) (hstat : (Cond.static y).before args s = true) (hinit : (Cond.initialized y.cls).before args s = true)
    (hcode : (Cond.codeWith y bytes maxL ret hh).before args s = true) (hy : y.cls ≠ "java/lang/invoke/MethodHandle" ∧ y.cls ≠ "java/lang/invoke/VarHandle")
    {W9 : Nat} {Pre : Pt → Array Value → Prop} {Post : Pt → Array Value → Option Value → Pt → Prop} {PostX : Pt → Array Value → Addr → Pt → Prop} (hK : vx_Back l R p e below s args y 3 W9 Pre Post PostX)
    {g : JFrame} (hg : g.method = m) (hsize : g.locals.size = c.maxLocals) {argsL rest : List Value} (hlen : ∀ sig, parseMethodDescriptor y.desc = some sig → argsL.length = sig.parameters.length)
    (hstack : g.stack = argsL.reverse ++ rest) (hW : 2 * g.monitorRoom + (rest.map fun v => v.category).sum ≤ W9) (hdg : decode c.code g.pc = .ok (.invokestatic index, 3))
    (hpre : ∀ vm₁, s.WarmedH vm₁ → Pre ⟨T.setVm vm₁, locs, cells, slots⟩ argsL.toArray) :
    (∃ (v : Option Value) (vm₁ : Vm) (B : Pt), s.WarmedH vm₁ ∧ Stand p l e R s m args below meth c B.U B.locs B.cells B.slots ∧ Post ⟨T.setVm vm₁, locs, cells, slots⟩ argsL.toArray v B ∧
      ∀ target, Steps p.tables e below (B.U.setTop { g with pc := g.pc + 3, stack := v.toList ++ rest }) target → Steps p.tables e below (T.setTop g) target) ∨
    (∃ (q : Addr) (vm₁ : Vm) (B : Pt), s.WarmedH vm₁ ∧ Stand p l e R s m args below meth c B.U B.locs B.cells B.slots ∧ PostX ⟨T.setVm vm₁, locs, cells, slots⟩ argsL.toArray q B ∧
      Steps p.tables e below (T.setTop g) ((B.U.setTop { g with stack := rest }).pushFrame (.throwing q))) := by
  obtain ⟨mk, methM, cM, hnamed, hmethM, -, -, -, -, -, -, hsigM⟩ := Cond.codeWith_spec hcode
  have hstatic : methM.isStatic = true := Cond.static_spec hnamed hmethM hstat
  obtain ⟨kP, hkP, -⟩ := className_of_methodNamed hnamed
  have hinitP : kP.init = .initialized := Cond.initialized_spec (findClass_of_methodNamed hnamed) hkP hinit
  obtain ⟨vm₁, X₁, hstep₁⟩ := X.invokestatic hexec hown hlink hnamed hmethM hstatic hkP hinitP hy (g := g) hg (argsL := argsL) (rest := rest) (hlen _ hsigM) hstack hdg
  rcases hK m meth c ⟨T.setVm vm₁, locs, cells, slots⟩ { g with stack := rest } (.invokestatic index) mk argsL.toArray X₁ hg hsize hdg hW (X₁.named hnamed) (hpre vm₁ X₁.warmed) with ⟨v, B, X', hpost, hsteps⟩ | ⟨q, B, X', hpost, hsteps⟩
  · exact Or.inl ⟨v, vm₁, B, X₁.warmed, X', hpost, fun target h => hstep₁ _ fun acts => by rw [doInvoke_state]; exact hsteps.trans h⟩
  · exact Or.inr ⟨q, vm₁, B, X₁.warmed, X', hpost, hstep₁ _ fun acts => by rw [doInvoke_state]; exact hsteps⟩
theorem vx_callVW (X : Stand p l e R s m args below meth c T locs cells slots) (hexec : p.tables.exec = Jvm.exec) {own C : String} {index : Nat} {y : MethodName} {bytes : ByteArray} {maxL : Nat} {ret : Option FieldType} {hh : List (Nat × Nat × Nat × Nat)}
    (hown : s.vm.findClass own = some m.cls) (hlink : (Cond.methodLink own index y).before args s = true) (hinst : (Cond.instanceMethod y).before args s = true) (hsel : (Cond.selects C y y).before args s = true)
    (hcode : (Cond.codeWith y bytes maxL ret hh).before args s = true) (hy : y.cls ≠ "java/lang/invoke/MethodHandle" ∧ y.cls ≠ "java/lang/invoke/VarHandle")
    {W9 : Nat} {Pre : Pt → Array Value → Prop} {Post : Pt → Array Value → Option Value → Pt → Prop} (hK : Back l R p e below s args y 3 W9 Pre Post)
    {b : Addr} {cellB : Cell} (hcell : T.heap[b]? = some cellB) (hobj : cellB.vm.isStatics = false) (hcls : s.vm.findClass C = some cellB.cls)
    {g : JFrame} (hg : g.method = m) (hsize : g.locals.size = c.maxLocals) {argsL rest : List Value} (hlen : ∀ sig, parseMethodDescriptor y.desc = some sig → argsL.length = sig.parameters.length)
    (hstack : g.stack = argsL.reverse ++ .ref b :: rest) (hW : 2 * g.monitorRoom + (rest.map fun v => v.category).sum ≤ W9) (hdg : decode c.code g.pc = .ok (.invokevirtual index, 3))
    (hpre : ∀ vm₁, s.WarmedH vm₁ → Pre ⟨T.setVm vm₁, locs, cells, slots⟩ (Value.ref b :: argsL).toArray) :
    ∃ (v : Option Value) (vm₁ : Vm) (B : Pt), s.WarmedH vm₁ ∧ Stand p l e R s m args below meth c B.U B.locs B.cells B.slots ∧ Post ⟨T.setVm vm₁, locs, cells, slots⟩ (Value.ref b :: argsL).toArray v B ∧
      ∀ target, Steps p.tables e below (B.U.setTop { g with pc := g.pc + 3, stack := v.toList ++ rest }) target → Steps p.tables e below (T.setTop g) target := by
  obtain ⟨mk, methM, hnamed, hmethM, hstM, habM⟩ := Cond.instanceMethod_spec hinst
  obtain ⟨m8, methM', cM, hn8, hmethM', -, -, -, -, -, -, hsigM⟩ := Cond.codeWith_spec hcode
  cases Option.some.inj (hn8.symm.trans hnamed)
  cases hmethM.symm.trans hmethM'
  obtain ⟨c2, r2, m2, q1, q2, q3, q4, kP, hkP, hkPi⟩ := Cond.selects_spec hsel
  cases hcls.symm.trans q1
  cases (State.methodFound?_of_named hnamed hy).symm.trans q2
  cases hnamed.symm.trans q3
  have hselP : selectMethod e.platform s.vm cellB.cls mk = .method mk := by rw [Launch.admits_selectMethod X.admits]; exact q4
  obtain ⟨vm₁, X₁, hstep₁⟩ := X.invokevirtual hexec hown hlink hnamed hmethM hstM hkP hkPi hy (a := b) (cell := cellB) hcell
    (fun z h => by rw [h] at hobj; cases hobj) hselP hmethM habM hkP hkPi (g := g) hg (argsL := argsL) (rest := rest) (hlen _ hsigM) hstack hdg
  obtain ⟨v, B, X', hpost, hsteps⟩ := hK m meth c ⟨T.setVm vm₁, locs, cells, slots⟩ { g with stack := rest } (.invokevirtual index) mk (Value.ref b :: argsL).toArray X₁ hg hsize hdg hW (X₁.named hnamed) (hpre vm₁ X₁.warmed)
  exact ⟨v, vm₁, B, X₁.warmed, X', hpost, fun target h => hstep₁ _ fun acts => by rw [doInvoke_state]; exact hsteps.trans h⟩
abbrev vx_CVW (R : Room) (s : State) (args : Array Value) (own C : String) (index : Nat) (y : MethodName) (bytes : ByteArray) (maxL : Nat) (ret : Option FieldType) (hh : List (Nat × Nat × Nat × Nat)) (ws : List Cond) (rm : Room) (mc ms n : Nat) : Prop :=
  (rm.cells = mc ∧ rm.slots = ms ∧ rm.frames + 1 ≤ R.frames ∧ 8 + (maxL + 11) + rm.locals ≤ R.locals ∧ (∀ w ∈ ws, ∀ (a' : Array Value) (U : State), s.WarmedH U.vm → w.before a' U = true) ∧ Cond.codeWith y bytes maxL ret hh ∈ ws) ∧
  (Cond.codeWith y bytes maxL ret hh).before args s = true ∧ (Cond.initialized y.cls).before args s = true ∧ (y.cls ≠ "java/lang/invoke/MethodHandle" ∧ y.cls ≠ "java/lang/invoke/VarHandle") ∧
  (∀ sig, parseMethodDescriptor y.desc = some sig → n = sig.parameters.length) ∧ (Cond.methodLink own index y).before args s = true ∧ (Cond.instanceMethod y).before args s = true ∧ (Cond.selects C y y).before args s = true
theorem vx_cwVW {own C : String} {index maxL mc ms : Nat} {y : MethodName} {bytes : ByteArray} {ret : Option FieldType} {hh : List (Nat × Nat × Nat × Nat)} {Ts ws ws' : List Cond} {rm : Room} (n : Nat) (ht : ∀ w ∈ Ts, w.before args s = true) (hT : GoodIn Ts (wsV own index C y ws)) (hw : ws = Cond.codeWith y bytes maxL ret hh :: ws') (hrc : rm.cells = mc) (hrs : rm.slots = ms)
    (hd : y.cls = C ∧ y.cls ≠ "java/lang/invoke/MethodHandle" ∧ y.cls ≠ "java/lang/invoke/VarHandle" ∧ (parseMethodDescriptor y.desc).map (fun d => d.parameters.length) = some n) (hR : rm.frames + 1 ≤ R.frames ∧ 8 + (maxL + 11) + rm.locals ≤ R.locals) :
    vx_CVW R s args own C index y bytes maxL ret hh ws rm mc ms n := by
  obtain ⟨hC, hd⟩ := hd
  subst hC
  have ok : ∀ w ∈ wsV own index y.cls y ws, w.before args s = true := fun w h => ht w (hT w h).1
  have hG : GoodIn Ts ws := fun w h => hT w (by unfold wsV; exact List.mem_append_right _ h)
  have hc : Cond.codeWith y bytes maxL ret hh ∈ ws := by rw [hw]; exact List.mem_cons_self
  refine ⟨⟨hrc, hrs, hR.1, hR.2, pay_in ht hG, hc⟩, ht _ (hG _ hc).1, ok _ (by simp [wsV]), ⟨hd.1, hd.2.1⟩, fun sig h => ?_, ok _ (by simp [wsV]), ok _ (by simp [wsV]), ok _ (by simp [wsV])⟩
  have h2 := hd.2.2
  rw [h] at h2
  exact (Option.some.inj h2).symm
theorem vx_runVW {y : MethodName} {bytes cc : ByteArray} {maxL nL mc ms n index : Nat} {ret : Option FieldType} {hh : List (Nat × Nat × Nat × Nat)} {ws : List Cond} {rm : Room} {Pc : Array Value → State → Prop} {Qc : Array Value → State → Outcome → State → Prop} {free : Addr → Prop} {Ts : List Cond} {own C : String} {b : Addr} {As rest : List Value} {g : JFrame}
    (S : CallFix p m c cc nL s args Ts own) (hM : Met l y ws rm Pc Qc mc ms free) (cw : vx_CVW R s args own C index y bytes maxL ret hh ws rm mc ms n) (hp : PreV s H C b Pc As)
    (hg : g.method = m) (hn : As.length = n) (hsize : g.locals.size = nL) (hstack : g.stack = As.reverse ++ .ref b :: rest) (hW : 2 * g.monitorRoom + (rest.map fun v => v.category).sum ≤ 8) (hdg : decode cc g.pc = .ok (.invokevirtual index, 3)) (hf : cells + mc ≤ R.cells ∧ slots + ms ≤ R.slots) :
    va_Run p l e R s m args below meth c H locs cells slots mc ms g rest (Qc (Value.ref b :: As).toArray) free := by
  obtain ⟨⟨hrc, hrs, hfr, hlo, hws, hcw⟩, hcode, hini, hy, hlen, hl, hin, hse⟩ := cw
  have hK : Back l R p e below s args y 3 8 (PreOf R mc ms Pc) (PostOf Qc mc ms free) := va_backW (hh := hh) (bytes := bytes) (maxL := maxL) (ret := ret) hM hp.1 hrc hrs hfr hlo hws hcw (fun a' U hW => word_at hW (Or.inl (by first | rfl | simp [Cond.onTables, Cond.keeps, Cond.steady])) hini)
  obtain ⟨hx, hb, hml, ho, -⟩ := S
  obtain ⟨-, ⟨cellB, hcB, hoB, hclB⟩, hPc⟩ := hp
  intro T hT X
  obtain ⟨v, vm₁, ⟨U', l2, c2, s2⟩, hW₁, X', ⟨g', mk, t, L, e1, e2, hq, h1, hL, h2, h3⟩, st⟩ := vx_callVW X hx (C := C) (hh := hh) (bytes := bytes) (maxL := maxL) (ret := ret) ho hl hin hse hcode hy hK (by rw [hT]; exact hcB) hoB hclB hg (hsize.trans hml.symm) (argsL := As) (rest := rest) (fun sig h => hn.trans (hlen sig h)) hstack hW (by rw [hb]; exact hdg)
    (fun vm₁ hW₁ => ⟨hf.1, hf.2, hPc (T.setVm vm₁) hT hW₁⟩)
  dsimp only [Pt.U, Pt.locs, Pt.cells, Pt.slots] at X' e1 e2 h1 h2 h3 st
  subst h1; subst h2; subst h3
  exact ⟨v, (T.setVm vm₁).calling g' mk (Value.ref b :: As).toArray, t, U', L, hT, X', hL, e1, e2, hq, st⟩
section
variable {y : MethodName} {bytes cc : ByteArray} {maxL nL mc ms n index : Nat} {ret : Option FieldType} {ws : List Cond} {rm : Room} {Pc : Array Value → State → Prop} {Qc : Array Value → State → Outcome → State → Prop} {XC : String → State → State → Prop} {free : Addr → Prop} {Ts : List Cond} {own C : String} {b : Addr} {As rest : List Value} {g : JFrame}
theorem vx_runVX {hh : List (Nat × Nat × Nat × Nat)} (S : CallFix p m c cc nL s args Ts own) (hM : vx_Met l y ws rm Pc Qc XC mc ms free) (cw : vx_CVW R s args own C index y bytes maxL ret hh ws rm mc ms n) (hp : PreV s H C b Pc As)
    (hg : g.method = m) (hn : As.length = n) (hsize : g.locals.size = nL) (hstack : g.stack = As.reverse ++ .ref b :: rest) (hW : 2 * g.monitorRoom + (rest.map fun v => v.category).sum ≤ 8) (hdg : decode cc g.pc = .ok (.invokevirtual index, 3)) (hf : cells + mc ≤ R.cells ∧ slots + ms ≤ R.slots) :
    vx_Run p l e R s m args below meth c H locs cells slots mc ms g rest (Qc (Value.ref b :: As).toArray) XC free := by
  obtain ⟨⟨hrc, hrs, hfr, hlo, hws, hcw⟩, hcode, hini, hy, hlen, hl, hin, hse⟩ := cw
  have hK : vx_Back l R p e below s args y 3 8 (PreOf R mc ms Pc) (PostOf Qc mc ms free) (vx_Post XC mc ms free) := vx_backW (hh := hh) (bytes := bytes) (maxL := maxL) (ret := ret) hM hp.1 hrc hrs hfr hlo hws hcw (fun a' U hW => word_at hW (Or.inl (by first | rfl | simp [Cond.onTables, Cond.keeps, Cond.steady])) hini)
  obtain ⟨hx, hb, hml, ho, -⟩ := S
  obtain ⟨-, ⟨cellB, hcB, hoB, hclB⟩, hPc⟩ := hp
  intro T hT X
  rcases vx_callVX X hx (C := C) (hh := hh) (bytes := bytes) (maxL := maxL) (ret := ret) ho hl hin hse hcode hy hK (by rw [hT]; exact hcB) hoB hclB hg (hsize.trans hml.symm) (argsL := As) (rest := rest) (fun sig h => hn.trans (hlen sig h)) hstack hW (by rw [hb]; exact hdg)
    (fun vm₁ hW₁ => ⟨hf.1, hf.2, hPc (T.setVm vm₁) hT hW₁⟩) with ⟨v, vm₁, ⟨U', l2, c2, s2⟩, hW₁, X', ⟨g', mk, t, L, e1, e2, hq, h1, hL, h2, h3⟩, st⟩ | ⟨q, vm₁, ⟨U', l2, c2, s2⟩, hW₁, X', ⟨g', mk, t, L, E, ce, e1, e2, hq, hce, hcv, hcl, h1, hL, h2, h3⟩, st⟩
  · dsimp only [Pt.U, Pt.locs, Pt.cells, Pt.slots] at X' e1 e2 h1 h2 h3 st
    subst h1; subst h2; subst h3
    exact Or.inl ⟨v, (T.setVm vm₁).calling g' mk (Value.ref b :: As).toArray, t, U', L, hT, X', hL, e1, e2, hq, st⟩
  · dsimp only [Pt.U, Pt.locs, Pt.cells, Pt.slots] at X' e1 e2 h1 h2 h3 st hcl
    subst h1; subst h2; subst h3
    exact Or.inr ⟨q, (T.setVm vm₁).calling g' mk (Value.ref b :: As).toArray, t, U', L, E, ce, hT, X', hL, e1, e2, hq, hce, hcv, vx_cls hW₁ hcl, st⟩
theorem vx_runSX {hh : List (Nat × Nat × Nat × Nat)} (S : CallFix p m c cc nL s args Ts own) (hM : vx_Met l y ws rm Pc Qc XC mc ms free) (cw : vx_CSW R s args own index y bytes maxL ret hh ws rm mc ms n) (hp : PreS s H Pc As)
    (hg : g.method = m) (hn : As.length = n) (hsize : g.locals.size = nL) (hstack : g.stack = As.reverse ++ rest) (hW : 2 * g.monitorRoom + (rest.map fun v => v.category).sum ≤ 8) (hdg : decode cc g.pc = .ok (.invokestatic index, 3)) (hf : cells + mc ≤ R.cells ∧ slots + ms ≤ R.slots) :
    vx_Run p l e R s m args below meth c H locs cells slots mc ms g rest (Qc As.toArray) XC free := by
  obtain ⟨⟨hrc, hrs, hfr, hlo, hws, hcw⟩, hcode, hini, hy, hlen, hl, hstt⟩ := cw
  have hK : vx_Back l R p e below s args y 3 8 (PreOf R mc ms Pc) (PostOf Qc mc ms free) (vx_Post XC mc ms free) := vx_backW (hh := hh) (bytes := bytes) (maxL := maxL) (ret := ret) hM hp.1 hrc hrs hfr hlo hws hcw (fun a' U hW => word_at hW (Or.inl (by first | rfl | simp [Cond.onTables, Cond.keeps, Cond.steady])) hini)
  obtain ⟨hx, hb, hml, ho, -⟩ := S
  intro T hT X
  rcases vx_callSX X hx (hh := hh) (bytes := bytes) (maxL := maxL) (ret := ret) ho hl hstt hini hcode hy hK hg (hsize.trans hml.symm) (argsL := As) (rest := rest) (fun sig h => hn.trans (hlen sig h)) hstack hW (by rw [hb]; exact hdg)
    (fun vm₁ hW₁ => ⟨hf.1, hf.2, hp.2 (T.setVm vm₁) hT hW₁⟩) with ⟨v, vm₁, ⟨U', l2, c2, s2⟩, hW₁, X', ⟨g', mk, t, L, e1, e2, hq, h1, hL, h2, h3⟩, st⟩ | ⟨q, vm₁, ⟨U', l2, c2, s2⟩, hW₁, X', ⟨g', mk, t, L, E, ce, e1, e2, hq, hce, hcv, hcl, h1, hL, h2, h3⟩, st⟩
  · dsimp only [Pt.U, Pt.locs, Pt.cells, Pt.slots] at X' e1 e2 h1 h2 h3 st
    subst h1; subst h2; subst h3
    exact Or.inl ⟨v, (T.setVm vm₁).calling g' mk As.toArray, t, U', L, hT, X', hL, e1, e2, hq, st⟩
  · dsimp only [Pt.U, Pt.locs, Pt.cells, Pt.slots] at X' e1 e2 h1 h2 h3 st hcl
    subst h1; subst h2; subst h3
    exact Or.inr ⟨q, (T.setVm vm₁).calling g' mk As.toArray, t, U', L, E, ce, hT, X', hL, e1, e2, hq, hce, hcv, vx_cls hW₁ hcl, st⟩
end
end VXH
theorem vx_ofWH {l : Launch} {y : MethodName} {ws ws' : List Cond} {rm : Room} {Pc : Array Value → State → Prop} {Qc : Array Value → State → Outcome → State → Prop} {XC : String → State → State → Prop} {mc ms : Nat} {free : Addr → Prop} {cc : ByteArray} {maxL : Nat} {ret : Option FieldType} {hh : List (Nat × Nat × Nat × Nat)}
    (hy : plainName y.cls = true) (hw : ws = Cond.codeWith y cc maxL ret hh :: ws')
    (body : ∀ p e s m args below meth c s₁, BodyLoose p l y (headSpec ws rm) cc maxL ret e s m args below meth c s₁ → c.maxLocals = maxL → Pc args s →
      W p l e (headSpec ws rm).room s m args below meth c s.heap [] 0 0 (vx_MQ below Qc XC args s mc ms free) (entryFrame m args maxL)) : vx_Met l y ws rm Pc Qc XC mc ms free := by
  refine MetFree.of_bodyS (code := cc) (maxLocals := maxL) (ret := ret) hy ?_ ?_
  · intro args s m h hn
    obtain ⟨m9, meth, c, hn9, h1, h2, h3, h4, -, h5, h6, -⟩ := Cond.codeWith_spec (atoms_spec (ws := ws) h _ (by rw [hw]; exact List.mem_cons_self))
    cases hn.symm.trans hn9
    exact ⟨meth, c, h1, h2, h3, h4, h5, h6⟩
  · intro p e s m args below meth c s₁ B hml hP _
    have hh0 : s₁.heap = s.heap := by rw [B.state]; rfl
    obtain ⟨t, a1, o, b1, b2, b3⟩ := body p e s m args below meth c s₁ B hml hP s₁ hh0 (Stand.of_body B)
    exact ⟨t, o, a1, b1, b2, b3⟩
/-! ===== END ===== -/
end
section
/-! ===== BEGIN printed: names, fields, word lists, decode rows ===== -/
def RX0 : String := "LogTurner$Holder"
def TX0 : u_T := fun k => match k with
  | 0 => ("LogTurner$Holder", "file", "LLogTurner$LogFile;", false)
  | _ => ("LogTurner$Holder", "part", "LLogTurner$Part;", false)
def tyX0 : Nat → FieldType := fun k => match k with
  | 0 => .object "LogTurner$LogFile"
  | _ => .object "LogTurner$Part"
abbrev wsX00 : List Cond := u_ws RX0 TX0 2
theorem nmX0 : ∀ a, a < 2 → ∀ b, b < 2 → a ≠ b → (TX0 a).2.1 ≠ (TX0 b).2.1 := by decide +kernel
theorem tyX0_ok : ∀ k, k < 2 → parseFieldDescriptor (TX0 k).2.2.1 = some (tyX0 k) := by decide +kernel
abbrev cX0_init : ByteArray := prog_2_method_1_code
def yX0_init : MethodName := ⟨RX0, "<init>", "()V"⟩
def RX1 : String := "LogTurner$LogFile"
def TX1 : u_T := fun k => match k with
  | 0 => ("LogTurner$LogFile", "number", "I", true)
  | 1 => ("LogTurner$LogFile", "oldParts", "Ljava/util/ArrayList;", true)
  | 2 => ("LogTurner$LogFile", "rule", "LLogTurner$Rule;", false)
  | 3 => ("LogTurner$LogFile", "livePart", "LLogTurner$Part;", false)
  | 4 => ("LogTurner$LogFile", "lastTurn", "I", false)
  | 5 => ("LogTurner$LogFile", "everTurned", "Z", false)
  | _ => ("LogTurner$LogFile", "thrownLines", "I", false)
def tyX1 : Nat → FieldType := fun k => match k with
  | 0 => .int
  | 1 => .object "java/util/ArrayList"
  | 2 => .object "LogTurner$Rule"
  | 3 => .object "LogTurner$Part"
  | 4 => .int
  | 5 => .boolean
  | _ => .int
abbrev wsX10 : List Cond := u_ws RX1 TX1 7
theorem nmX1 : ∀ a, a < 7 → ∀ b, b < 7 → a ≠ b → (TX1 a).2.1 ≠ (TX1 b).2.1 := by decide +kernel
theorem tyX1_ok : ∀ k, k < 7 → parseFieldDescriptor (TX1 k).2.2.1 = some (tyX1 k) := by decide +kernel
abbrev cX1_init : ByteArray := prog_3_method_1_code
def yX1_init : MethodName := ⟨RX1, "<init>", "(ILLogTurner$Rule;)V"⟩
def RX2 : String := "LogTurner$Part"
def TX2 : u_T := fun k => match k with
  | 0 => ("LogTurner$Part", "lineCount", "I", false)
  | 1 => ("LogTurner$Part", "turnDay", "I", false)
  | _ => ("LogTurner$Part", "squeezed", "Z", false)
def tyX2 : Nat → FieldType := fun k => match k with
  | 0 => .int
  | 1 => .int
  | _ => .boolean
abbrev wsX20 : List Cond := u_ws RX2 TX2 3
theorem nmX2 : ∀ a, a < 3 → ∀ b, b < 3 → a ≠ b → (TX2 a).2.1 ≠ (TX2 b).2.1 := by decide +kernel
theorem tyX2_ok : ∀ k, k < 3 → parseFieldDescriptor (TX2 k).2.2.1 = some (tyX2 k) := by decide +kernel
abbrev cX2_init : ByteArray := prog_4_method_1_code
def yX2_init : MethodName := ⟨RX2, "<init>", "()V"⟩
def RX3 : String := "LogTurner$Rule"
def TX3 : u_T := fun k => match k with
  | 0 => ("LogTurner$Rule", "number", "I", true)
  | 1 => ("LogTurner$Rule", "size", "I", false)
  | 2 => ("LogTurner$Rule", "weekday", "I", false)
  | 3 => ("LogTurner$Rule", "monthly", "I", false)
  | 4 => ("LogTurner$Rule", "least", "I", false)
  | 5 => ("LogTurner$Rule", "keep", "I", false)
  | 6 => ("LogTurner$Rule", "greatest", "I", false)
  | 7 => ("LogTurner$Rule", "squeezes", "Z", false)
  | 8 => ("LogTurner$Rule", "dates", "Z", false)
  | _ => ("LogTurner$Rule", "tells", "Z", false)
def tyX3 : Nat → FieldType := fun k => match k with
  | 0 => .int
  | 1 => .int
  | 2 => .int
  | 3 => .int
  | 4 => .int
  | 5 => .int
  | 6 => .int
  | 7 => .boolean
  | 8 => .boolean
  | _ => .boolean
abbrev wsX30 : List Cond := u_ws RX3 TX3 10
theorem nmX3 : ∀ a, a < 10 → ∀ b, b < 10 → a ≠ b → (TX3 a).2.1 ≠ (TX3 b).2.1 := by decide +kernel
theorem tyX3_ok : ∀ k, k < 10 → parseFieldDescriptor (TX3 k).2.2.1 = some (tyX3 k) := by decide +kernel
abbrev cX3_init : ByteArray := prog_5_method_1_code
def yX3_init : MethodName := ⟨RX3, "<init>", "(I)V"⟩
def RX4 : String := "LogTurner"
def TX4 : u_T := fun k => match k with
  | 0 => ("LogTurner", "rules", "[LLogTurner$Rule;", true)
  | 1 => ("LogTurner", "files", "[LLogTurner$LogFile;", true)
  | 2 => ("LogTurner", "holders", "[LLogTurner$Holder;", true)
  | _ => ("LogTurner", "today", "I", false)
def tyX4 : Nat → FieldType := fun k => match k with
  | 0 => .array (.object "LogTurner$Rule")
  | 1 => .array (.object "LogTurner$LogFile")
  | 2 => .array (.object "LogTurner$Holder")
  | _ => .int
abbrev wsX40 : List Cond := u_ws RX4 TX4 4
theorem nmX4 : ∀ a, a < 4 → ∀ b, b < 4 → a ≠ b → (TX4 a).2.1 ≠ (TX4 b).2.1 := by decide +kernel
theorem tyX4_ok : ∀ k, k < 4 → parseFieldDescriptor (TX4 k).2.2.1 = some (tyX4 k) := by decide +kernel
abbrev cX4_init : ByteArray := prog_1_method_1_code
def yX4_init : MethodName := ⟨RX4, "<init>", "()V"⟩
abbrev cX4_setDue : ByteArray := prog_1_method_2_code
def yX4_setDue : MethodName := ⟨RX4, "setDue", "(IIIII)V"⟩
abbrev cX4_setOld : ByteArray := prog_1_method_3_code
def yX4_setOld : MethodName := ⟨RX4, "setOld", "(IIIZZZ)V"⟩
abbrev cX4_give : ByteArray := prog_1_method_4_code
def yX4_give : MethodName := ⟨RX4, "give", "(II)I"⟩
abbrev cX4_open : ByteArray := prog_1_method_5_code
def yX4_open : MethodName := ⟨RX4, "open", "(II)V"⟩
abbrev cX4_shut : ByteArray := prog_1_method_6_code
def yX4_shut : MethodName := ⟨RX4, "shut", "(I)Z"⟩
abbrev cX4_tell : ByteArray := prog_1_method_7_code
def yX4_tell : MethodName := ⟨RX4, "tell", "(I)Z"⟩
abbrev cX4_write : ByteArray := prog_1_method_8_code
def yX4_write : MethodName := ⟨RX4, "write", "(II)I"⟩
abbrev cX4_advance : ByteArray := prog_1_method_9_code
def yX4_advance : MethodName := ⟨RX4, "advance", "(I)I"⟩
abbrev cX4_run : ByteArray := prog_1_method_10_code
def yX4_run : MethodName := ⟨RX4, "run", "()I"⟩
abbrev cX4_turn : ByteArray := prog_1_method_11_code
def yX4_turn : MethodName := ⟨RX4, "turn", "(I)I"⟩
abbrev cX4_lose : ByteArray := prog_1_method_12_code
def yX4_lose : MethodName := ⟨RX4, "lose", "(I)I"⟩
abbrev cX4_day : ByteArray := prog_1_method_13_code
def yX4_day : MethodName := ⟨RX4, "day", "()I"⟩
abbrev cX4_isDue : ByteArray := prog_1_method_14_code
def yX4_isDue : MethodName := ⟨RX4, "isDue", "(I)Z"⟩
abbrev cX4_nextDue : ByteArray := prog_1_method_15_code
def yX4_nextDue : MethodName := ⟨RX4, "nextDue", "(I)I"⟩
abbrev cX4_live : ByteArray := prog_1_method_16_code
def yX4_live : MethodName := ⟨RX4, "live", "(I)I"⟩
abbrev cX4_olds : ByteArray := prog_1_method_17_code
def yX4_olds : MethodName := ⟨RX4, "olds", "(I)I"⟩
abbrev cX4_lines : ByteArray := prog_1_method_18_code
def yX4_lines : MethodName := ⟨RX4, "lines", "(II)I"⟩
abbrev cX4_name : ByteArray := prog_1_method_19_code
def yX4_name : MethodName := ⟨RX4, "name", "(II)I"⟩
abbrev cX4_isSqueezed : ByteArray := prog_1_method_20_code
def yX4_isSqueezed : MethodName := ⟨RX4, "isSqueezed", "(II)Z"⟩
abbrev cX4_thrown : ByteArray := prog_1_method_21_code
def yX4_thrown : MethodName := ⟨RX4, "thrown", "(I)I"⟩
abbrev cX4_holds : ByteArray := prog_1_method_22_code
def yX4_holds : MethodName := ⟨RX4, "holds", "(I)I"⟩
abbrev cX4_ruleOf : ByteArray := prog_1_method_23_code
def yX4_ruleOf : MethodName := ⟨RX4, "ruleOf", "(I)LLogTurner$Rule;"⟩
abbrev cX4_fileOf : ByteArray := prog_1_method_24_code
def yX4_fileOf : MethodName := ⟨RX4, "fileOf", "(I)LLogTurner$LogFile;"⟩
abbrev cX4_holderOf : ByteArray := prog_1_method_25_code
def yX4_holderOf : MethodName := ⟨RX4, "holderOf", "(I)LLogTurner$Holder;"⟩
abbrev cX4_oldPartOf : ByteArray := prog_1_method_26_code
def yX4_oldPartOf : MethodName := ⟨RX4, "oldPartOf", "(LLogTurner$LogFile;I)LLogTurner$Part;"⟩
abbrev cX4_requireRange : ByteArray := prog_1_method_27_code
def yX4_requireRange : MethodName := ⟨RX4, "requireRange", "(III)V"⟩
abbrev cX4_isDueOn : ByteArray := prog_1_method_28_code
def yX4_isDueOn : MethodName := ⟨RX4, "isDueOn", "(LLogTurner$LogFile;I)Z"⟩
abbrev cX4_isTooSoon : ByteArray := prog_1_method_29_code
def yX4_isTooSoon : MethodName := ⟨RX4, "isTooSoon", "(LLogTurner$LogFile;I)Z"⟩
abbrev cX4_hasWeekdayCome : ByteArray := prog_1_method_30_code
def yX4_hasWeekdayCome : MethodName := ⟨RX4, "hasWeekdayCome", "(III)Z"⟩
abbrev cX4_hasMonthlyCome : ByteArray := prog_1_method_31_code
def yX4_hasMonthlyCome : MethodName := ⟨RX4, "hasMonthlyCome", "(III)Z"⟩
abbrev cX4_turnToday : ByteArray := prog_1_method_32_code
def yX4_turnToday : MethodName := ⟨RX4, "turnToday", "(LLogTurner$LogFile;)I"⟩
abbrev cX4_markTurnedToday : ByteArray := prog_1_method_33_code
def yX4_markTurnedToday : MethodName := ⟨RX4, "markTurnedToday", "(LLogTurner$LogFile;)V"⟩
abbrev cX4_squeezeOldParts : ByteArray := prog_1_method_34_code
def yX4_squeezeOldParts : MethodName := ⟨RX4, "squeezeOldParts", "(Ljava/util/ArrayList;)V"⟩
abbrev cX4_throwOldParts : ByteArray := prog_1_method_35_code
def yX4_throwOldParts : MethodName := ⟨RX4, "throwOldParts", "(LLogTurner$LogFile;)I"⟩
abbrev cX4_mustGo : ByteArray := prog_1_method_36_code
def yX4_mustGo : MethodName := ⟨RX4, "mustGo", "(LLogTurner$Part;LLogTurner$Rule;I)Z"⟩
abbrev cX4_isHeld : ByteArray := prog_1_method_37_code
def yX4_isHeld : MethodName := ⟨RX4, "isHeld", "(LLogTurner$Part;)Z"⟩
abbrev cX4_hasFileAmong : ByteArray := prog_1_method_38_code
def yX4_hasFileAmong : MethodName := ⟨RX4, "hasFileAmong", "(LLogTurner$Rule;I)Z"⟩
abbrev cX4_tellHoldersOf : ByteArray := prog_1_method_39_code
def yX4_tellHoldersOf : MethodName := ⟨RX4, "tellHoldersOf", "(LLogTurner$Rule;)V"⟩
abbrev cX4_countOlderOfDay : ByteArray := prog_1_method_40_code
def yX4_countOlderOfDay : MethodName := ⟨RX4, "countOlderOfDay", "(Ljava/util/ArrayList;II)I"⟩
abbrev cX4_placeOf : ByteArray := prog_1_method_41_code
def yX4_placeOf : MethodName := ⟨RX4, "placeOf", "(Ljava/util/ArrayList;LLogTurner$Part;)I"⟩
def RX5 : String := "LogTurnerModel"
def TX5 : u_T := fun k => match k with
  | 0 => ("LogTurnerModel", "day", "I", false)
  | 1 => ("LogTurnerModel", "size", "[I", true)
  | 2 => ("LogTurnerModel", "weekday", "[I", true)
  | 3 => ("LogTurnerModel", "monthly", "[I", true)
  | 4 => ("LogTurnerModel", "least", "[I", true)
  | 5 => ("LogTurnerModel", "keep", "[I", true)
  | 6 => ("LogTurnerModel", "greatest", "[I", true)
  | 7 => ("LogTurnerModel", "squeezes", "[Z", true)
  | 8 => ("LogTurnerModel", "dates", "[Z", true)
  | 9 => ("LogTurnerModel", "tells", "[Z", true)
  | 10 => ("LogTurnerModel", "rule", "[I", true)
  | 11 => ("LogTurnerModel", "alive", "[I", true)
  | 12 => ("LogTurnerModel", "last", "[I", true)
  | 13 => ("LogTurnerModel", "turned", "[Z", true)
  | 14 => ("LogTurnerModel", "away", "[I", true)
  | 15 => ("LogTurnerModel", "parts", "I", false)
  | 16 => ("LogTurnerModel", "of", "[I", true)
  | 17 => ("LogTurnerModel", "many", "[I", true)
  | 18 => ("LogTurnerModel", "from", "[I", true)
  | 19 => ("LogTurnerModel", "squeezed", "[Z", true)
  | 20 => ("LogTurnerModel", "file", "[I", true)
  | 21 => ("LogTurnerModel", "part", "[I", true)
  | _ => ("LogTurnerModel", "thrown", "I", false)
def tyX5 : Nat → FieldType := fun k => match k with
  | 0 => .int
  | 1 => .array .int
  | 2 => .array .int
  | 3 => .array .int
  | 4 => .array .int
  | 5 => .array .int
  | 6 => .array .int
  | 7 => .array .boolean
  | 8 => .array .boolean
  | 9 => .array .boolean
  | 10 => .array .int
  | 11 => .array .int
  | 12 => .array .int
  | 13 => .array .boolean
  | 14 => .array .int
  | 15 => .int
  | 16 => .array .int
  | 17 => .array .int
  | 18 => .array .int
  | 19 => .array .boolean
  | 20 => .array .int
  | 21 => .array .int
  | _ => .int
abbrev wsX50 : List Cond := u_ws RX5 TX5 23
theorem nmX5 : ∀ a, a < 23 → ∀ b, b < 23 → a ≠ b → (TX5 a).2.1 ≠ (TX5 b).2.1 := by decide +kernel
theorem tyX5_ok : ∀ k, k < 23 → parseFieldDescriptor (TX5 k).2.2.1 = some (tyX5 k) := by decide +kernel
abbrev cX5_init : ByteArray := prog_7_method_1_code
def yX5_init : MethodName := ⟨RX5, "<init>", "()V"⟩
abbrev cX5_thrown : ByteArray := prog_7_method_2_code
def yX5_thrown : MethodName := ⟨RX5, "thrown", "()I"⟩
abbrev cX5_in : ByteArray := prog_7_method_3_code
def yX5_in : MethodName := ⟨RX5, "in", "(III)Z"⟩
abbrev cX5_goes : ByteArray := prog_7_method_4_code
def yX5_goes : MethodName := ⟨RX5, "goes", "(ZZZ)Z"⟩
abbrev cX5_isFile : ByteArray := prog_7_method_5_code
def yX5_isFile : MethodName := ⟨RX5, "isFile", "(I)Z"⟩
abbrev cX5_isRule : ByteArray := prog_7_method_6_code
def yX5_isRule : MethodName := ⟨RX5, "isRule", "(I)Z"⟩
abbrev cX5_isHolder : ByteArray := prog_7_method_7_code
def yX5_isHolder : MethodName := ⟨RX5, "isHolder", "(I)Z"⟩
abbrev cX5_setDue : ByteArray := prog_7_method_8_code
def yX5_setDue : MethodName := ⟨RX5, "setDue", "(IIIII)V"⟩
abbrev cX5_setOld : ByteArray := prog_7_method_9_code
def yX5_setOld : MethodName := ⟨RX5, "setOld", "(IIIZZZ)V"⟩
abbrev cX5_give : ByteArray := prog_7_method_10_code
def yX5_give : MethodName := ⟨RX5, "give", "(II)I"⟩
abbrev cX5_open : ByteArray := prog_7_method_11_code
def yX5_open : MethodName := ⟨RX5, "open", "(II)V"⟩
abbrev cX5_shut : ByteArray := prog_7_method_12_code
def yX5_shut : MethodName := ⟨RX5, "shut", "(I)Z"⟩
abbrev cX5_tell : ByteArray := prog_7_method_13_code
def yX5_tell : MethodName := ⟨RX5, "tell", "(I)Z"⟩
abbrev cX5_write : ByteArray := prog_7_method_14_code
def yX5_write : MethodName := ⟨RX5, "write", "(II)I"⟩
abbrev cX5_advance : ByteArray := prog_7_method_15_code
def yX5_advance : MethodName := ⟨RX5, "advance", "(I)I"⟩
abbrev cX5_comes : ByteArray := prog_7_method_16_code
def yX5_comes : MethodName := ⟨RX5, "comes", "(IIII)Z"⟩
abbrev cX5_isDueOn : ByteArray := prog_7_method_17_code
def yX5_isDueOn : MethodName := ⟨RX5, "isDueOn", "(II)Z"⟩
abbrev cX5_isHeld : ByteArray := prog_7_method_18_code
def yX5_isHeld : MethodName := ⟨RX5, "isHeld", "(I)Z"⟩
abbrev cX5_oldsOf : ByteArray := prog_7_method_19_code
def yX5_oldsOf : MethodName := ⟨RX5, "oldsOf", "(I)I"⟩
abbrev cX5_throwsAway : ByteArray := prog_7_method_20_code
def yX5_throwsAway : MethodName := ⟨RX5, "throwsAway", "(I)V"⟩
abbrev cX5_turns : ByteArray := prog_7_method_21_code
def yX5_turns : MethodName := ⟨RX5, "turns", "(I)I"⟩
abbrev cX5_run : ByteArray := prog_7_method_22_code
def yX5_run : MethodName := ⟨RX5, "run", "()I"⟩
abbrev cX5_turn : ByteArray := prog_7_method_23_code
def yX5_turn : MethodName := ⟨RX5, "turn", "(I)I"⟩
abbrev cX5_lose : ByteArray := prog_7_method_24_code
def yX5_lose : MethodName := ⟨RX5, "lose", "(I)I"⟩
abbrev cX5_day : ByteArray := prog_7_method_25_code
def yX5_day : MethodName := ⟨RX5, "day", "()I"⟩
abbrev cX5_isDue : ByteArray := prog_7_method_26_code
def yX5_isDue : MethodName := ⟨RX5, "isDue", "(I)Z"⟩
abbrev cX5_nextDue : ByteArray := prog_7_method_27_code
def yX5_nextDue : MethodName := ⟨RX5, "nextDue", "(I)I"⟩
abbrev cX5_live : ByteArray := prog_7_method_28_code
def yX5_live : MethodName := ⟨RX5, "live", "(I)I"⟩
abbrev cX5_olds : ByteArray := prog_7_method_29_code
def yX5_olds : MethodName := ⟨RX5, "olds", "(I)I"⟩
abbrev cX5_placeOf : ByteArray := prog_7_method_30_code
def yX5_placeOf : MethodName := ⟨RX5, "placeOf", "(II)I"⟩
abbrev cX5_lines : ByteArray := prog_7_method_31_code
def yX5_lines : MethodName := ⟨RX5, "lines", "(II)I"⟩
abbrev cX5_name : ByteArray := prog_7_method_32_code
def yX5_name : MethodName := ⟨RX5, "name", "(II)I"⟩
abbrev cX5_isSqueezed : ByteArray := prog_7_method_33_code
def yX5_isSqueezed : MethodName := ⟨RX5, "isSqueezed", "(II)Z"⟩
abbrev cX5_thrown_ : ByteArray := prog_7_method_34_code
def yX5_thrown_ : MethodName := ⟨RX5, "thrown", "(I)I"⟩
abbrev cX5_holds : ByteArray := prog_7_method_35_code
def yX5_holds : MethodName := ⟨RX5, "holds", "(I)I"⟩
def RJx145de : String := "java/io/Serializable"
def TJx145de : u_T := fun k => match k with
  | _ => ("", "", "", false)
def tyJx145de : Nat → FieldType := fun k => match k with
  | _ => .int
abbrev wsJx145de0 : List Cond := u_ws RJx145de TJx145de 0
theorem nmJx145de : ∀ a, a < 0 → ∀ b, b < 0 → a ≠ b → (TJx145de a).2.1 ≠ (TJx145de b).2.1 := by decide +kernel
theorem tyJx145de_ok : ∀ k, k < 0 → parseFieldDescriptor (TJx145de k).2.2.1 = some (tyJx145de k) := by decide +kernel
def RJx8e188 : String := "java/lang/Cloneable"
def TJx8e188 : u_T := fun k => match k with
  | _ => ("", "", "", false)
def tyJx8e188 : Nat → FieldType := fun k => match k with
  | _ => .int
abbrev wsJx8e1880 : List Cond := u_ws RJx8e188 TJx8e188 0
theorem nmJx8e188 : ∀ a, a < 0 → ∀ b, b < 0 → a ≠ b → (TJx8e188 a).2.1 ≠ (TJx8e188 b).2.1 := by decide +kernel
theorem tyJx8e188_ok : ∀ k, k < 0 → parseFieldDescriptor (TJx8e188 k).2.2.1 = some (tyJx8e188 k) := by decide +kernel
def RJxab1ab : String := "java/lang/Iterable"
def TJxab1ab : u_T := fun k => match k with
  | _ => ("", "", "", false)
def tyJxab1ab : Nat → FieldType := fun k => match k with
  | _ => .int
abbrev wsJxab1ab0 : List Cond := u_ws RJxab1ab TJxab1ab 0
theorem nmJxab1ab : ∀ a, a < 0 → ∀ b, b < 0 → a ≠ b → (TJxab1ab a).2.1 ≠ (TJxab1ab b).2.1 := by decide +kernel
theorem tyJxab1ab_ok : ∀ k, k < 0 → parseFieldDescriptor (TJxab1ab k).2.2.1 = some (tyJxab1ab k) := by decide +kernel
def RJ9 : String := "java/lang/Math"
def TJ9 : u_T := fun k => match k with
  | _ => ("", "", "", false)
def tyJ9 : Nat → FieldType := fun k => match k with
  | _ => .int
abbrev wsJ90 : List Cond := u_ws RJ9 TJ9 0
theorem nmJ9 : ∀ a, a < 0 → ∀ b, b < 0 → a ≠ b → (TJ9 a).2.1 ≠ (TJ9 b).2.1 := by decide +kernel
theorem tyJ9_ok : ∀ k, k < 0 → parseFieldDescriptor (TJ9 k).2.2.1 = some (tyJ9 k) := by decide +kernel
abbrev cJ9_floorMod_7cf53 : ByteArray := prog_15_method_50_code
def yJ9_floorMod_7cf53 : MethodName := ⟨RJ9, "floorMod", "(II)I"⟩
abbrev cJ9_max_7cf53 : ByteArray := prog_15_method_65_code
def yJ9_max_7cf53 : MethodName := ⟨RJ9, "max", "(II)I"⟩
abbrev cJ9_min_7cf53 : ByteArray := prog_15_method_69_code
def yJ9_min_7cf53 : MethodName := ⟨RJ9, "min", "(II)I"⟩
def RJ0 : String := "java/lang/String"
def TJ0 : u_T := fun k => match k with
  | _ => ("", "", "", false)
def tyJ0 : Nat → FieldType := fun k => match k with
  | _ => .int
abbrev wsJ00 : List Cond := u_ws RJ0 TJ0 0
theorem nmJ0 : ∀ a, a < 0 → ∀ b, b < 0 → a ≠ b → (TJ0 a).2.1 ≠ (TJ0 b).2.1 := by decide +kernel
theorem tyJ0_ok : ∀ k, k < 0 → parseFieldDescriptor (TJ0 k).2.2.1 = some (tyJ0 k) := by decide +kernel
def RJ10 : String := "java/lang/System"
def TJ10 : u_T := fun k => match k with
  | _ => ("", "", "", false)
def tyJ10 : Nat → FieldType := fun k => match k with
  | _ => .int
abbrev wsJ100 : List Cond := u_ws RJ10 TJ10 0
theorem nmJ10 : ∀ a, a < 0 → ∀ b, b < 0 → a ≠ b → (TJ10 a).2.1 ≠ (TJ10 b).2.1 := by decide +kernel
theorem tyJ10_ok : ∀ k, k < 0 → parseFieldDescriptor (TJ10 k).2.2.1 = some (tyJ10 k) := by decide +kernel
def RJxa1e45 : String := "java/util/AbstractCollection"
def TJxa1e45 : u_T := fun k => match k with
  | _ => ("", "", "", false)
def tyJxa1e45 : Nat → FieldType := fun k => match k with
  | _ => .int
abbrev wsJxa1e450 : List Cond := u_ws RJxa1e45 TJxa1e45 0
theorem nmJxa1e45 : ∀ a, a < 0 → ∀ b, b < 0 → a ≠ b → (TJxa1e45 a).2.1 ≠ (TJxa1e45 b).2.1 := by decide +kernel
theorem tyJxa1e45_ok : ∀ k, k < 0 → parseFieldDescriptor (TJxa1e45 k).2.2.1 = some (tyJxa1e45 k) := by decide +kernel
abbrev cJxa1e45_init_da8c8 : ByteArray := prog_20_method_1_code
def yJxa1e45_init_da8c8 : MethodName := ⟨RJxa1e45, "<init>", "()V"⟩
def RJxc12de : String := "java/util/AbstractList"
def TJxc12de : u_T := fun k => match k with
  | _ => ("", "", "", false)
def tyJxc12de : Nat → FieldType := fun k => match k with
  | _ => .int
abbrev wsJxc12de0 : List Cond := u_ws RJxc12de TJxc12de 0
theorem nmJxc12de : ∀ a, a < 0 → ∀ b, b < 0 → a ≠ b → (TJxc12de a).2.1 ≠ (TJxc12de b).2.1 := by decide +kernel
theorem tyJxc12de_ok : ∀ k, k < 0 → parseFieldDescriptor (TJxc12de k).2.2.1 = some (tyJxc12de k) := by decide +kernel
abbrev cJxc12de_init_da8c8 : ByteArray := prog_21_method_1_code
def yJxc12de_init_da8c8 : MethodName := ⟨RJxc12de, "<init>", "()V"⟩
def RJx4a65c : String := "java/util/ArrayList"
def TJx4a65c : u_T := fun k => match k with
  | 0 => ("java/util/AbstractList", "modCount", "I", false)
  | 1 => ("java/util/ArrayList", "elementData", "[Ljava/lang/Object;", false)
  | _ => ("java/util/ArrayList", "size", "I", false)
def tyJx4a65c : Nat → FieldType := fun k => match k with
  | 0 => .int
  | 1 => .array (.object "java/lang/Object")
  | _ => .int
abbrev wsJx4a65c0 : List Cond := u_ws RJx4a65c TJx4a65c 3
theorem nmJx4a65c : ∀ a, a < 3 → ∀ b, b < 3 → a ≠ b → (TJx4a65c a).2.1 ≠ (TJx4a65c b).2.1 := by decide +kernel
theorem tyJx4a65c_ok : ∀ k, k < 3 → parseFieldDescriptor (TJx4a65c k).2.2.1 = some (tyJx4a65c k) := by decide +kernel
abbrev cJx4a65c_init_da8c8 : ByteArray := prog_22_method_2_code
def yJx4a65c_init_da8c8 : MethodName := ⟨RJx4a65c, "<init>", "()V"⟩
abbrev cJx4a65c_grow_92f84 : ByteArray := prog_22_method_6_code
def yJx4a65c_grow_92f84 : MethodName := ⟨RJx4a65c, "grow", "(I)[Ljava/lang/Object;"⟩
abbrev cJx4a65c_grow_d5877 : ByteArray := prog_22_method_7_code
def yJx4a65c_grow_d5877 : MethodName := ⟨RJx4a65c, "grow", "()[Ljava/lang/Object;"⟩
abbrev cJx4a65c_size_8abf5 : ByteArray := prog_22_method_8_code
def yJx4a65c_size_8abf5 : MethodName := ⟨RJx4a65c, "size", "()I"⟩
abbrev cJx4a65c_elementData_915e3 : ByteArray := prog_22_method_18_code
def yJx4a65c_elementData_915e3 : MethodName := ⟨RJx4a65c, "elementData", "(I)Ljava/lang/Object;"⟩
abbrev cJx4a65c_get_915e3 : ByteArray := prog_22_method_20_code
def yJx4a65c_get_915e3 : MethodName := ⟨RJx4a65c, "get", "(I)Ljava/lang/Object;"⟩
abbrev cJx4a65c_add_72be8 : ByteArray := prog_22_method_24_code
def yJx4a65c_add_72be8 : MethodName := ⟨RJx4a65c, "add", "(Ljava/lang/Object;[Ljava/lang/Object;I)V"⟩
abbrev cJx4a65c_add_9ea2d : ByteArray := prog_22_method_25_code
def yJx4a65c_add_9ea2d : MethodName := ⟨RJx4a65c, "add", "(Ljava/lang/Object;)Z"⟩
abbrev cJx4a65c_remove_915e3 : ByteArray := prog_22_method_29_code
def yJx4a65c_remove_915e3 : MethodName := ⟨RJx4a65c, "remove", "(I)Ljava/lang/Object;"⟩
abbrev cJx4a65c_fastRemove_b59b0 : ByteArray := prog_22_method_39_code
def yJx4a65c_fastRemove_b59b0 : MethodName := ⟨RJx4a65c, "fastRemove", "([Ljava/lang/Object;I)V"⟩
def RJ7 : String := "java/util/Arrays"
def TJ7 : u_T := fun k => match k with
  | _ => ("", "", "", false)
def tyJ7 : Nat → FieldType := fun k => match k with
  | _ => .int
abbrev wsJ70 : List Cond := u_ws RJ7 TJ7 0
theorem nmJ7 : ∀ a, a < 0 → ∀ b, b < 0 → a ≠ b → (TJ7 a).2.1 ≠ (TJ7 b).2.1 := by decide +kernel
theorem tyJ7_ok : ∀ k, k < 0 → parseFieldDescriptor (TJ7 k).2.2.1 = some (tyJ7 k) := by decide +kernel
abbrev cJ7_copyOf_1904c : ByteArray := prog_23_method_119_code
def yJ7_copyOf_1904c : MethodName := ⟨RJ7, "copyOf", "([Ljava/lang/Object;I)[Ljava/lang/Object;"⟩
abbrev cJ7_copyOf_6403c : ByteArray := prog_23_method_120_code
def yJ7_copyOf_6403c : MethodName := ⟨RJ7, "copyOf", "([Ljava/lang/Object;ILjava/lang/Class;)[Ljava/lang/Object;"⟩
def RJx5ef63 : String := "java/util/Collection"
def TJx5ef63 : u_T := fun k => match k with
  | _ => ("", "", "", false)
def tyJx5ef63 : Nat → FieldType := fun k => match k with
  | _ => .int
abbrev wsJx5ef630 : List Cond := u_ws RJx5ef63 TJx5ef63 0
theorem nmJx5ef63 : ∀ a, a < 0 → ∀ b, b < 0 → a ≠ b → (TJx5ef63 a).2.1 ≠ (TJx5ef63 b).2.1 := by decide +kernel
theorem tyJx5ef63_ok : ∀ k, k < 0 → parseFieldDescriptor (TJx5ef63 k).2.2.1 = some (tyJx5ef63 k) := by decide +kernel
def RJxbd725 : String := "java/util/List"
def TJxbd725 : u_T := fun k => match k with
  | _ => ("", "", "", false)
def tyJxbd725 : Nat → FieldType := fun k => match k with
  | _ => .int
abbrev wsJxbd7250 : List Cond := u_ws RJxbd725 TJxbd725 0
theorem nmJxbd725 : ∀ a, a < 0 → ∀ b, b < 0 → a ≠ b → (TJxbd725 a).2.1 ≠ (TJxbd725 b).2.1 := by decide +kernel
theorem tyJxbd725_ok : ∀ k, k < 0 → parseFieldDescriptor (TJxbd725 k).2.2.1 = some (tyJxbd725 k) := by decide +kernel
def RJ15 : String := "java/util/Objects"
def TJ15 : u_T := fun k => match k with
  | _ => ("", "", "", false)
def tyJ15 : Nat → FieldType := fun k => match k with
  | _ => .int
abbrev wsJ150 : List Cond := u_ws RJ15 TJ15 0
theorem nmJ15 : ∀ a, a < 0 → ∀ b, b < 0 → a ≠ b → (TJ15 a).2.1 ≠ (TJ15 b).2.1 := by decide +kernel
theorem tyJ15_ok : ∀ k, k < 0 → parseFieldDescriptor (TJ15 k).2.2.1 = some (tyJ15 k) := by decide +kernel
abbrev cJ15_checkIndex_7cf53 : ByteArray := prog_26_method_17_code
def yJ15_checkIndex_7cf53 : MethodName := ⟨RJ15, "checkIndex", "(II)I"⟩
def RJxf0a74 : String := "java/util/RandomAccess"
def TJxf0a74 : u_T := fun k => match k with
  | _ => ("", "", "", false)
def tyJxf0a74 : Nat → FieldType := fun k => match k with
  | _ => .int
abbrev wsJxf0a740 : List Cond := u_ws RJxf0a74 TJxf0a74 0
theorem nmJxf0a74 : ∀ a, a < 0 → ∀ b, b < 0 → a ≠ b → (TJxf0a74 a).2.1 ≠ (TJxf0a74 b).2.1 := by decide +kernel
theorem tyJxf0a74_ok : ∀ k, k < 0 → parseFieldDescriptor (TJxf0a74 k).2.2.1 = some (tyJxf0a74 k) := by decide +kernel
def RJxa66e6 : String := "java/util/SequencedCollection"
def TJxa66e6 : u_T := fun k => match k with
  | _ => ("", "", "", false)
def tyJxa66e6 : Nat → FieldType := fun k => match k with
  | _ => .int
abbrev wsJxa66e60 : List Cond := u_ws RJxa66e6 TJxa66e6 0
theorem nmJxa66e6 : ∀ a, a < 0 → ∀ b, b < 0 → a ≠ b → (TJxa66e6 a).2.1 ≠ (TJxa66e6 b).2.1 := by decide +kernel
theorem tyJxa66e6_ok : ∀ k, k < 0 → parseFieldDescriptor (TJxa66e6 k).2.2.1 = some (tyJxa66e6 k) := by decide +kernel
def RJ8 : String := "jdk/internal/util/ArraysSupport"
def TJ8 : u_T := fun k => match k with
  | _ => ("", "", "", false)
def tyJ8 : Nat → FieldType := fun k => match k with
  | _ => .int
abbrev wsJ80 : List Cond := u_ws RJ8 TJ8 0
theorem nmJ8 : ∀ a, a < 0 → ∀ b, b < 0 → a ≠ b → (TJ8 a).2.1 ≠ (TJ8 b).2.1 := by decide +kernel
theorem tyJ8_ok : ∀ k, k < 0 → parseFieldDescriptor (TJ8 k).2.2.1 = some (tyJ8 k) := by decide +kernel
abbrev cJ8_newLength_cabcc : ByteArray := prog_29_method_27_code
def yJ8_newLength_cabcc : MethodName := ⟨RJ8, "newLength", "(III)I"⟩
abbrev cJ8_hugeLength_7cf53 : ByteArray := prog_29_method_28_code
def yJ8_hugeLength_7cf53 : MethodName := ⟨RJ8, "hugeLength", "(II)I"⟩
def RJ3 : String := "jdk/internal/util/Preconditions"
def TJ3 : u_T := fun k => match k with
  | _ => ("", "", "", false)
def tyJ3 : Nat → FieldType := fun k => match k with
  | _ => .int
abbrev wsJ30 : List Cond := u_ws RJ3 TJ3 0
theorem nmJ3 : ∀ a, a < 0 → ∀ b, b < 0 → a ≠ b → (TJ3 a).2.1 ≠ (TJ3 b).2.1 := by decide +kernel
theorem tyJ3_ok : ∀ k, k < 0 → parseFieldDescriptor (TJ3 k).2.2.1 = some (tyJ3 k) := by decide +kernel
abbrev cJ3_checkIndex_8e157 : ByteArray := prog_30_method_11_code
def yJ3_checkIndex_8e157 : MethodName := ⟨RJ3, "checkIndex", "(IILjava/util/function/BiFunction;)I"⟩
def RL : String := "LogTurnerLaw"
abbrev cL_setDue : ByteArray := method_3_code
def yL_setDue : MethodName := ⟨RL, "setDue", "(LLogTurner;IIIII)I"⟩
abbrev cL_setOld : ByteArray := method_4_code
def yL_setOld : MethodName := ⟨RL, "setOld", "(LLogTurner;IIIZZZ)I"⟩
abbrev cL_give : ByteArray := method_5_code
def yL_give : MethodName := ⟨RL, "give", "(LLogTurner;II[J)I"⟩
abbrev cL_open : ByteArray := method_6_code
def yL_open : MethodName := ⟨RL, "open", "(LLogTurner;II)I"⟩
abbrev cL_shut : ByteArray := method_7_code
def yL_shut : MethodName := ⟨RL, "shut", "(LLogTurner;I[J)I"⟩
abbrev cL_tell : ByteArray := method_8_code
def yL_tell : MethodName := ⟨RL, "tell", "(LLogTurner;I[J)I"⟩
abbrev cL_write : ByteArray := method_9_code
def yL_write : MethodName := ⟨RL, "write", "(LLogTurner;II[J)I"⟩
abbrev cL_advance : ByteArray := method_10_code
def yL_advance : MethodName := ⟨RL, "advance", "(LLogTurner;I[J)I"⟩
abbrev cL_turn : ByteArray := method_11_code
def yL_turn : MethodName := ⟨RL, "turn", "(LLogTurner;I[J)I"⟩
abbrev cL_lose : ByteArray := method_12_code
def yL_lose : MethodName := ⟨RL, "lose", "(LLogTurner;I[J)I"⟩
abbrev cL_isDue : ByteArray := method_13_code
def yL_isDue : MethodName := ⟨RL, "isDue", "(LLogTurner;I[J)I"⟩
abbrev cL_nextDue : ByteArray := method_14_code
def yL_nextDue : MethodName := ⟨RL, "nextDue", "(LLogTurner;I[J)I"⟩
abbrev cL_live : ByteArray := method_15_code
def yL_live : MethodName := ⟨RL, "live", "(LLogTurner;I[J)I"⟩
abbrev cL_olds : ByteArray := method_16_code
def yL_olds : MethodName := ⟨RL, "olds", "(LLogTurner;I[J)I"⟩
abbrev cL_lines : ByteArray := method_17_code
def yL_lines : MethodName := ⟨RL, "lines", "(LLogTurner;II[J)I"⟩
abbrev cL_name : ByteArray := method_18_code
def yL_name : MethodName := ⟨RL, "name", "(LLogTurner;II[J)I"⟩
abbrev cL_isSqueezed : ByteArray := method_19_code
def yL_isSqueezed : MethodName := ⟨RL, "isSqueezed", "(LLogTurner;II[J)I"⟩
abbrev cL_thrown : ByteArray := method_20_code
def yL_thrown : MethodName := ⟨RL, "thrown", "(LLogTurner;I[J)I"⟩
abbrev cL_holds : ByteArray := method_21_code
def yL_holds : MethodName := ⟨RL, "holds", "(LLogTurner;I[J)I"⟩
abbrev cL_law : ByteArray := code
def yL_law : MethodName := ⟨RL, "law", "([I)Z"⟩
def wsL_law0_r1 : List Cond := [Cond.classLink RL 8 RX4, Cond.instantiable RX4 4, Cond.initialized RX4, Cond.classLink RL 80 RX5, Cond.instantiable RX5 23, Cond.initialized RX5, Cond.arrayClass .long, Cond.methodLink RL 79 yX4_init, Cond.instanceMethod yX4_init, Cond.code yX4_init cX4_init 2 none, Cond.methodLink RX4 1 objectInit, Cond.instanceMethod objectInit, Cond.code objectInit ⟨#[0xb1]⟩ 1 none, Cond.classLink RX4 9 RX3, Cond.fieldLink RX4 11 "LogTurner" "rules" "[LLogTurner$Rule;", Cond.classLink RX4 15 RX1, Cond.fieldLink RX4 17 "LogTurner" "files" "[LLogTurner$LogFile;", Cond.classLink RX4 21 RX0, Cond.fieldLink RX4 23 "LogTurner" "holders" "[LLogTurner$Holder;", Cond.instantiable RX3 10, Cond.initialized RX3, Cond.instantiable RX1 7, Cond.initialized RX1, Cond.instantiable RX0 2]
def wsL_law0_r2 : List Cond := [Cond.initialized RX0, Cond.methodLink RX4 27 yX3_init, Cond.instanceMethod yX3_init, Cond.code yX3_init cX3_init 2 none, Cond.methodLink RX3 3 objectInit, Cond.fieldLink RX3 9 "LogTurner$Rule" "weekday" "I", Cond.fieldLink RX3 15 "LogTurner$Rule" "monthly" "I", Cond.fieldLink RX3 18 "LogTurner$Rule" "keep" "I", Cond.fieldLink RX3 21 "LogTurner$Rule" "number" "I", Cond.methodLink RX4 30 yX1_init, Cond.instanceMethod yX1_init, Cond.code yX1_init cX1_init 3 none, Cond.methodLink RX1 1 objectInit, Cond.classLink RX1 7 RJx4a65c, Cond.instantiable RJx4a65c 3, Cond.initialized RJx4a65c, Cond.fieldLink RX1 10 "LogTurner$LogFile" "oldParts" "Ljava/util/ArrayList;", Cond.classLink RX1 16 RX2, Cond.instantiable RX2 3, Cond.initialized RX2, Cond.fieldLink RX1 19 "LogTurner$LogFile" "livePart" "LLogTurner$Part;", Cond.fieldLink RX1 23 "LogTurner$LogFile" "number" "I", Cond.fieldLink RX1 27 "LogTurner$LogFile" "rule" "LLogTurner$Rule;", Cond.methodLink RX1 9 yJx4a65c_init_da8c8]
def wsL_law0_r3 : List Cond := [Cond.instanceMethod yJx4a65c_init_da8c8, Cond.code yJx4a65c_init_da8c8 cJx4a65c_init_da8c8 1 none, Cond.fieldLink RJx4a65c 39 "java/util/ArrayList" "DEFAULTCAPACITY_EMPTY_ELEMENTDATA" "[Ljava/lang/Object;", Cond.fieldLink RJx4a65c 9 "java/util/ArrayList" "elementData" "[Ljava/lang/Object;", Cond.methodLink RJx4a65c 1 yJxc12de_init_da8c8, Cond.instanceMethod yJxc12de_init_da8c8, Cond.initialized RJxc12de, Cond.code yJxc12de_init_da8c8 cJxc12de_init_da8c8 1 none, Cond.fieldLink RJxc12de 7 "java/util/AbstractList" "modCount" "I", Cond.methodLink RJxc12de 1 yJxa1e45_init_da8c8, Cond.instanceMethod yJxa1e45_init_da8c8, Cond.initialized RJxa1e45, Cond.code yJxa1e45_init_da8c8 cJxa1e45_init_da8c8 1 none, Cond.methodLink RJxa1e45 1 objectInit, Cond.instanceMethod yX2_init, Cond.code yX2_init cX2_init 1 none, Cond.methodLink RX2 1 objectInit, Cond.instanceMethod yX0_init, Cond.code yX0_init cX0_init 1 none, Cond.methodLink RX0 1 objectInit, Cond.methodLink RL 82 yX5_init, Cond.instanceMethod yX5_init, Cond.code yX5_init cX5_init 2 none, Cond.methodLink RX5 1 objectInit]
def wsL_law0_r4 : List Cond := [Cond.arrayClass .int, Cond.fieldLink RX5 7 "LogTurnerModel" "size" "[I", Cond.fieldLink RX5 13 "LogTurnerModel" "weekday" "[I", Cond.fieldLink RX5 16 "LogTurnerModel" "monthly" "[I", Cond.fieldLink RX5 19 "LogTurnerModel" "least" "[I", Cond.fieldLink RX5 22 "LogTurnerModel" "keep" "[I", Cond.fieldLink RX5 25 "LogTurnerModel" "greatest" "[I", Cond.arrayClass .boolean, Cond.fieldLink RX5 28 "LogTurnerModel" "squeezes" "[Z", Cond.fieldLink RX5 32 "LogTurnerModel" "dates" "[Z", Cond.fieldLink RX5 35 "LogTurnerModel" "tells" "[Z", Cond.fieldLink RX5 38 "LogTurnerModel" "rule" "[I", Cond.fieldLink RX5 41 "LogTurnerModel" "alive" "[I", Cond.fieldLink RX5 44 "LogTurnerModel" "last" "[I", Cond.fieldLink RX5 47 "LogTurnerModel" "turned" "[Z", Cond.fieldLink RX5 50 "LogTurnerModel" "away" "[I", Cond.fieldLink RX5 53 "LogTurnerModel" "of" "[I", Cond.fieldLink RX5 56 "LogTurnerModel" "many" "[I", Cond.fieldLink RX5 59 "LogTurnerModel" "from" "[I", Cond.fieldLink RX5 62 "LogTurnerModel" "squeezed" "[Z", Cond.fieldLink RX5 65 "LogTurnerModel" "file" "[I", Cond.fieldLink RX5 68 "LogTurnerModel" "part" "[I", Cond.methodLink RL 83 yL_setDue, Cond.static yL_setDue]
def wsL_law0_r5 : List Cond := [Cond.initialized RL, Cond.codeWith yL_setDue cL_setDue 7 (some .int) [(0, 11, 14, 13), (0, 11, 18, 15)], Cond.classLink RL 13 "java/lang/IndexOutOfBoundsException", Cond.classLink RL 15 "java/lang/IllegalArgumentException", Cond.methodLink RL 7 yX4_setDue, Cond.instanceMethod yX4_setDue, Cond.selects RX4 yX4_setDue yX4_setDue, Cond.code yX4_setDue cX4_setDue 7 none, Cond.fieldLink RX4 42 "LogTurner$Rule" "size" "I", Cond.fieldLink RX4 46 "LogTurner$Rule" "weekday" "I", Cond.fieldLink RX4 49 "LogTurner$Rule" "monthly" "I", Cond.fieldLink RX4 52 "LogTurner$Rule" "least" "I", Cond.methodLink RX4 34 yX4_ruleOf, Cond.instanceMethod yX4_ruleOf, Cond.selects RX4 yX4_ruleOf yX4_ruleOf, Cond.code yX4_ruleOf cX4_ruleOf 2 (some (.object "LogTurner$Rule")), Cond.classLink RX4 168 "java/lang/IndexOutOfBoundsException", Cond.initialized "java/lang/IndexOutOfBoundsException", Cond.methodLink RX4 38 yX4_requireRange, Cond.static yX4_requireRange, Cond.code yX4_requireRange cX4_requireRange 3 none, Cond.classLink RX4 183 "java/lang/IllegalArgumentException", Cond.initialized "java/lang/IllegalArgumentException", Cond.methodLink RL 88 yX5_setDue]
def wsL_law0_r6 : List Cond := [Cond.instanceMethod yX5_setDue, Cond.selects RX5 yX5_setDue yX5_setDue, Cond.code yX5_setDue cX5_setDue 7 none, Cond.methodLink RX5 75 yX5_in, Cond.static yX5_in, Cond.code yX5_in cX5_in 3 (some .boolean), Cond.methodLink RX5 79 yX5_isRule, Cond.static yX5_isRule, Cond.code yX5_isRule cX5_isRule 1 (some .boolean), Cond.methodLink RX5 83 yX5_goes, Cond.instanceMethod yX5_goes, Cond.selects RX5 yX5_goes yX5_goes, Cond.code yX5_goes cX5_goes 4 (some .boolean), Cond.fieldLink RX5 71 "LogTurnerModel" "thrown" "I", Cond.methodLink RL 89 yX5_thrown, Cond.instanceMethod yX5_thrown, Cond.selects RX5 yX5_thrown yX5_thrown, Cond.code yX5_thrown cX5_thrown 1 (some .int), Cond.methodLink RL 92 yL_setOld, Cond.static yL_setOld, Cond.codeWith yL_setOld cL_setOld 8 (some .int) [(0, 13, 16, 13), (0, 13, 20, 15)], Cond.methodLink RL 17 yX4_setOld, Cond.instanceMethod yX4_setOld, Cond.selects RX4 yX4_setOld yX4_setOld]
def wsL_law0_r7 : List Cond := [Cond.code yX4_setOld cX4_setOld 8 none, Cond.fieldLink RX4 55 "LogTurner$Rule" "keep" "I", Cond.fieldLink RX4 58 "LogTurner$Rule" "greatest" "I", Cond.fieldLink RX4 61 "LogTurner$Rule" "squeezes" "Z", Cond.fieldLink RX4 65 "LogTurner$Rule" "dates" "Z", Cond.fieldLink RX4 68 "LogTurner$Rule" "tells" "Z", Cond.methodLink RL 95 yX5_setOld, Cond.instanceMethod yX5_setOld, Cond.selects RX5 yX5_setOld yX5_setOld, Cond.code yX5_setOld cX5_setOld 7 none, Cond.methodLink RL 96 yL_give, Cond.static yL_give, Cond.codeWith yL_give cL_give 5 (some .int) [(0, 10, 13, 13)], Cond.methodLink RL 21 yX4_give, Cond.instanceMethod yX4_give, Cond.selects RX4 yX4_give yX4_give, Cond.code yX4_give cX4_give 6 (some .int), Cond.fieldLink RX4 75 "LogTurner$LogFile" "rule" "LLogTurner$Rule;", Cond.fieldLink RX4 79 "LogTurner$Rule" "number" "I", Cond.methodLink RX4 71 yX4_fileOf, Cond.instanceMethod yX4_fileOf, Cond.selects RX4 yX4_fileOf yX4_fileOf, Cond.code yX4_fileOf cX4_fileOf 2 (some (.object "LogTurner$LogFile")), Cond.methodLink RL 99 yX5_give]
def wsL_law0_r8 : List Cond := [Cond.instanceMethod yX5_give, Cond.selects RX5 yX5_give yX5_give, Cond.code yX5_give cX5_give 4 (some .int), Cond.methodLink RX5 87 yX5_isFile, Cond.static yX5_isFile, Cond.code yX5_isFile cX5_isFile 1 (some .boolean), Cond.methodLink RL 100 yL_open, Cond.static yL_open, Cond.codeWith yL_open cL_open 4 (some .int) [(0, 6, 9, 13)], Cond.methodLink RL 25 yX4_open, Cond.instanceMethod yX4_open, Cond.selects RX4 yX4_open yX4_open, Cond.code yX4_open cX4_open 5 none, Cond.fieldLink RX4 86 "LogTurner$Holder" "file" "LLogTurner$LogFile;", Cond.fieldLink RX4 90 "LogTurner$LogFile" "livePart" "LLogTurner$Part;", Cond.fieldLink RX4 94 "LogTurner$Holder" "part" "LLogTurner$Part;", Cond.methodLink RX4 82 yX4_holderOf, Cond.instanceMethod yX4_holderOf, Cond.selects RX4 yX4_holderOf yX4_holderOf, Cond.code yX4_holderOf cX4_holderOf 2 (some (.object "LogTurner$Holder")), Cond.methodLink RL 103 yX5_open, Cond.instanceMethod yX5_open, Cond.selects RX5 yX5_open yX5_open, Cond.code yX5_open cX5_open 3 none]
def wsL_law0_r9 : List Cond := [Cond.methodLink RX5 90 yX5_isHolder, Cond.static yX5_isHolder, Cond.code yX5_isHolder cX5_isHolder 1 (some .boolean), Cond.methodLink RL 104 yL_shut, Cond.static yL_shut, Cond.codeWith yL_shut cL_shut 4 (some .int) [(0, 16, 19, 13)], Cond.methodLink RL 29 yX4_shut, Cond.instanceMethod yX4_shut, Cond.selects RX4 yX4_shut yX4_shut, Cond.code yX4_shut cX4_shut 4 (some .boolean), Cond.methodLink RL 107 yX5_shut, Cond.instanceMethod yX5_shut, Cond.selects RX5 yX5_shut yX5_shut, Cond.code yX5_shut cX5_shut 3 (some .boolean), Cond.methodLink RL 108 yL_tell, Cond.static yL_tell, Cond.codeWith yL_tell cL_tell 4 (some .int) [(0, 16, 19, 13), (0, 16, 22, 36)], Cond.classLink RL 36 "java/lang/IllegalStateException", Cond.methodLink RL 33 yX4_tell, Cond.instanceMethod yX4_tell, Cond.selects RX4 yX4_tell yX4_tell, Cond.code yX4_tell cX4_tell 5 (some .boolean), Cond.classLink RX4 97 "java/lang/IllegalStateException", Cond.initialized "java/lang/IllegalStateException"]
def wsL_law0_r10 : List Cond := [Cond.methodLink RL 110 yX5_tell, Cond.instanceMethod yX5_tell, Cond.selects RX5 yX5_tell yX5_tell, Cond.code yX5_tell cX5_tell 4 (some .boolean), Cond.methodLink RL 111 yL_write, Cond.static yL_write, Cond.codeWith yL_write cL_write 5 (some .int) [(0, 10, 13, 13), (0, 10, 17, 15), (0, 10, 21, 36)], Cond.methodLink RL 38 yX4_write, Cond.instanceMethod yX4_write, Cond.selects RX4 yX4_write yX4_write, Cond.code yX4_write cX4_write 4 (some .int), Cond.fieldLink RX4 104 "LogTurner$Part" "lineCount" "I", Cond.methodLink RL 113 yX5_write, Cond.instanceMethod yX5_write, Cond.selects RX5 yX5_write yX5_write, Cond.code yX5_write cX5_write 5 (some .int), Cond.methodLink RL 114 yL_advance, Cond.static yL_advance, Cond.codeWith yL_advance cL_advance 4 (some .int) [(0, 9, 12, 15), (0, 9, 15, 36)], Cond.methodLink RL 41 yX4_advance, Cond.instanceMethod yX4_advance, Cond.selects RX4 yX4_advance yX4_advance, Cond.code yX4_advance cX4_advance 2 (some .int), Cond.fieldLink RX4 109 "LogTurner" "today" "I"]
def wsL_law0_r11 : List Cond := [Cond.methodLink RL 116 yX5_advance, Cond.instanceMethod yX5_advance, Cond.selects RX5 yX5_advance yX5_advance, Cond.code yX5_advance cX5_advance 3 (some .int), Cond.fieldLink RX5 93 "LogTurnerModel" "day" "I", Cond.methodLink RL 117 yX4_run, Cond.instanceMethod yX4_run, Cond.selects RX4 yX4_run yX4_run, Cond.code yX4_run cX4_run 3 (some .int), Cond.methodLink RX4 114 yX4_isDueOn, Cond.static yX4_isDueOn, Cond.code yX4_isDueOn cX4_isDueOn 5 (some .boolean), Cond.fieldLink RX4 130 "LogTurner$LogFile" "lastTurn" "I", Cond.methodLink RX4 188 yX4_isTooSoon, Cond.static yX4_isTooSoon, Cond.code yX4_isTooSoon cX4_isTooSoon 2 (some .boolean), Cond.fieldLink RX4 198 "LogTurner$LogFile" "everTurned" "Z", Cond.methodLink RX4 191 yX4_hasWeekdayCome, Cond.static yX4_hasWeekdayCome, Cond.code yX4_hasWeekdayCome cX4_hasWeekdayCome 4 (some .boolean), Cond.methodLink RX4 201 yJ9_floorMod_7cf53, Cond.static yJ9_floorMod_7cf53, Cond.initialized RJ9, Cond.code yJ9_floorMod_7cf53 cJ9_floorMod_7cf53 3 (some .int)]
def wsL_law0_r12 : List Cond := [Cond.methodLink RX4 195 yX4_hasMonthlyCome, Cond.static yX4_hasMonthlyCome, Cond.code yX4_hasMonthlyCome cX4_hasMonthlyCome 4 (some .boolean), Cond.methodLink RX4 118 yX4_turnToday, Cond.instanceMethod yX4_turnToday, Cond.selects RX4 yX4_turnToday yX4_turnToday, Cond.code yX4_turnToday cX4_turnToday 3 (some .int), Cond.fieldLink RX4 137 "LogTurner$LogFile" "oldParts" "Ljava/util/ArrayList;", Cond.fieldLink RX4 150 "LogTurner$Part" "turnDay" "I", Cond.classLink RX4 105 RX2, Cond.methodLink RX4 141 yJx4a65c_size_8abf5, Cond.instanceMethod yJx4a65c_size_8abf5, Cond.selects RJx4a65c yJx4a65c_size_8abf5 yJx4a65c_size_8abf5, Cond.code yJx4a65c_size_8abf5 cJx4a65c_size_8abf5 1 (some .int), Cond.fieldLink RJx4a65c 48 "java/util/ArrayList" "size" "I", Cond.methodLink RX4 207 yJx4a65c_add_9ea2d, Cond.instanceMethod yJx4a65c_add_9ea2d, Cond.selects RJx4a65c yJx4a65c_add_9ea2d yJx4a65c_add_9ea2d, Cond.code yJx4a65c_add_9ea2d cJx4a65c_add_9ea2d 2 (some .boolean), Cond.fieldLink RJx4a65c 63 "java/util/ArrayList" "modCount" "I", Cond.sameField "java/util/ArrayList" "java/util/AbstractList" "modCount" "I", Cond.methodLink RJx4a65c 131 yJx4a65c_add_72be8, Cond.instanceMethod yJx4a65c_add_72be8, Cond.selects RJx4a65c yJx4a65c_add_72be8 yJx4a65c_add_72be8]
def wsL_law0_r13 : List Cond := [Cond.code yJx4a65c_add_72be8 cJx4a65c_add_72be8 4 none, Cond.methodLink RJx4a65c 129 yJx4a65c_grow_d5877, Cond.instanceMethod yJx4a65c_grow_d5877, Cond.selects RJx4a65c yJx4a65c_grow_d5877 yJx4a65c_grow_d5877, Cond.code yJx4a65c_grow_d5877 cJx4a65c_grow_d5877 1 (some (.array (.object "java/lang/Object"))), Cond.methodLink RJx4a65c 69 yJx4a65c_grow_92f84, Cond.instanceMethod yJx4a65c_grow_92f84, Cond.selects RJx4a65c yJx4a65c_grow_92f84 yJx4a65c_grow_92f84, Cond.code yJx4a65c_grow_92f84 cJx4a65c_grow_92f84 4 (some (.array (.object "java/lang/Object"))), Cond.methodLink RJx4a65c 79 Lib.Math.max.name, Cond.static Lib.Math.max.name, Cond.initialized "java/lang/Math", Cond.code Lib.Math.max.name Lib.Math.max.code 2 (some .int), Cond.classLink RJx4a65c 7 "java/lang/Object", Cond.methodLink RJx4a65c 73 yJ8_newLength_cabcc, Cond.static yJ8_newLength_cabcc, Cond.initialized RJ8, Cond.code yJ8_newLength_cabcc cJ8_newLength_cabcc 4 (some .int), Cond.methodLink RJ8 194 Lib.Math.max.name, Cond.constant RJ8 200 (2147483639), Cond.methodLink RJ8 201 yJ8_hugeLength_7cf53, Cond.static yJ8_hugeLength_7cf53, Cond.code yJ8_hugeLength_7cf53 cJ8_hugeLength_7cf53 3 (some .int), Cond.methodLink RJx4a65c 66 yJ7_copyOf_1904c]
def wsL_law0_r14 : List Cond := [Cond.static yJ7_copyOf_1904c, Cond.initialized RJ7, Cond.code yJ7_copyOf_1904c cJ7_copyOf_1904c 2 (some (.array (.object "java/lang/Object"))), Cond.methodLink RJ7 86 ⟨"java/lang/Object", "getClass", "()Ljava/lang/Class;"⟩, Cond.selects "[Ljava/lang/Object;" ⟨"java/lang/Object", "getClass", "()Ljava/lang/Class;"⟩ ⟨"java/lang/Object", "getClass", "()Ljava/lang/Class;"⟩, Cond.instanceMethod ⟨"java/lang/Object", "getClass", "()Ljava/lang/Class;"⟩, Cond.native ⟨"java/lang/Object", "getClass", "()Ljava/lang/Class;"⟩, Cond.methodLink RJ7 300 yJ7_copyOf_6403c, Cond.static yJ7_copyOf_6403c, Cond.code yJ7_copyOf_6403c cJ7_copyOf_6403c 4 (some (.array (.object "java/lang/Object"))), Cond.classLink RJ7 110 "[Ljava/lang/Object;", Cond.classLink RJ7 2 "java/lang/Object", Cond.methodLink RJ7 304 Lib.Math.min.name, Cond.static Lib.Math.min.name, Cond.code Lib.Math.min.name Lib.Math.min.code 2 (some .int), Cond.methodLink RJ7 150 arraycopyName, Cond.native arraycopyName, Cond.static arraycopyName, Cond.initialized "java/lang/System", Cond.methodLink RX4 133 yX4_markTurnedToday, Cond.instanceMethod yX4_markTurnedToday, Cond.selects RX4 yX4_markTurnedToday yX4_markTurnedToday, Cond.code yX4_markTurnedToday cX4_markTurnedToday 2 none, Cond.methodLink RX4 212 yX4_squeezeOldParts]
def wsL_law0_r15 : List Cond := [Cond.instanceMethod yX4_squeezeOldParts, Cond.selects RX4 yX4_squeezeOldParts yX4_squeezeOldParts, Cond.code yX4_squeezeOldParts cX4_squeezeOldParts 4 none, Cond.classLink RX4 105 "LogTurner$Part", Cond.fieldLink RX4 157 "LogTurner$Part" "squeezed" "Z", Cond.methodLink RX4 179 yJx4a65c_get_915e3, Cond.instanceMethod yJx4a65c_get_915e3, Cond.selects RJx4a65c yJx4a65c_get_915e3 yJx4a65c_get_915e3, Cond.code yJx4a65c_get_915e3 cJx4a65c_get_915e3 2 (some (.object "java/lang/Object")), Cond.methodLink RJx4a65c 118 yJ15_checkIndex_7cf53, Cond.static yJ15_checkIndex_7cf53, Cond.initialized RJ15, Cond.code yJ15_checkIndex_7cf53 cJ15_checkIndex_7cf53 2 (some .int), Cond.methodLink RJ15 105 yJ3_checkIndex_8e157, Cond.static yJ3_checkIndex_8e157, Cond.initialized RJ3, Cond.code yJ3_checkIndex_8e157 cJ3_checkIndex_8e157 3 (some .int), Cond.methodLink RJx4a65c 123 yJx4a65c_elementData_915e3, Cond.instanceMethod yJx4a65c_elementData_915e3, Cond.selects RJx4a65c yJx4a65c_elementData_915e3 yJx4a65c_elementData_915e3, Cond.code yJx4a65c_elementData_915e3 cJx4a65c_elementData_915e3 2 (some (.object "java/lang/Object")), Cond.methodLink RX4 219 yX4_isHeld, Cond.instanceMethod yX4_isHeld, Cond.selects RX4 yX4_isHeld yX4_isHeld]
def wsL_law0_r16 : List Cond := [Cond.code yX4_isHeld cX4_isHeld 3 (some .boolean), Cond.methodLink RX4 216 yX4_throwOldParts, Cond.instanceMethod yX4_throwOldParts, Cond.selects RX4 yX4_throwOldParts yX4_throwOldParts, Cond.code yX4_throwOldParts cX4_throwOldParts 7 (some .int), Cond.fieldLink RX4 160 "LogTurner$LogFile" "thrownLines" "I", Cond.methodLink RX4 223 yX4_mustGo, Cond.instanceMethod yX4_mustGo, Cond.selects RX4 yX4_mustGo yX4_mustGo, Cond.code yX4_mustGo cX4_mustGo 6 (some .boolean), Cond.methodLink RX4 227 yJx4a65c_remove_915e3, Cond.instanceMethod yJx4a65c_remove_915e3, Cond.selects RJx4a65c yJx4a65c_remove_915e3 yJx4a65c_remove_915e3, Cond.code yJx4a65c_remove_915e3 cJx4a65c_remove_915e3 4 (some (.object "java/lang/Object")), Cond.methodLink RJx4a65c 144 yJx4a65c_fastRemove_b59b0, Cond.instanceMethod yJx4a65c_fastRemove_b59b0, Cond.selects RJx4a65c yJx4a65c_fastRemove_b59b0 yJx4a65c_fastRemove_b59b0, Cond.code yJx4a65c_fastRemove_b59b0 cJx4a65c_fastRemove_b59b0 4 none, Cond.methodLink RJx4a65c 112 arraycopyName, Cond.methodLink RX4 122 yX4_hasFileAmong, Cond.instanceMethod yX4_hasFileAmong, Cond.selects RX4 yX4_hasFileAmong yX4_hasFileAmong, Cond.code yX4_hasFileAmong cX4_hasFileAmong 4 (some .boolean), Cond.methodLink RX4 126 yX4_tellHoldersOf]
def wsL_law0_r17 : List Cond := [Cond.instanceMethod yX4_tellHoldersOf, Cond.selects RX4 yX4_tellHoldersOf yX4_tellHoldersOf, Cond.code yX4_tellHoldersOf cX4_tellHoldersOf 4 none, Cond.methodLink RL 120 yX5_run, Cond.instanceMethod yX5_run, Cond.selects RX5 yX5_run yX5_run, Cond.code yX5_run cX5_run 6 (some .int), Cond.methodLink RX5 114 yX5_isDueOn, Cond.instanceMethod yX5_isDueOn, Cond.selects RX5 yX5_isDueOn yX5_isDueOn, Cond.code yX5_isDueOn cX5_isDueOn 6 (some .boolean), Cond.methodLink RX5 96 yX5_comes, Cond.static yX5_comes, Cond.code yX5_comes cX5_comes 6 (some .boolean), Cond.methodLink RX5 118 yX5_turns, Cond.instanceMethod yX5_turns, Cond.selects RX5 yX5_turns yX5_turns, Cond.code yX5_turns cX5_turns 8 (some .int), Cond.fieldLink RX5 100 "LogTurnerModel" "parts" "I", Cond.methodLink RX5 103 yX5_isHeld, Cond.instanceMethod yX5_isHeld, Cond.selects RX5 yX5_isHeld yX5_isHeld, Cond.code yX5_isHeld cX5_isHeld 4 (some .boolean), Cond.methodLink RX5 106 yX5_oldsOf]
def wsL_law0_r18 : List Cond := [Cond.instanceMethod yX5_oldsOf, Cond.selects RX5 yX5_oldsOf yX5_oldsOf, Cond.code yX5_oldsOf cX5_oldsOf 4 (some .int), Cond.methodLink RX5 110 yX5_throwsAway, Cond.instanceMethod yX5_throwsAway, Cond.selects RX5 yX5_throwsAway yX5_throwsAway, Cond.code yX5_throwsAway cX5_throwsAway 3 none, Cond.methodLink RL 121 yL_turn, Cond.static yL_turn, Cond.codeWith yL_turn cL_turn 4 (some .int) [(0, 9, 12, 13)], Cond.methodLink RL 45 yX4_turn, Cond.instanceMethod yX4_turn, Cond.selects RX4 yX4_turn yX4_turn, Cond.code yX4_turn cX4_turn 2 (some .int), Cond.methodLink RL 123 yX5_turn, Cond.instanceMethod yX5_turn, Cond.selects RX5 yX5_turn yX5_turn, Cond.code yX5_turn cX5_turn 2 (some .int), Cond.methodLink RL 124 yL_lose, Cond.static yL_lose, Cond.codeWith yL_lose cL_lose 4 (some .int) [(0, 9, 12, 13)], Cond.methodLink RL 48 yX4_lose, Cond.instanceMethod yX4_lose, Cond.selects RX4 yX4_lose yX4_lose]
def wsL_law0_r19 : List Cond := [Cond.code yX4_lose cX4_lose 4 (some .int), Cond.methodLink RL 126 yX5_lose, Cond.instanceMethod yX5_lose, Cond.selects RX5 yX5_lose yX5_lose, Cond.code yX5_lose cX5_lose 3 (some .int), Cond.methodLink RL 127 yX4_day, Cond.instanceMethod yX4_day, Cond.selects RX4 yX4_day yX4_day, Cond.code yX4_day cX4_day 1 (some .int), Cond.methodLink RL 130 yX5_day, Cond.instanceMethod yX5_day, Cond.selects RX5 yX5_day yX5_day, Cond.code yX5_day cX5_day 1 (some .int), Cond.methodLink RL 131 yL_isDue, Cond.static yL_isDue, Cond.codeWith yL_isDue cL_isDue 4 (some .int) [(0, 16, 19, 13)], Cond.methodLink RL 51 yX4_isDue, Cond.instanceMethod yX4_isDue, Cond.selects RX4 yX4_isDue yX4_isDue, Cond.code yX4_isDue cX4_isDue 2 (some .boolean), Cond.methodLink RL 133 yX5_isDue, Cond.instanceMethod yX5_isDue, Cond.selects RX5 yX5_isDue yX5_isDue, Cond.code yX5_isDue cX5_isDue 2 (some .boolean)]
def wsL_law0_r20 : List Cond := [Cond.methodLink RL 134 yL_nextDue, Cond.static yL_nextDue, Cond.codeWith yL_nextDue cL_nextDue 4 (some .int) [(0, 9, 12, 13)], Cond.methodLink RL 54 yX4_nextDue, Cond.instanceMethod yX4_nextDue, Cond.selects RX4 yX4_nextDue yX4_nextDue, Cond.code yX4_nextDue cX4_nextDue 4 (some .int), Cond.methodLink RL 136 yX5_nextDue, Cond.instanceMethod yX5_nextDue, Cond.selects RX5 yX5_nextDue yX5_nextDue, Cond.code yX5_nextDue cX5_nextDue 3 (some .int), Cond.methodLink RL 137 yL_live, Cond.static yL_live, Cond.codeWith yL_live cL_live 4 (some .int) [(0, 9, 12, 13)], Cond.methodLink RL 57 yX4_live, Cond.instanceMethod yX4_live, Cond.selects RX4 yX4_live yX4_live, Cond.code yX4_live cX4_live 2 (some .int), Cond.methodLink RL 139 yX5_live, Cond.instanceMethod yX5_live, Cond.selects RX5 yX5_live yX5_live, Cond.code yX5_live cX5_live 2 (some .int), Cond.methodLink RL 140 yL_olds, Cond.static yL_olds]
def wsL_law0_r21 : List Cond := [Cond.codeWith yL_olds cL_olds 4 (some .int) [(0, 9, 12, 13)], Cond.methodLink RL 60 yX4_olds, Cond.instanceMethod yX4_olds, Cond.selects RX4 yX4_olds yX4_olds, Cond.code yX4_olds cX4_olds 2 (some .int), Cond.methodLink RL 142 yX5_olds, Cond.instanceMethod yX5_olds, Cond.selects RX5 yX5_olds yX5_olds, Cond.code yX5_olds cX5_olds 2 (some .int), Cond.methodLink RL 143 yL_lines, Cond.static yL_lines, Cond.codeWith yL_lines cL_lines 5 (some .int) [(0, 10, 13, 13)], Cond.methodLink RL 63 yX4_lines, Cond.instanceMethod yX4_lines, Cond.selects RX4 yX4_lines yX4_lines, Cond.code yX4_lines cX4_lines 3 (some .int), Cond.methodLink RX4 146 yX4_oldPartOf, Cond.static yX4_oldPartOf, Cond.code yX4_oldPartOf cX4_oldPartOf 2 (some (.object "LogTurner$Part")), Cond.methodLink RL 145 yX5_lines, Cond.instanceMethod yX5_lines, Cond.selects RX5 yX5_lines yX5_lines, Cond.code yX5_lines cX5_lines 4 (some .int), Cond.methodLink RX5 121 yX5_placeOf]
def wsL_law0_r22 : List Cond := [Cond.instanceMethod yX5_placeOf, Cond.selects RX5 yX5_placeOf yX5_placeOf, Cond.code yX5_placeOf cX5_placeOf 6 (some .int), Cond.methodLink RL 146 yL_name, Cond.static yL_name, Cond.codeWith yL_name cL_name 5 (some .int) [(0, 10, 13, 13)], Cond.methodLink RL 66 yX4_name, Cond.instanceMethod yX4_name, Cond.selects RX4 yX4_name yX4_name, Cond.code yX4_name cX4_name 5 (some .int), Cond.methodLink RX4 153 yX4_countOlderOfDay, Cond.static yX4_countOlderOfDay, Cond.code yX4_countOlderOfDay cX4_countOlderOfDay 5 (some .int), Cond.methodLink RL 148 yX5_name, Cond.instanceMethod yX5_name, Cond.selects RX5 yX5_name yX5_name, Cond.code yX5_name cX5_name 6 (some .int), Cond.methodLink RL 149 yL_isSqueezed, Cond.static yL_isSqueezed, Cond.codeWith yL_isSqueezed cL_isSqueezed 5 (some .int) [(0, 17, 20, 13)], Cond.methodLink RL 69 yX4_isSqueezed, Cond.instanceMethod yX4_isSqueezed, Cond.selects RX4 yX4_isSqueezed yX4_isSqueezed, Cond.code yX4_isSqueezed cX4_isSqueezed 3 (some .boolean)]
def wsL_law0_r23 : List Cond := [Cond.methodLink RL 151 yX5_isSqueezed, Cond.instanceMethod yX5_isSqueezed, Cond.selects RX5 yX5_isSqueezed yX5_isSqueezed, Cond.code yX5_isSqueezed cX5_isSqueezed 4 (some .boolean), Cond.methodLink RL 152 yL_thrown, Cond.static yL_thrown, Cond.codeWith yL_thrown cL_thrown 4 (some .int) [(0, 9, 12, 13)], Cond.methodLink RL 73 yX4_thrown, Cond.instanceMethod yX4_thrown, Cond.selects RX4 yX4_thrown yX4_thrown, Cond.code yX4_thrown cX4_thrown 2 (some .int), Cond.methodLink RL 154 yX5_thrown_, Cond.instanceMethod yX5_thrown_, Cond.selects RX5 yX5_thrown_ yX5_thrown_, Cond.code yX5_thrown_ cX5_thrown_ 2 (some .int), Cond.methodLink RL 155 yL_holds, Cond.static yL_holds, Cond.codeWith yL_holds cL_holds 4 (some .int) [(0, 9, 12, 13)], Cond.methodLink RL 76 yX4_holds, Cond.instanceMethod yX4_holds, Cond.selects RX4 yX4_holds yX4_holds, Cond.code yX4_holds cX4_holds 4 (some .int), Cond.fieldLink RX4 163 "LogTurner$LogFile" "number" "I", Cond.methodLink RX4 164 yX4_placeOf]
def wsL_law0_r24 : List Cond := [Cond.static yX4_placeOf, Cond.code yX4_placeOf cX4_placeOf 3 (some .int), Cond.methodLink RL 157 yX5_holds, Cond.instanceMethod yX5_holds, Cond.selects RX5 yX5_holds yX5_holds, Cond.code yX5_holds cX5_holds 4 (some .int)]
def wsL_law0 : List Cond := (wsL_law0_r1 ++ (wsL_law0_r2 ++ (wsL_law0_r3 ++ (wsL_law0_r4 ++ (wsL_law0_r5 ++ (wsL_law0_r6 ++ (wsL_law0_r7 ++ (wsL_law0_r8 ++ (wsL_law0_r9 ++ (wsL_law0_r10 ++ (wsL_law0_r11 ++ (wsL_law0_r12 ++ (wsL_law0_r13 ++ (wsL_law0_r14 ++ (wsL_law0_r15 ++ (wsL_law0_r16 ++ (wsL_law0_r17 ++ (wsL_law0_r18 ++ (wsL_law0_r19 ++ (wsL_law0_r20 ++ (wsL_law0_r21 ++ (wsL_law0_r22 ++ (wsL_law0_r23 ++ wsL_law0_r24))))))))))))))))))))))) ++ wsX40 ++ wsX50 ++ wsX30 ++ wsX10 ++ wsX00 ++ wsJx4a65c0 ++ wsX20 ++ ([] : List Cond)
def wsL_law : List Cond := wsL_law0 ++ (vx_atS RX4 172 "java/lang/IndexOutOfBoundsException" ["java/lang/RuntimeException", "java/lang/Exception"]).filter goodWord ++ (vx_atS RX4 187 "java/lang/IllegalArgumentException" ["java/lang/RuntimeException", "java/lang/Exception"]).filter goodWord ++ (vx_atS RX4 101 "java/lang/IllegalStateException" ["java/lang/RuntimeException", "java/lang/Exception"]).filter goodWord
theorem inlX0 : ∀ w ∈ wsX00, w ∈ wsL_law := fun _ h => List.mem_append_left _ (List.mem_append_left _ (List.mem_append_left _ (List.mem_append_left _ (List.mem_append_left _ (List.mem_append_left _ (List.mem_append_right _ h))))))
theorem inlX1 : ∀ w ∈ wsX10, w ∈ wsL_law := fun _ h => List.mem_append_left _ (List.mem_append_left _ (List.mem_append_left _ (List.mem_append_left _ (List.mem_append_left _ (List.mem_append_left _ (List.mem_append_left _ (List.mem_append_right _ h)))))))
theorem inlX2 : ∀ w ∈ wsX20, w ∈ wsL_law := fun _ h => List.mem_append_left _ (List.mem_append_left _ (List.mem_append_left _ (List.mem_append_left _ (List.mem_append_right _ h))))
theorem inlX3 : ∀ w ∈ wsX30, w ∈ wsL_law := fun _ h => List.mem_append_left _ (List.mem_append_left _ (List.mem_append_left _ (List.mem_append_left _ (List.mem_append_left _ (List.mem_append_left _ (List.mem_append_left _ (List.mem_append_left _ (List.mem_append_right _ h))))))))
theorem inlX4 : ∀ w ∈ wsX40, w ∈ wsL_law := fun _ h => List.mem_append_left _ (List.mem_append_left _ (List.mem_append_left _ (List.mem_append_left _ (List.mem_append_left _ (List.mem_append_left _ (List.mem_append_left _ (List.mem_append_left _ (List.mem_append_left _ (List.mem_append_left _ (List.mem_append_right _ h))))))))))
theorem inlX5 : ∀ w ∈ wsX50, w ∈ wsL_law := fun _ h => List.mem_append_left _ (List.mem_append_left _ (List.mem_append_left _ (List.mem_append_left _ (List.mem_append_left _ (List.mem_append_left _ (List.mem_append_left _ (List.mem_append_left _ (List.mem_append_left _ (List.mem_append_right _ h)))))))))
theorem inlJx4a65c : ∀ w ∈ wsJx4a65c0, w ∈ wsL_law := fun _ h => List.mem_append_left _ (List.mem_append_left _ (List.mem_append_left _ (List.mem_append_left _ (List.mem_append_left _ (List.mem_append_right _ h)))))
abbrev vwCl : List vw_C := [(RJx4a65c, TJx4a65c, 3), (RX0, TX0, 2), (RX1, TX1, 7), (RX2, TX2, 3), (RX3, TX3, 10), (RX4, TX4, 4), (RX5, TX5, 23)]
end
section
theorem dX0_init_0 : decode cX0_init 0 = .ok (.aload_n 0, 1) := by decide +kernel
theorem dX0_init_1 : decode cX0_init 1 = .ok (.invokespecial 1, 3) := by decide +kernel
theorem dX0_init_4 : decode cX0_init 4 = .ok (.return_, 1) := by decide +kernel
theorem dX1_init_0 : decode cX1_init 0 = .ok (.aload_n 0, 1) := by decide +kernel
theorem dX1_init_1 : decode cX1_init 1 = .ok (.invokespecial 1, 3) := by decide +kernel
theorem dX1_init_4 : decode cX1_init 4 = .ok (.aload_n 0, 1) := by decide +kernel
theorem dX1_init_5 : decode cX1_init 5 = .ok (.new 7, 3) := by decide +kernel
theorem dX1_init_8 : decode cX1_init 8 = .ok (.dup, 1) := by decide +kernel
theorem dX1_init_9 : decode cX1_init 9 = .ok (.invokespecial 9, 3) := by decide +kernel
theorem dX1_init_12 : decode cX1_init 12 = .ok (.putfield 10, 3) := by decide +kernel
theorem dX1_init_15 : decode cX1_init 15 = .ok (.aload_n 0, 1) := by decide +kernel
theorem dX1_init_16 : decode cX1_init 16 = .ok (.new 16, 3) := by decide +kernel
theorem dX1_init_19 : decode cX1_init 19 = .ok (.dup, 1) := by decide +kernel
theorem dX1_init_20 : decode cX1_init 20 = .ok (.invokespecial 18, 3) := by decide +kernel
theorem dX1_init_23 : decode cX1_init 23 = .ok (.putfield 19, 3) := by decide +kernel
theorem dX1_init_26 : decode cX1_init 26 = .ok (.aload_n 0, 1) := by decide +kernel
theorem dX1_init_27 : decode cX1_init 27 = .ok (.iload_n 1, 1) := by decide +kernel
theorem dX1_init_28 : decode cX1_init 28 = .ok (.putfield 23, 3) := by decide +kernel
theorem dX1_init_31 : decode cX1_init 31 = .ok (.aload_n 0, 1) := by decide +kernel
theorem dX1_init_32 : decode cX1_init 32 = .ok (.aload_n 2, 1) := by decide +kernel
theorem dX1_init_33 : decode cX1_init 33 = .ok (.putfield 27, 3) := by decide +kernel
theorem dX1_init_36 : decode cX1_init 36 = .ok (.return_, 1) := by decide +kernel
theorem dX2_init_0 : decode cX2_init 0 = .ok (.aload_n 0, 1) := by decide +kernel
theorem dX2_init_1 : decode cX2_init 1 = .ok (.invokespecial 1, 3) := by decide +kernel
theorem dX2_init_4 : decode cX2_init 4 = .ok (.return_, 1) := by decide +kernel
theorem dX3_init_0 : decode cX3_init 0 = .ok (.aload_n 0, 1) := by decide +kernel
theorem dX3_init_1 : decode cX3_init 1 = .ok (.invokespecial 3, 3) := by decide +kernel
theorem dX3_init_4 : decode cX3_init 4 = .ok (.aload_n 0, 1) := by decide +kernel
theorem dX3_init_5 : decode cX3_init 5 = .ok (.iconst (-1), 1) := by decide +kernel
theorem dX3_init_6 : decode cX3_init 6 = .ok (.putfield 9, 3) := by decide +kernel
theorem dX3_init_9 : decode cX3_init 9 = .ok (.aload_n 0, 1) := by decide +kernel
theorem dX3_init_10 : decode cX3_init 10 = .ok (.iconst (-1), 1) := by decide +kernel
theorem dX3_init_11 : decode cX3_init 11 = .ok (.putfield 15, 3) := by decide +kernel
theorem dX3_init_14 : decode cX3_init 14 = .ok (.aload_n 0, 1) := by decide +kernel
theorem dX3_init_15 : decode cX3_init 15 = .ok (.iconst 3, 1) := by decide +kernel
theorem dX3_init_16 : decode cX3_init 16 = .ok (.putfield 18, 3) := by decide +kernel
theorem dX3_init_19 : decode cX3_init 19 = .ok (.aload_n 0, 1) := by decide +kernel
theorem dX3_init_20 : decode cX3_init 20 = .ok (.iload_n 1, 1) := by decide +kernel
theorem dX3_init_21 : decode cX3_init 21 = .ok (.putfield 21, 3) := by decide +kernel
theorem dX3_init_24 : decode cX3_init 24 = .ok (.return_, 1) := by decide +kernel
theorem dX4_init_0 : decode cX4_init 0 = .ok (.aload_n 0, 1) := by decide +kernel
theorem dX4_init_1 : decode cX4_init 1 = .ok (.invokespecial 1, 3) := by decide +kernel
theorem dX4_init_4 : decode cX4_init 4 = .ok (.aload_n 0, 1) := by decide +kernel
theorem dX4_init_5 : decode cX4_init 5 = .ok (.iconst 3, 1) := by decide +kernel
theorem dX4_init_6 : decode cX4_init 6 = .ok (.anewarray 9, 3) := by decide +kernel
theorem dX4_init_9 : decode cX4_init 9 = .ok (.putfield 11, 3) := by decide +kernel
theorem dX4_init_12 : decode cX4_init 12 = .ok (.aload_n 0, 1) := by decide +kernel
theorem dX4_init_13 : decode cX4_init 13 = .ok (.iconst 5, 1) := by decide +kernel
theorem dX4_init_14 : decode cX4_init 14 = .ok (.anewarray 15, 3) := by decide +kernel
theorem dX4_init_17 : decode cX4_init 17 = .ok (.putfield 17, 3) := by decide +kernel
theorem dX4_init_20 : decode cX4_init 20 = .ok (.aload_n 0, 1) := by decide +kernel
theorem dX4_init_21 : decode cX4_init 21 = .ok (.iconst 4, 1) := by decide +kernel
theorem dX4_init_22 : decode cX4_init 22 = .ok (.anewarray 21, 3) := by decide +kernel
theorem dX4_init_25 : decode cX4_init 25 = .ok (.putfield 23, 3) := by decide +kernel
theorem dX4_init_28 : decode cX4_init 28 = .ok (.iconst 0, 1) := by decide +kernel
theorem dX4_init_29 : decode cX4_init 29 = .ok (.istore_n 1, 1) := by decide +kernel
theorem dX4_init_30 : decode cX4_init 30 = .ok (.iload_n 1, 1) := by decide +kernel
theorem dX4_init_31 : decode cX4_init 31 = .ok (.iconst 3, 1) := by decide +kernel
theorem dX4_init_32 : decode cX4_init 32 = .ok (.if_icmp .ge 23, 3) := by decide +kernel
theorem dX4_init_35 : decode cX4_init 35 = .ok (.aload_n 0, 1) := by decide +kernel
theorem dX4_init_36 : decode cX4_init 36 = .ok (.getfield 11, 3) := by decide +kernel
theorem dX4_init_39 : decode cX4_init 39 = .ok (.iload_n 1, 1) := by decide +kernel
theorem dX4_init_40 : decode cX4_init 40 = .ok (.new 9, 3) := by decide +kernel
theorem dX4_init_43 : decode cX4_init 43 = .ok (.dup, 1) := by decide +kernel
theorem dX4_init_44 : decode cX4_init 44 = .ok (.iload_n 1, 1) := by decide +kernel
theorem dX4_init_45 : decode cX4_init 45 = .ok (.invokespecial 27, 3) := by decide +kernel
theorem dX4_init_48 : decode cX4_init 48 = .ok (.aastore, 1) := by decide +kernel
theorem dX4_init_49 : decode cX4_init 49 = .ok (.iinc 1 1, 3) := by decide +kernel
theorem dX4_init_52 : decode cX4_init 52 = .ok (.goto (-22), 3) := by decide +kernel
theorem dX4_init_55 : decode cX4_init 55 = .ok (.iconst 0, 1) := by decide +kernel
theorem dX4_init_56 : decode cX4_init 56 = .ok (.istore_n 1, 1) := by decide +kernel
theorem dX4_init_57 : decode cX4_init 57 = .ok (.iload_n 1, 1) := by decide +kernel
theorem dX4_init_58 : decode cX4_init 58 = .ok (.iconst 5, 1) := by decide +kernel
theorem dX4_init_59 : decode cX4_init 59 = .ok (.if_icmp .ge 29, 3) := by decide +kernel
theorem dX4_init_62 : decode cX4_init 62 = .ok (.aload_n 0, 1) := by decide +kernel
theorem dX4_init_63 : decode cX4_init 63 = .ok (.getfield 17, 3) := by decide +kernel
theorem dX4_init_66 : decode cX4_init 66 = .ok (.iload_n 1, 1) := by decide +kernel
theorem dX4_init_67 : decode cX4_init 67 = .ok (.new 15, 3) := by decide +kernel
theorem dX4_init_70 : decode cX4_init 70 = .ok (.dup, 1) := by decide +kernel
theorem dX4_init_71 : decode cX4_init 71 = .ok (.iload_n 1, 1) := by decide +kernel
theorem dX4_init_72 : decode cX4_init 72 = .ok (.aload_n 0, 1) := by decide +kernel
theorem dX4_init_73 : decode cX4_init 73 = .ok (.getfield 11, 3) := by decide +kernel
theorem dX4_init_76 : decode cX4_init 76 = .ok (.iconst 0, 1) := by decide +kernel
theorem dX4_init_77 : decode cX4_init 77 = .ok (.aaload, 1) := by decide +kernel
theorem dX4_init_78 : decode cX4_init 78 = .ok (.invokespecial 30, 3) := by decide +kernel
theorem dX4_init_81 : decode cX4_init 81 = .ok (.aastore, 1) := by decide +kernel
theorem dX4_init_82 : decode cX4_init 82 = .ok (.iinc 1 1, 3) := by decide +kernel
theorem dX4_init_85 : decode cX4_init 85 = .ok (.goto (-28), 3) := by decide +kernel
theorem dX4_init_88 : decode cX4_init 88 = .ok (.iconst 0, 1) := by decide +kernel
theorem dX4_init_89 : decode cX4_init 89 = .ok (.istore_n 1, 1) := by decide +kernel
theorem dX4_init_90 : decode cX4_init 90 = .ok (.iload_n 1, 1) := by decide +kernel
theorem dX4_init_91 : decode cX4_init 91 = .ok (.iconst 4, 1) := by decide +kernel
theorem dX4_init_92 : decode cX4_init 92 = .ok (.if_icmp .ge 22, 3) := by decide +kernel
theorem dX4_init_95 : decode cX4_init 95 = .ok (.aload_n 0, 1) := by decide +kernel
theorem dX4_init_96 : decode cX4_init 96 = .ok (.getfield 23, 3) := by decide +kernel
theorem dX4_init_99 : decode cX4_init 99 = .ok (.iload_n 1, 1) := by decide +kernel
theorem dX4_init_100 : decode cX4_init 100 = .ok (.new 21, 3) := by decide +kernel
theorem dX4_init_103 : decode cX4_init 103 = .ok (.dup, 1) := by decide +kernel
theorem dX4_init_104 : decode cX4_init 104 = .ok (.invokespecial 33, 3) := by decide +kernel
theorem dX4_init_107 : decode cX4_init 107 = .ok (.aastore, 1) := by decide +kernel
theorem dX4_init_108 : decode cX4_init 108 = .ok (.iinc 1 1, 3) := by decide +kernel
theorem dX4_init_111 : decode cX4_init 111 = .ok (.goto (-21), 3) := by decide +kernel
theorem dX4_init_114 : decode cX4_init 114 = .ok (.return_, 1) := by decide +kernel
theorem dX4_setDue_0 : decode cX4_setDue 0 = .ok (.aload_n 0, 1) := by decide +kernel
theorem dX4_setDue_1 : decode cX4_setDue 1 = .ok (.iload_n 1, 1) := by decide +kernel
theorem dX4_setDue_2 : decode cX4_setDue 2 = .ok (.invokevirtual 34, 3) := by decide +kernel
theorem dX4_setDue_5 : decode cX4_setDue 5 = .ok (.astore 6, 2) := by decide +kernel
theorem dX4_setDue_7 : decode cX4_setDue 7 = .ok (.iload_n 2, 1) := by decide +kernel
theorem dX4_setDue_8 : decode cX4_setDue 8 = .ok (.iconst 0, 1) := by decide +kernel
theorem dX4_setDue_9 : decode cX4_setDue 9 = .ok (.sipush 10000, 3) := by decide +kernel
theorem dX4_setDue_12 : decode cX4_setDue 12 = .ok (.invokestatic 38, 3) := by decide +kernel
theorem dX4_setDue_15 : decode cX4_setDue 15 = .ok (.iload_n 3, 1) := by decide +kernel
theorem dX4_setDue_16 : decode cX4_setDue 16 = .ok (.iconst (-1), 1) := by decide +kernel
theorem dX4_setDue_17 : decode cX4_setDue 17 = .ok (.bipush 6, 2) := by decide +kernel
theorem dX4_setDue_19 : decode cX4_setDue 19 = .ok (.invokestatic 38, 3) := by decide +kernel
theorem dX4_setDue_22 : decode cX4_setDue 22 = .ok (.iload 4, 2) := by decide +kernel
theorem dX4_setDue_24 : decode cX4_setDue 24 = .ok (.iconst (-1), 1) := by decide +kernel
theorem dX4_setDue_25 : decode cX4_setDue 25 = .ok (.bipush 29, 2) := by decide +kernel
theorem dX4_setDue_27 : decode cX4_setDue 27 = .ok (.invokestatic 38, 3) := by decide +kernel
theorem dX4_setDue_30 : decode cX4_setDue 30 = .ok (.iload 5, 2) := by decide +kernel
theorem dX4_setDue_32 : decode cX4_setDue 32 = .ok (.iconst 0, 1) := by decide +kernel
theorem dX4_setDue_33 : decode cX4_setDue 33 = .ok (.bipush 100, 2) := by decide +kernel
theorem dX4_setDue_35 : decode cX4_setDue 35 = .ok (.invokestatic 38, 3) := by decide +kernel
theorem dX4_setDue_38 : decode cX4_setDue 38 = .ok (.aload 6, 2) := by decide +kernel
theorem dX4_setDue_40 : decode cX4_setDue 40 = .ok (.iload_n 2, 1) := by decide +kernel
theorem dX4_setDue_41 : decode cX4_setDue 41 = .ok (.putfield 42, 3) := by decide +kernel
theorem dX4_setDue_44 : decode cX4_setDue 44 = .ok (.aload 6, 2) := by decide +kernel
theorem dX4_setDue_46 : decode cX4_setDue 46 = .ok (.iload_n 3, 1) := by decide +kernel
theorem dX4_setDue_47 : decode cX4_setDue 47 = .ok (.putfield 46, 3) := by decide +kernel
theorem dX4_setDue_50 : decode cX4_setDue 50 = .ok (.aload 6, 2) := by decide +kernel
theorem dX4_setDue_52 : decode cX4_setDue 52 = .ok (.iload 4, 2) := by decide +kernel
theorem dX4_setDue_54 : decode cX4_setDue 54 = .ok (.putfield 49, 3) := by decide +kernel
theorem dX4_setDue_57 : decode cX4_setDue 57 = .ok (.aload 6, 2) := by decide +kernel
theorem dX4_setDue_59 : decode cX4_setDue 59 = .ok (.iload 5, 2) := by decide +kernel
theorem dX4_setDue_61 : decode cX4_setDue 61 = .ok (.putfield 52, 3) := by decide +kernel
theorem dX4_setDue_64 : decode cX4_setDue 64 = .ok (.return_, 1) := by decide +kernel
theorem dX4_setOld_0 : decode cX4_setOld 0 = .ok (.aload_n 0, 1) := by decide +kernel
theorem dX4_setOld_1 : decode cX4_setOld 1 = .ok (.iload_n 1, 1) := by decide +kernel
theorem dX4_setOld_2 : decode cX4_setOld 2 = .ok (.invokevirtual 34, 3) := by decide +kernel
theorem dX4_setOld_5 : decode cX4_setOld 5 = .ok (.astore 7, 2) := by decide +kernel
theorem dX4_setOld_7 : decode cX4_setOld 7 = .ok (.iload_n 2, 1) := by decide +kernel
theorem dX4_setOld_8 : decode cX4_setOld 8 = .ok (.iconst 0, 1) := by decide +kernel
theorem dX4_setOld_9 : decode cX4_setOld 9 = .ok (.bipush 10, 2) := by decide +kernel
theorem dX4_setOld_11 : decode cX4_setOld 11 = .ok (.invokestatic 38, 3) := by decide +kernel
theorem dX4_setOld_14 : decode cX4_setOld 14 = .ok (.iload_n 3, 1) := by decide +kernel
theorem dX4_setOld_15 : decode cX4_setOld 15 = .ok (.iconst 0, 1) := by decide +kernel
theorem dX4_setOld_16 : decode cX4_setOld 16 = .ok (.sipush 1000, 3) := by decide +kernel
theorem dX4_setOld_19 : decode cX4_setOld 19 = .ok (.invokestatic 38, 3) := by decide +kernel
theorem dX4_setOld_22 : decode cX4_setOld 22 = .ok (.aload 7, 2) := by decide +kernel
theorem dX4_setOld_24 : decode cX4_setOld 24 = .ok (.iload_n 2, 1) := by decide +kernel
theorem dX4_setOld_25 : decode cX4_setOld 25 = .ok (.putfield 55, 3) := by decide +kernel
theorem dX4_setOld_28 : decode cX4_setOld 28 = .ok (.aload 7, 2) := by decide +kernel
theorem dX4_setOld_30 : decode cX4_setOld 30 = .ok (.iload_n 3, 1) := by decide +kernel
theorem dX4_setOld_31 : decode cX4_setOld 31 = .ok (.putfield 58, 3) := by decide +kernel
theorem dX4_setOld_34 : decode cX4_setOld 34 = .ok (.aload 7, 2) := by decide +kernel
theorem dX4_setOld_36 : decode cX4_setOld 36 = .ok (.iload 4, 2) := by decide +kernel
theorem dX4_setOld_38 : decode cX4_setOld 38 = .ok (.putfield 61, 3) := by decide +kernel
theorem dX4_setOld_41 : decode cX4_setOld 41 = .ok (.aload 7, 2) := by decide +kernel
theorem dX4_setOld_43 : decode cX4_setOld 43 = .ok (.iload 5, 2) := by decide +kernel
theorem dX4_setOld_45 : decode cX4_setOld 45 = .ok (.putfield 65, 3) := by decide +kernel
theorem dX4_setOld_48 : decode cX4_setOld 48 = .ok (.aload 7, 2) := by decide +kernel
theorem dX4_setOld_50 : decode cX4_setOld 50 = .ok (.iload 6, 2) := by decide +kernel
theorem dX4_setOld_52 : decode cX4_setOld 52 = .ok (.putfield 68, 3) := by decide +kernel
theorem dX4_setOld_55 : decode cX4_setOld 55 = .ok (.return_, 1) := by decide +kernel
theorem dX4_give_0 : decode cX4_give 0 = .ok (.aload_n 0, 1) := by decide +kernel
theorem dX4_give_1 : decode cX4_give 1 = .ok (.iload_n 1, 1) := by decide +kernel
theorem dX4_give_2 : decode cX4_give 2 = .ok (.invokevirtual 71, 3) := by decide +kernel
theorem dX4_give_5 : decode cX4_give 5 = .ok (.astore_n 3, 1) := by decide +kernel
theorem dX4_give_6 : decode cX4_give 6 = .ok (.aload_n 0, 1) := by decide +kernel
theorem dX4_give_7 : decode cX4_give 7 = .ok (.iload_n 2, 1) := by decide +kernel
theorem dX4_give_8 : decode cX4_give 8 = .ok (.invokevirtual 34, 3) := by decide +kernel
theorem dX4_give_11 : decode cX4_give 11 = .ok (.astore 4, 2) := by decide +kernel
theorem dX4_give_13 : decode cX4_give 13 = .ok (.aload_n 3, 1) := by decide +kernel
theorem dX4_give_14 : decode cX4_give 14 = .ok (.getfield 75, 3) := by decide +kernel
theorem dX4_give_17 : decode cX4_give 17 = .ok (.getfield 79, 3) := by decide +kernel
theorem dX4_give_20 : decode cX4_give 20 = .ok (.istore 5, 2) := by decide +kernel
theorem dX4_give_22 : decode cX4_give 22 = .ok (.aload_n 3, 1) := by decide +kernel
theorem dX4_give_23 : decode cX4_give 23 = .ok (.aload 4, 2) := by decide +kernel
theorem dX4_give_25 : decode cX4_give 25 = .ok (.putfield 75, 3) := by decide +kernel
theorem dX4_give_28 : decode cX4_give 28 = .ok (.iload 5, 2) := by decide +kernel
theorem dX4_give_30 : decode cX4_give 30 = .ok (.ireturn, 1) := by decide +kernel
theorem dX4_open_0 : decode cX4_open 0 = .ok (.aload_n 0, 1) := by decide +kernel
theorem dX4_open_1 : decode cX4_open 1 = .ok (.iload_n 1, 1) := by decide +kernel
theorem dX4_open_2 : decode cX4_open 2 = .ok (.invokevirtual 82, 3) := by decide +kernel
theorem dX4_open_5 : decode cX4_open 5 = .ok (.astore_n 3, 1) := by decide +kernel
theorem dX4_open_6 : decode cX4_open 6 = .ok (.aload_n 0, 1) := by decide +kernel
theorem dX4_open_7 : decode cX4_open 7 = .ok (.iload_n 2, 1) := by decide +kernel
theorem dX4_open_8 : decode cX4_open 8 = .ok (.invokevirtual 71, 3) := by decide +kernel
theorem dX4_open_11 : decode cX4_open 11 = .ok (.astore 4, 2) := by decide +kernel
theorem dX4_open_13 : decode cX4_open 13 = .ok (.aload_n 3, 1) := by decide +kernel
theorem dX4_open_14 : decode cX4_open 14 = .ok (.aload 4, 2) := by decide +kernel
theorem dX4_open_16 : decode cX4_open 16 = .ok (.putfield 86, 3) := by decide +kernel
theorem dX4_open_19 : decode cX4_open 19 = .ok (.aload_n 3, 1) := by decide +kernel
theorem dX4_open_20 : decode cX4_open 20 = .ok (.aload 4, 2) := by decide +kernel
theorem dX4_open_22 : decode cX4_open 22 = .ok (.getfield 90, 3) := by decide +kernel
theorem dX4_open_25 : decode cX4_open 25 = .ok (.putfield 94, 3) := by decide +kernel
theorem dX4_open_28 : decode cX4_open 28 = .ok (.return_, 1) := by decide +kernel
theorem dX4_shut_0 : decode cX4_shut 0 = .ok (.aload_n 0, 1) := by decide +kernel
theorem dX4_shut_1 : decode cX4_shut 1 = .ok (.iload_n 1, 1) := by decide +kernel
theorem dX4_shut_2 : decode cX4_shut 2 = .ok (.invokevirtual 82, 3) := by decide +kernel
theorem dX4_shut_5 : decode cX4_shut 5 = .ok (.astore_n 2, 1) := by decide +kernel
theorem dX4_shut_6 : decode cX4_shut 6 = .ok (.aload_n 2, 1) := by decide +kernel
theorem dX4_shut_7 : decode cX4_shut 7 = .ok (.getfield 94, 3) := by decide +kernel
theorem dX4_shut_10 : decode cX4_shut 10 = .ok (.ifnull 7, 3) := by decide +kernel
theorem dX4_shut_13 : decode cX4_shut 13 = .ok (.iconst 1, 1) := by decide +kernel
theorem dX4_shut_14 : decode cX4_shut 14 = .ok (.goto 4, 3) := by decide +kernel
theorem dX4_shut_17 : decode cX4_shut 17 = .ok (.iconst 0, 1) := by decide +kernel
theorem dX4_shut_18 : decode cX4_shut 18 = .ok (.istore_n 3, 1) := by decide +kernel
theorem dX4_shut_19 : decode cX4_shut 19 = .ok (.aload_n 2, 1) := by decide +kernel
theorem dX4_shut_20 : decode cX4_shut 20 = .ok (.aconst_null, 1) := by decide +kernel
theorem dX4_shut_21 : decode cX4_shut 21 = .ok (.putfield 86, 3) := by decide +kernel
theorem dX4_shut_24 : decode cX4_shut 24 = .ok (.aload_n 2, 1) := by decide +kernel
theorem dX4_shut_25 : decode cX4_shut 25 = .ok (.aconst_null, 1) := by decide +kernel
theorem dX4_shut_26 : decode cX4_shut 26 = .ok (.putfield 94, 3) := by decide +kernel
theorem dX4_shut_29 : decode cX4_shut 29 = .ok (.iload_n 3, 1) := by decide +kernel
theorem dX4_shut_30 : decode cX4_shut 30 = .ok (.ireturn, 1) := by decide +kernel
theorem dX4_tell_0 : decode cX4_tell 0 = .ok (.aload_n 0, 1) := by decide +kernel
theorem dX4_tell_1 : decode cX4_tell 1 = .ok (.iload_n 1, 1) := by decide +kernel
theorem dX4_tell_2 : decode cX4_tell 2 = .ok (.invokevirtual 82, 3) := by decide +kernel
theorem dX4_tell_5 : decode cX4_tell 5 = .ok (.astore_n 2, 1) := by decide +kernel
theorem dX4_tell_6 : decode cX4_tell 6 = .ok (.aload_n 2, 1) := by decide +kernel
theorem dX4_tell_7 : decode cX4_tell 7 = .ok (.getfield 86, 3) := by decide +kernel
theorem dX4_tell_10 : decode cX4_tell 10 = .ok (.astore_n 3, 1) := by decide +kernel
theorem dX4_tell_11 : decode cX4_tell 11 = .ok (.aload_n 3, 1) := by decide +kernel
theorem dX4_tell_12 : decode cX4_tell 12 = .ok (.ifnonnull 13, 3) := by decide +kernel
theorem dX4_tell_15 : decode cX4_tell 15 = .ok (.new 97, 3) := by decide +kernel
theorem dX4_tell_18 : decode cX4_tell 18 = .ok (.dup, 1) := by decide +kernel
theorem dX4_tell_19 : decode cX4_tell 19 = .ok (.ldc 99, 2) := by decide +kernel
theorem dX4_tell_21 : decode cX4_tell 21 = .ok (.invokespecial 101, 3) := by decide +kernel
theorem dX4_tell_24 : decode cX4_tell 24 = .ok (.athrow, 1) := by decide +kernel
theorem dX4_tell_25 : decode cX4_tell 25 = .ok (.aload_n 2, 1) := by decide +kernel
theorem dX4_tell_26 : decode cX4_tell 26 = .ok (.getfield 94, 3) := by decide +kernel
theorem dX4_tell_29 : decode cX4_tell 29 = .ok (.aload_n 3, 1) := by decide +kernel
theorem dX4_tell_30 : decode cX4_tell 30 = .ok (.getfield 90, 3) := by decide +kernel
theorem dX4_tell_33 : decode cX4_tell 33 = .ok (.if_acmp .eq 7, 3) := by decide +kernel
theorem dX4_tell_36 : decode cX4_tell 36 = .ok (.iconst 1, 1) := by decide +kernel
theorem dX4_tell_37 : decode cX4_tell 37 = .ok (.goto 4, 3) := by decide +kernel
theorem dX4_tell_40 : decode cX4_tell 40 = .ok (.iconst 0, 1) := by decide +kernel
theorem dX4_tell_41 : decode cX4_tell 41 = .ok (.istore 4, 2) := by decide +kernel
theorem dX4_tell_43 : decode cX4_tell 43 = .ok (.aload_n 2, 1) := by decide +kernel
theorem dX4_tell_44 : decode cX4_tell 44 = .ok (.aload_n 3, 1) := by decide +kernel
theorem dX4_tell_45 : decode cX4_tell 45 = .ok (.getfield 90, 3) := by decide +kernel
theorem dX4_tell_48 : decode cX4_tell 48 = .ok (.putfield 94, 3) := by decide +kernel
theorem dX4_tell_51 : decode cX4_tell 51 = .ok (.iload 4, 2) := by decide +kernel
theorem dX4_tell_53 : decode cX4_tell 53 = .ok (.ireturn, 1) := by decide +kernel
theorem dX4_write_0 : decode cX4_write 0 = .ok (.aload_n 0, 1) := by decide +kernel
theorem dX4_write_1 : decode cX4_write 1 = .ok (.iload_n 1, 1) := by decide +kernel
theorem dX4_write_2 : decode cX4_write 2 = .ok (.invokevirtual 82, 3) := by decide +kernel
theorem dX4_write_5 : decode cX4_write 5 = .ok (.getfield 94, 3) := by decide +kernel
theorem dX4_write_8 : decode cX4_write 8 = .ok (.astore_n 3, 1) := by decide +kernel
theorem dX4_write_9 : decode cX4_write 9 = .ok (.iload_n 2, 1) := by decide +kernel
theorem dX4_write_10 : decode cX4_write 10 = .ok (.iconst 1, 1) := by decide +kernel
theorem dX4_write_11 : decode cX4_write 11 = .ok (.sipush 1000, 3) := by decide +kernel
theorem dX4_write_14 : decode cX4_write 14 = .ok (.invokestatic 38, 3) := by decide +kernel
theorem dX4_write_17 : decode cX4_write 17 = .ok (.aload_n 3, 1) := by decide +kernel
theorem dX4_write_18 : decode cX4_write 18 = .ok (.ifnonnull 13, 3) := by decide +kernel
theorem dX4_write_21 : decode cX4_write 21 = .ok (.new 97, 3) := by decide +kernel
theorem dX4_write_24 : decode cX4_write 24 = .ok (.dup, 1) := by decide +kernel
theorem dX4_write_25 : decode cX4_write 25 = .ok (.ldc 99, 2) := by decide +kernel
theorem dX4_write_27 : decode cX4_write 27 = .ok (.invokespecial 101, 3) := by decide +kernel
theorem dX4_write_30 : decode cX4_write 30 = .ok (.athrow, 1) := by decide +kernel
theorem dX4_write_31 : decode cX4_write 31 = .ok (.aload_n 3, 1) := by decide +kernel
theorem dX4_write_32 : decode cX4_write 32 = .ok (.dup, 1) := by decide +kernel
theorem dX4_write_33 : decode cX4_write 33 = .ok (.getfield 104, 3) := by decide +kernel
theorem dX4_write_36 : decode cX4_write 36 = .ok (.iload_n 2, 1) := by decide +kernel
theorem dX4_write_37 : decode cX4_write 37 = .ok (.iadd, 1) := by decide +kernel
theorem dX4_write_38 : decode cX4_write 38 = .ok (.putfield 104, 3) := by decide +kernel
theorem dX4_write_41 : decode cX4_write 41 = .ok (.aload_n 3, 1) := by decide +kernel
theorem dX4_write_42 : decode cX4_write 42 = .ok (.getfield 104, 3) := by decide +kernel
theorem dX4_write_45 : decode cX4_write 45 = .ok (.ireturn, 1) := by decide +kernel
theorem dX4_advance_0 : decode cX4_advance 0 = .ok (.iload_n 1, 1) := by decide +kernel
theorem dX4_advance_1 : decode cX4_advance 1 = .ok (.iconst 1, 1) := by decide +kernel
theorem dX4_advance_2 : decode cX4_advance 2 = .ok (.bipush 100, 2) := by decide +kernel
theorem dX4_advance_4 : decode cX4_advance 4 = .ok (.invokestatic 38, 3) := by decide +kernel
theorem dX4_advance_7 : decode cX4_advance 7 = .ok (.aload_n 0, 1) := by decide +kernel
theorem dX4_advance_8 : decode cX4_advance 8 = .ok (.getfield 109, 3) := by decide +kernel
theorem dX4_advance_11 : decode cX4_advance 11 = .ok (.iload_n 1, 1) := by decide +kernel
theorem dX4_advance_12 : decode cX4_advance 12 = .ok (.iadd, 1) := by decide +kernel
theorem dX4_advance_13 : decode cX4_advance 13 = .ok (.sipush 5000, 3) := by decide +kernel
theorem dX4_advance_16 : decode cX4_advance 16 = .ok (.if_icmp .le 13, 3) := by decide +kernel
theorem dX4_advance_19 : decode cX4_advance 19 = .ok (.new 97, 3) := by decide +kernel
theorem dX4_advance_22 : decode cX4_advance 22 = .ok (.dup, 1) := by decide +kernel
theorem dX4_advance_23 : decode cX4_advance 23 = .ok (.ldc 112, 2) := by decide +kernel
theorem dX4_advance_25 : decode cX4_advance 25 = .ok (.invokespecial 101, 3) := by decide +kernel
theorem dX4_advance_28 : decode cX4_advance 28 = .ok (.athrow, 1) := by decide +kernel
theorem dX4_advance_29 : decode cX4_advance 29 = .ok (.aload_n 0, 1) := by decide +kernel
theorem dX4_advance_30 : decode cX4_advance 30 = .ok (.dup, 1) := by decide +kernel
theorem dX4_advance_31 : decode cX4_advance 31 = .ok (.getfield 109, 3) := by decide +kernel
theorem dX4_advance_34 : decode cX4_advance 34 = .ok (.iload_n 1, 1) := by decide +kernel
theorem dX4_advance_35 : decode cX4_advance 35 = .ok (.iadd, 1) := by decide +kernel
theorem dX4_advance_36 : decode cX4_advance 36 = .ok (.putfield 109, 3) := by decide +kernel
theorem dX4_advance_39 : decode cX4_advance 39 = .ok (.aload_n 0, 1) := by decide +kernel
theorem dX4_advance_40 : decode cX4_advance 40 = .ok (.getfield 109, 3) := by decide +kernel
theorem dX4_advance_43 : decode cX4_advance 43 = .ok (.ireturn, 1) := by decide +kernel
theorem dX4_run_0 : decode cX4_run 0 = .ok (.iconst 0, 1) := by decide +kernel
theorem dX4_run_1 : decode cX4_run 1 = .ok (.istore_n 1, 1) := by decide +kernel
theorem dX4_run_2 : decode cX4_run 2 = .ok (.iconst 0, 1) := by decide +kernel
theorem dX4_run_3 : decode cX4_run 3 = .ok (.istore_n 2, 1) := by decide +kernel
theorem dX4_run_4 : decode cX4_run 4 = .ok (.iload_n 2, 1) := by decide +kernel
theorem dX4_run_5 : decode cX4_run 5 = .ok (.iconst 5, 1) := by decide +kernel
theorem dX4_run_6 : decode cX4_run 6 = .ok (.if_icmp .ge 42, 3) := by decide +kernel
theorem dX4_run_9 : decode cX4_run 9 = .ok (.aload_n 0, 1) := by decide +kernel
theorem dX4_run_10 : decode cX4_run 10 = .ok (.getfield 17, 3) := by decide +kernel
theorem dX4_run_13 : decode cX4_run 13 = .ok (.iload_n 2, 1) := by decide +kernel
theorem dX4_run_14 : decode cX4_run 14 = .ok (.aaload, 1) := by decide +kernel
theorem dX4_run_15 : decode cX4_run 15 = .ok (.aload_n 0, 1) := by decide +kernel
theorem dX4_run_16 : decode cX4_run 16 = .ok (.getfield 109, 3) := by decide +kernel
theorem dX4_run_19 : decode cX4_run 19 = .ok (.invokestatic 114, 3) := by decide +kernel
theorem dX4_run_22 : decode cX4_run 22 = .ok (.ifCond .eq 20, 3) := by decide +kernel
theorem dX4_run_25 : decode cX4_run 25 = .ok (.aload_n 0, 1) := by decide +kernel
theorem dX4_run_26 : decode cX4_run 26 = .ok (.aload_n 0, 1) := by decide +kernel
theorem dX4_run_27 : decode cX4_run 27 = .ok (.getfield 17, 3) := by decide +kernel
theorem dX4_run_30 : decode cX4_run 30 = .ok (.iload_n 2, 1) := by decide +kernel
theorem dX4_run_31 : decode cX4_run 31 = .ok (.aaload, 1) := by decide +kernel
theorem dX4_run_32 : decode cX4_run 32 = .ok (.invokevirtual 118, 3) := by decide +kernel
theorem dX4_run_35 : decode cX4_run 35 = .ok (.pop, 1) := by decide +kernel
theorem dX4_run_36 : decode cX4_run 36 = .ok (.iload_n 1, 1) := by decide +kernel
theorem dX4_run_37 : decode cX4_run 37 = .ok (.iconst 1, 1) := by decide +kernel
theorem dX4_run_38 : decode cX4_run 38 = .ok (.iload_n 2, 1) := by decide +kernel
theorem dX4_run_39 : decode cX4_run 39 = .ok (.ishl, 1) := by decide +kernel
theorem dX4_run_40 : decode cX4_run 40 = .ok (.ior, 1) := by decide +kernel
theorem dX4_run_41 : decode cX4_run 41 = .ok (.istore_n 1, 1) := by decide +kernel
theorem dX4_run_42 : decode cX4_run 42 = .ok (.iinc 2 1, 3) := by decide +kernel
theorem dX4_run_45 : decode cX4_run 45 = .ok (.goto (-41), 3) := by decide +kernel
theorem dX4_run_48 : decode cX4_run 48 = .ok (.iconst 0, 1) := by decide +kernel
theorem dX4_run_49 : decode cX4_run 49 = .ok (.istore_n 2, 1) := by decide +kernel
theorem dX4_run_50 : decode cX4_run 50 = .ok (.iload_n 2, 1) := by decide +kernel
theorem dX4_run_51 : decode cX4_run 51 = .ok (.iconst 3, 1) := by decide +kernel
theorem dX4_run_52 : decode cX4_run 52 = .ok (.if_icmp .ge 45, 3) := by decide +kernel
theorem dX4_run_55 : decode cX4_run 55 = .ok (.aload_n 0, 1) := by decide +kernel
theorem dX4_run_56 : decode cX4_run 56 = .ok (.getfield 11, 3) := by decide +kernel
theorem dX4_run_59 : decode cX4_run 59 = .ok (.iload_n 2, 1) := by decide +kernel
theorem dX4_run_60 : decode cX4_run 60 = .ok (.aaload, 1) := by decide +kernel
theorem dX4_run_61 : decode cX4_run 61 = .ok (.getfield 68, 3) := by decide +kernel
theorem dX4_run_64 : decode cX4_run 64 = .ok (.ifCond .eq 27, 3) := by decide +kernel
theorem dX4_run_67 : decode cX4_run 67 = .ok (.aload_n 0, 1) := by decide +kernel
theorem dX4_run_68 : decode cX4_run 68 = .ok (.aload_n 0, 1) := by decide +kernel
theorem dX4_run_69 : decode cX4_run 69 = .ok (.getfield 11, 3) := by decide +kernel
theorem dX4_run_72 : decode cX4_run 72 = .ok (.iload_n 2, 1) := by decide +kernel
theorem dX4_run_73 : decode cX4_run 73 = .ok (.aaload, 1) := by decide +kernel
theorem dX4_run_74 : decode cX4_run 74 = .ok (.iload_n 1, 1) := by decide +kernel
theorem dX4_run_75 : decode cX4_run 75 = .ok (.invokevirtual 122, 3) := by decide +kernel
theorem dX4_run_78 : decode cX4_run 78 = .ok (.ifCond .eq 13, 3) := by decide +kernel
theorem dX4_run_81 : decode cX4_run 81 = .ok (.aload_n 0, 1) := by decide +kernel
theorem dX4_run_82 : decode cX4_run 82 = .ok (.aload_n 0, 1) := by decide +kernel
theorem dX4_run_83 : decode cX4_run 83 = .ok (.getfield 11, 3) := by decide +kernel
theorem dX4_run_86 : decode cX4_run 86 = .ok (.iload_n 2, 1) := by decide +kernel
theorem dX4_run_87 : decode cX4_run 87 = .ok (.aaload, 1) := by decide +kernel
theorem dX4_run_88 : decode cX4_run 88 = .ok (.invokevirtual 126, 3) := by decide +kernel
theorem dX4_run_91 : decode cX4_run 91 = .ok (.iinc 2 1, 3) := by decide +kernel
theorem dX4_run_94 : decode cX4_run 94 = .ok (.goto (-44), 3) := by decide +kernel
theorem dX4_run_97 : decode cX4_run 97 = .ok (.iload_n 1, 1) := by decide +kernel
theorem dX4_run_98 : decode cX4_run 98 = .ok (.ireturn, 1) := by decide +kernel
theorem dX4_turn_0 : decode cX4_turn 0 = .ok (.aload_n 0, 1) := by decide +kernel
theorem dX4_turn_1 : decode cX4_turn 1 = .ok (.aload_n 0, 1) := by decide +kernel
theorem dX4_turn_2 : decode cX4_turn 2 = .ok (.iload_n 1, 1) := by decide +kernel
theorem dX4_turn_3 : decode cX4_turn 3 = .ok (.invokevirtual 71, 3) := by decide +kernel
theorem dX4_turn_6 : decode cX4_turn 6 = .ok (.invokevirtual 118, 3) := by decide +kernel
theorem dX4_turn_9 : decode cX4_turn 9 = .ok (.ireturn, 1) := by decide +kernel
theorem dX4_lose_0 : decode cX4_lose 0 = .ok (.aload_n 0, 1) := by decide +kernel
theorem dX4_lose_1 : decode cX4_lose 1 = .ok (.iload_n 1, 1) := by decide +kernel
theorem dX4_lose_2 : decode cX4_lose 2 = .ok (.invokevirtual 71, 3) := by decide +kernel
theorem dX4_lose_5 : decode cX4_lose 5 = .ok (.astore_n 2, 1) := by decide +kernel
theorem dX4_lose_6 : decode cX4_lose 6 = .ok (.aload_n 2, 1) := by decide +kernel
theorem dX4_lose_7 : decode cX4_lose 7 = .ok (.getfield 130, 3) := by decide +kernel
theorem dX4_lose_10 : decode cX4_lose 10 = .ok (.istore_n 3, 1) := by decide +kernel
theorem dX4_lose_11 : decode cX4_lose 11 = .ok (.aload_n 0, 1) := by decide +kernel
theorem dX4_lose_12 : decode cX4_lose 12 = .ok (.aload_n 2, 1) := by decide +kernel
theorem dX4_lose_13 : decode cX4_lose 13 = .ok (.invokevirtual 133, 3) := by decide +kernel
theorem dX4_lose_16 : decode cX4_lose 16 = .ok (.iload_n 3, 1) := by decide +kernel
theorem dX4_lose_17 : decode cX4_lose 17 = .ok (.ireturn, 1) := by decide +kernel
theorem dX4_day_0 : decode cX4_day 0 = .ok (.aload_n 0, 1) := by decide +kernel
theorem dX4_day_1 : decode cX4_day 1 = .ok (.getfield 109, 3) := by decide +kernel
theorem dX4_day_4 : decode cX4_day 4 = .ok (.ireturn, 1) := by decide +kernel
theorem dX4_isDue_0 : decode cX4_isDue 0 = .ok (.aload_n 0, 1) := by decide +kernel
theorem dX4_isDue_1 : decode cX4_isDue 1 = .ok (.iload_n 1, 1) := by decide +kernel
theorem dX4_isDue_2 : decode cX4_isDue 2 = .ok (.invokevirtual 71, 3) := by decide +kernel
theorem dX4_isDue_5 : decode cX4_isDue 5 = .ok (.aload_n 0, 1) := by decide +kernel
theorem dX4_isDue_6 : decode cX4_isDue 6 = .ok (.getfield 109, 3) := by decide +kernel
theorem dX4_isDue_9 : decode cX4_isDue 9 = .ok (.invokestatic 114, 3) := by decide +kernel
theorem dX4_isDue_12 : decode cX4_isDue 12 = .ok (.ireturn, 1) := by decide +kernel
theorem dX4_nextDue_0 : decode cX4_nextDue 0 = .ok (.aload_n 0, 1) := by decide +kernel
theorem dX4_nextDue_1 : decode cX4_nextDue 1 = .ok (.iload_n 1, 1) := by decide +kernel
theorem dX4_nextDue_2 : decode cX4_nextDue 2 = .ok (.invokevirtual 71, 3) := by decide +kernel
theorem dX4_nextDue_5 : decode cX4_nextDue 5 = .ok (.astore_n 2, 1) := by decide +kernel
theorem dX4_nextDue_6 : decode cX4_nextDue 6 = .ok (.iconst 0, 1) := by decide +kernel
theorem dX4_nextDue_7 : decode cX4_nextDue 7 = .ok (.istore_n 3, 1) := by decide +kernel
theorem dX4_nextDue_8 : decode cX4_nextDue 8 = .ok (.iload_n 3, 1) := by decide +kernel
theorem dX4_nextDue_9 : decode cX4_nextDue 9 = .ok (.sipush 200, 3) := by decide +kernel
theorem dX4_nextDue_12 : decode cX4_nextDue 12 = .ok (.if_icmp .gt 29, 3) := by decide +kernel
theorem dX4_nextDue_15 : decode cX4_nextDue 15 = .ok (.aload_n 2, 1) := by decide +kernel
theorem dX4_nextDue_16 : decode cX4_nextDue 16 = .ok (.aload_n 0, 1) := by decide +kernel
theorem dX4_nextDue_17 : decode cX4_nextDue 17 = .ok (.getfield 109, 3) := by decide +kernel
theorem dX4_nextDue_20 : decode cX4_nextDue 20 = .ok (.iload_n 3, 1) := by decide +kernel
theorem dX4_nextDue_21 : decode cX4_nextDue 21 = .ok (.iadd, 1) := by decide +kernel
theorem dX4_nextDue_22 : decode cX4_nextDue 22 = .ok (.invokestatic 114, 3) := by decide +kernel
theorem dX4_nextDue_25 : decode cX4_nextDue 25 = .ok (.ifCond .eq 10, 3) := by decide +kernel
theorem dX4_nextDue_28 : decode cX4_nextDue 28 = .ok (.aload_n 0, 1) := by decide +kernel
theorem dX4_nextDue_29 : decode cX4_nextDue 29 = .ok (.getfield 109, 3) := by decide +kernel
theorem dX4_nextDue_32 : decode cX4_nextDue 32 = .ok (.iload_n 3, 1) := by decide +kernel
theorem dX4_nextDue_33 : decode cX4_nextDue 33 = .ok (.iadd, 1) := by decide +kernel
theorem dX4_nextDue_34 : decode cX4_nextDue 34 = .ok (.ireturn, 1) := by decide +kernel
theorem dX4_nextDue_35 : decode cX4_nextDue 35 = .ok (.iinc 3 1, 3) := by decide +kernel
theorem dX4_nextDue_38 : decode cX4_nextDue 38 = .ok (.goto (-30), 3) := by decide +kernel
theorem dX4_nextDue_41 : decode cX4_nextDue 41 = .ok (.iconst (-1), 1) := by decide +kernel
theorem dX4_nextDue_42 : decode cX4_nextDue 42 = .ok (.ireturn, 1) := by decide +kernel
theorem dX4_live_0 : decode cX4_live 0 = .ok (.aload_n 0, 1) := by decide +kernel
theorem dX4_live_1 : decode cX4_live 1 = .ok (.iload_n 1, 1) := by decide +kernel
theorem dX4_live_2 : decode cX4_live 2 = .ok (.invokevirtual 71, 3) := by decide +kernel
theorem dX4_live_5 : decode cX4_live 5 = .ok (.getfield 90, 3) := by decide +kernel
theorem dX4_live_8 : decode cX4_live 8 = .ok (.getfield 104, 3) := by decide +kernel
theorem dX4_live_11 : decode cX4_live 11 = .ok (.ireturn, 1) := by decide +kernel
theorem dX4_olds_0 : decode cX4_olds 0 = .ok (.aload_n 0, 1) := by decide +kernel
theorem dX4_olds_1 : decode cX4_olds 1 = .ok (.iload_n 1, 1) := by decide +kernel
theorem dX4_olds_2 : decode cX4_olds 2 = .ok (.invokevirtual 71, 3) := by decide +kernel
theorem dX4_olds_5 : decode cX4_olds 5 = .ok (.getfield 137, 3) := by decide +kernel
theorem dX4_olds_8 : decode cX4_olds 8 = .ok (.invokevirtual 141, 3) := by decide +kernel
theorem dX4_olds_11 : decode cX4_olds 11 = .ok (.ireturn, 1) := by decide +kernel
theorem dX4_lines_0 : decode cX4_lines 0 = .ok (.aload_n 0, 1) := by decide +kernel
theorem dX4_lines_1 : decode cX4_lines 1 = .ok (.iload_n 1, 1) := by decide +kernel
theorem dX4_lines_2 : decode cX4_lines 2 = .ok (.invokevirtual 71, 3) := by decide +kernel
theorem dX4_lines_5 : decode cX4_lines 5 = .ok (.iload_n 2, 1) := by decide +kernel
theorem dX4_lines_6 : decode cX4_lines 6 = .ok (.invokestatic 146, 3) := by decide +kernel
theorem dX4_lines_9 : decode cX4_lines 9 = .ok (.getfield 104, 3) := by decide +kernel
theorem dX4_lines_12 : decode cX4_lines 12 = .ok (.ireturn, 1) := by decide +kernel
theorem dX4_name_0 : decode cX4_name 0 = .ok (.aload_n 0, 1) := by decide +kernel
theorem dX4_name_1 : decode cX4_name 1 = .ok (.iload_n 1, 1) := by decide +kernel
theorem dX4_name_2 : decode cX4_name 2 = .ok (.invokevirtual 71, 3) := by decide +kernel
theorem dX4_name_5 : decode cX4_name 5 = .ok (.astore_n 3, 1) := by decide +kernel
theorem dX4_name_6 : decode cX4_name 6 = .ok (.aload_n 3, 1) := by decide +kernel
theorem dX4_name_7 : decode cX4_name 7 = .ok (.iload_n 2, 1) := by decide +kernel
theorem dX4_name_8 : decode cX4_name 8 = .ok (.invokestatic 146, 3) := by decide +kernel
theorem dX4_name_11 : decode cX4_name 11 = .ok (.getfield 150, 3) := by decide +kernel
theorem dX4_name_14 : decode cX4_name 14 = .ok (.istore 4, 2) := by decide +kernel
theorem dX4_name_16 : decode cX4_name 16 = .ok (.aload_n 3, 1) := by decide +kernel
theorem dX4_name_17 : decode cX4_name 17 = .ok (.getfield 75, 3) := by decide +kernel
theorem dX4_name_20 : decode cX4_name 20 = .ok (.getfield 65, 3) := by decide +kernel
theorem dX4_name_23 : decode cX4_name 23 = .ok (.ifCond .ne 13, 3) := by decide +kernel
theorem dX4_name_26 : decode cX4_name 26 = .ok (.aload_n 3, 1) := by decide +kernel
theorem dX4_name_27 : decode cX4_name 27 = .ok (.getfield 137, 3) := by decide +kernel
theorem dX4_name_30 : decode cX4_name 30 = .ok (.invokevirtual 141, 3) := by decide +kernel
theorem dX4_name_33 : decode cX4_name 33 = .ok (.iload_n 2, 1) := by decide +kernel
theorem dX4_name_34 : decode cX4_name 34 = .ok (.isub, 1) := by decide +kernel
theorem dX4_name_35 : decode cX4_name 35 = .ok (.ireturn, 1) := by decide +kernel
theorem dX4_name_36 : decode cX4_name 36 = .ok (.sipush 1000, 3) := by decide +kernel
theorem dX4_name_39 : decode cX4_name 39 = .ok (.iload 4, 2) := by decide +kernel
theorem dX4_name_41 : decode cX4_name 41 = .ok (.imul, 1) := by decide +kernel
theorem dX4_name_42 : decode cX4_name 42 = .ok (.aload_n 3, 1) := by decide +kernel
theorem dX4_name_43 : decode cX4_name 43 = .ok (.getfield 137, 3) := by decide +kernel
theorem dX4_name_46 : decode cX4_name 46 = .ok (.iload_n 2, 1) := by decide +kernel
theorem dX4_name_47 : decode cX4_name 47 = .ok (.iload 4, 2) := by decide +kernel
theorem dX4_name_49 : decode cX4_name 49 = .ok (.invokestatic 153, 3) := by decide +kernel
theorem dX4_name_52 : decode cX4_name 52 = .ok (.iadd, 1) := by decide +kernel
theorem dX4_name_53 : decode cX4_name 53 = .ok (.ireturn, 1) := by decide +kernel
theorem dX4_isSqueezed_0 : decode cX4_isSqueezed 0 = .ok (.aload_n 0, 1) := by decide +kernel
theorem dX4_isSqueezed_1 : decode cX4_isSqueezed 1 = .ok (.iload_n 1, 1) := by decide +kernel
theorem dX4_isSqueezed_2 : decode cX4_isSqueezed 2 = .ok (.invokevirtual 71, 3) := by decide +kernel
theorem dX4_isSqueezed_5 : decode cX4_isSqueezed 5 = .ok (.iload_n 2, 1) := by decide +kernel
theorem dX4_isSqueezed_6 : decode cX4_isSqueezed 6 = .ok (.invokestatic 146, 3) := by decide +kernel
theorem dX4_isSqueezed_9 : decode cX4_isSqueezed 9 = .ok (.getfield 157, 3) := by decide +kernel
theorem dX4_isSqueezed_12 : decode cX4_isSqueezed 12 = .ok (.ireturn, 1) := by decide +kernel
theorem dX4_thrown_0 : decode cX4_thrown 0 = .ok (.aload_n 0, 1) := by decide +kernel
theorem dX4_thrown_1 : decode cX4_thrown 1 = .ok (.iload_n 1, 1) := by decide +kernel
theorem dX4_thrown_2 : decode cX4_thrown 2 = .ok (.invokevirtual 71, 3) := by decide +kernel
theorem dX4_thrown_5 : decode cX4_thrown 5 = .ok (.getfield 160, 3) := by decide +kernel
theorem dX4_thrown_8 : decode cX4_thrown 8 = .ok (.ireturn, 1) := by decide +kernel
theorem dX4_holds_0 : decode cX4_holds 0 = .ok (.aload_n 0, 1) := by decide +kernel
theorem dX4_holds_1 : decode cX4_holds 1 = .ok (.iload_n 1, 1) := by decide +kernel
theorem dX4_holds_2 : decode cX4_holds 2 = .ok (.invokevirtual 82, 3) := by decide +kernel
theorem dX4_holds_5 : decode cX4_holds 5 = .ok (.astore_n 2, 1) := by decide +kernel
theorem dX4_holds_6 : decode cX4_holds 6 = .ok (.aload_n 2, 1) := by decide +kernel
theorem dX4_holds_7 : decode cX4_holds 7 = .ok (.getfield 86, 3) := by decide +kernel
theorem dX4_holds_10 : decode cX4_holds 10 = .ok (.astore_n 3, 1) := by decide +kernel
theorem dX4_holds_11 : decode cX4_holds 11 = .ok (.aload_n 3, 1) := by decide +kernel
theorem dX4_holds_12 : decode cX4_holds 12 = .ok (.ifnonnull 5, 3) := by decide +kernel
theorem dX4_holds_15 : decode cX4_holds 15 = .ok (.iconst (-1), 1) := by decide +kernel
theorem dX4_holds_16 : decode cX4_holds 16 = .ok (.ireturn, 1) := by decide +kernel
theorem dX4_holds_17 : decode cX4_holds 17 = .ok (.bipush 100, 2) := by decide +kernel
theorem dX4_holds_19 : decode cX4_holds 19 = .ok (.aload_n 3, 1) := by decide +kernel
theorem dX4_holds_20 : decode cX4_holds 20 = .ok (.getfield 163, 3) := by decide +kernel
theorem dX4_holds_23 : decode cX4_holds 23 = .ok (.imul, 1) := by decide +kernel
theorem dX4_holds_24 : decode cX4_holds 24 = .ok (.aload_n 3, 1) := by decide +kernel
theorem dX4_holds_25 : decode cX4_holds 25 = .ok (.getfield 137, 3) := by decide +kernel
theorem dX4_holds_28 : decode cX4_holds 28 = .ok (.aload_n 2, 1) := by decide +kernel
theorem dX4_holds_29 : decode cX4_holds 29 = .ok (.getfield 94, 3) := by decide +kernel
theorem dX4_holds_32 : decode cX4_holds 32 = .ok (.invokestatic 164, 3) := by decide +kernel
theorem dX4_holds_35 : decode cX4_holds 35 = .ok (.iadd, 1) := by decide +kernel
theorem dX4_holds_36 : decode cX4_holds 36 = .ok (.ireturn, 1) := by decide +kernel
theorem dX4_ruleOf_0 : decode cX4_ruleOf 0 = .ok (.iload_n 1, 1) := by decide +kernel
theorem dX4_ruleOf_1 : decode cX4_ruleOf 1 = .ok (.ifCond .lt 8, 3) := by decide +kernel
theorem dX4_ruleOf_4 : decode cX4_ruleOf 4 = .ok (.iload_n 1, 1) := by decide +kernel
theorem dX4_ruleOf_5 : decode cX4_ruleOf 5 = .ok (.iconst 3, 1) := by decide +kernel
theorem dX4_ruleOf_6 : decode cX4_ruleOf 6 = .ok (.if_icmp .lt 13, 3) := by decide +kernel
theorem dX4_ruleOf_9 : decode cX4_ruleOf 9 = .ok (.new 168, 3) := by decide +kernel
theorem dX4_ruleOf_12 : decode cX4_ruleOf 12 = .ok (.dup, 1) := by decide +kernel
theorem dX4_ruleOf_13 : decode cX4_ruleOf 13 = .ok (.ldc 170, 2) := by decide +kernel
theorem dX4_ruleOf_15 : decode cX4_ruleOf 15 = .ok (.invokespecial 172, 3) := by decide +kernel
theorem dX4_ruleOf_18 : decode cX4_ruleOf 18 = .ok (.athrow, 1) := by decide +kernel
theorem dX4_ruleOf_19 : decode cX4_ruleOf 19 = .ok (.aload_n 0, 1) := by decide +kernel
theorem dX4_ruleOf_20 : decode cX4_ruleOf 20 = .ok (.getfield 11, 3) := by decide +kernel
theorem dX4_ruleOf_23 : decode cX4_ruleOf 23 = .ok (.iload_n 1, 1) := by decide +kernel
theorem dX4_ruleOf_24 : decode cX4_ruleOf 24 = .ok (.aaload, 1) := by decide +kernel
theorem dX4_ruleOf_25 : decode cX4_ruleOf 25 = .ok (.areturn, 1) := by decide +kernel
theorem dX4_fileOf_0 : decode cX4_fileOf 0 = .ok (.iload_n 1, 1) := by decide +kernel
theorem dX4_fileOf_1 : decode cX4_fileOf 1 = .ok (.ifCond .lt 8, 3) := by decide +kernel
theorem dX4_fileOf_4 : decode cX4_fileOf 4 = .ok (.iload_n 1, 1) := by decide +kernel
theorem dX4_fileOf_5 : decode cX4_fileOf 5 = .ok (.iconst 5, 1) := by decide +kernel
theorem dX4_fileOf_6 : decode cX4_fileOf 6 = .ok (.if_icmp .lt 13, 3) := by decide +kernel
theorem dX4_fileOf_9 : decode cX4_fileOf 9 = .ok (.new 168, 3) := by decide +kernel
theorem dX4_fileOf_12 : decode cX4_fileOf 12 = .ok (.dup, 1) := by decide +kernel
theorem dX4_fileOf_13 : decode cX4_fileOf 13 = .ok (.ldc 173, 2) := by decide +kernel
theorem dX4_fileOf_15 : decode cX4_fileOf 15 = .ok (.invokespecial 172, 3) := by decide +kernel
theorem dX4_fileOf_18 : decode cX4_fileOf 18 = .ok (.athrow, 1) := by decide +kernel
theorem dX4_fileOf_19 : decode cX4_fileOf 19 = .ok (.aload_n 0, 1) := by decide +kernel
theorem dX4_fileOf_20 : decode cX4_fileOf 20 = .ok (.getfield 17, 3) := by decide +kernel
theorem dX4_fileOf_23 : decode cX4_fileOf 23 = .ok (.iload_n 1, 1) := by decide +kernel
theorem dX4_fileOf_24 : decode cX4_fileOf 24 = .ok (.aaload, 1) := by decide +kernel
theorem dX4_fileOf_25 : decode cX4_fileOf 25 = .ok (.areturn, 1) := by decide +kernel
theorem dX4_holderOf_0 : decode cX4_holderOf 0 = .ok (.iload_n 1, 1) := by decide +kernel
theorem dX4_holderOf_1 : decode cX4_holderOf 1 = .ok (.ifCond .lt 8, 3) := by decide +kernel
theorem dX4_holderOf_4 : decode cX4_holderOf 4 = .ok (.iload_n 1, 1) := by decide +kernel
theorem dX4_holderOf_5 : decode cX4_holderOf 5 = .ok (.iconst 4, 1) := by decide +kernel
theorem dX4_holderOf_6 : decode cX4_holderOf 6 = .ok (.if_icmp .lt 13, 3) := by decide +kernel
theorem dX4_holderOf_9 : decode cX4_holderOf 9 = .ok (.new 168, 3) := by decide +kernel
theorem dX4_holderOf_12 : decode cX4_holderOf 12 = .ok (.dup, 1) := by decide +kernel
theorem dX4_holderOf_13 : decode cX4_holderOf 13 = .ok (.ldc 175, 2) := by decide +kernel
theorem dX4_holderOf_15 : decode cX4_holderOf 15 = .ok (.invokespecial 172, 3) := by decide +kernel
theorem dX4_holderOf_18 : decode cX4_holderOf 18 = .ok (.athrow, 1) := by decide +kernel
theorem dX4_holderOf_19 : decode cX4_holderOf 19 = .ok (.aload_n 0, 1) := by decide +kernel
theorem dX4_holderOf_20 : decode cX4_holderOf 20 = .ok (.getfield 23, 3) := by decide +kernel
theorem dX4_holderOf_23 : decode cX4_holderOf 23 = .ok (.iload_n 1, 1) := by decide +kernel
theorem dX4_holderOf_24 : decode cX4_holderOf 24 = .ok (.aaload, 1) := by decide +kernel
theorem dX4_holderOf_25 : decode cX4_holderOf 25 = .ok (.areturn, 1) := by decide +kernel
theorem dX4_oldPartOf_0 : decode cX4_oldPartOf 0 = .ok (.iload_n 1, 1) := by decide +kernel
theorem dX4_oldPartOf_1 : decode cX4_oldPartOf 1 = .ok (.ifCond .lt 14, 3) := by decide +kernel
theorem dX4_oldPartOf_4 : decode cX4_oldPartOf 4 = .ok (.iload_n 1, 1) := by decide +kernel
theorem dX4_oldPartOf_5 : decode cX4_oldPartOf 5 = .ok (.aload_n 0, 1) := by decide +kernel
theorem dX4_oldPartOf_6 : decode cX4_oldPartOf 6 = .ok (.getfield 137, 3) := by decide +kernel
theorem dX4_oldPartOf_9 : decode cX4_oldPartOf 9 = .ok (.invokevirtual 141, 3) := by decide +kernel
theorem dX4_oldPartOf_12 : decode cX4_oldPartOf 12 = .ok (.if_icmp .lt 13, 3) := by decide +kernel
theorem dX4_oldPartOf_15 : decode cX4_oldPartOf 15 = .ok (.new 168, 3) := by decide +kernel
theorem dX4_oldPartOf_18 : decode cX4_oldPartOf 18 = .ok (.dup, 1) := by decide +kernel
theorem dX4_oldPartOf_19 : decode cX4_oldPartOf 19 = .ok (.ldc 177, 2) := by decide +kernel
theorem dX4_oldPartOf_21 : decode cX4_oldPartOf 21 = .ok (.invokespecial 172, 3) := by decide +kernel
theorem dX4_oldPartOf_24 : decode cX4_oldPartOf 24 = .ok (.athrow, 1) := by decide +kernel
theorem dX4_oldPartOf_25 : decode cX4_oldPartOf 25 = .ok (.aload_n 0, 1) := by decide +kernel
theorem dX4_oldPartOf_26 : decode cX4_oldPartOf 26 = .ok (.getfield 137, 3) := by decide +kernel
theorem dX4_oldPartOf_29 : decode cX4_oldPartOf 29 = .ok (.iload_n 1, 1) := by decide +kernel
theorem dX4_oldPartOf_30 : decode cX4_oldPartOf 30 = .ok (.invokevirtual 179, 3) := by decide +kernel
theorem dX4_oldPartOf_33 : decode cX4_oldPartOf 33 = .ok (.checkcast 105, 3) := by decide +kernel
theorem dX4_oldPartOf_36 : decode cX4_oldPartOf 36 = .ok (.areturn, 1) := by decide +kernel
theorem dX4_requireRange_0 : decode cX4_requireRange 0 = .ok (.iload_n 0, 1) := by decide +kernel
theorem dX4_requireRange_1 : decode cX4_requireRange 1 = .ok (.iload_n 1, 1) := by decide +kernel
theorem dX4_requireRange_2 : decode cX4_requireRange 2 = .ok (.if_icmp .lt 8, 3) := by decide +kernel
theorem dX4_requireRange_5 : decode cX4_requireRange 5 = .ok (.iload_n 0, 1) := by decide +kernel
theorem dX4_requireRange_6 : decode cX4_requireRange 6 = .ok (.iload_n 2, 1) := by decide +kernel
theorem dX4_requireRange_7 : decode cX4_requireRange 7 = .ok (.if_icmp .le 13, 3) := by decide +kernel
theorem dX4_requireRange_10 : decode cX4_requireRange 10 = .ok (.new 183, 3) := by decide +kernel
theorem dX4_requireRange_13 : decode cX4_requireRange 13 = .ok (.dup, 1) := by decide +kernel
theorem dX4_requireRange_14 : decode cX4_requireRange 14 = .ok (.ldc 185, 2) := by decide +kernel
theorem dX4_requireRange_16 : decode cX4_requireRange 16 = .ok (.invokespecial 187, 3) := by decide +kernel
theorem dX4_requireRange_19 : decode cX4_requireRange 19 = .ok (.athrow, 1) := by decide +kernel
theorem dX4_requireRange_20 : decode cX4_requireRange 20 = .ok (.return_, 1) := by decide +kernel
theorem dX4_isDueOn_0 : decode cX4_isDueOn 0 = .ok (.aload_n 0, 1) := by decide +kernel
theorem dX4_isDueOn_1 : decode cX4_isDueOn 1 = .ok (.getfield 75, 3) := by decide +kernel
theorem dX4_isDueOn_4 : decode cX4_isDueOn 4 = .ok (.astore_n 2, 1) := by decide +kernel
theorem dX4_isDueOn_5 : decode cX4_isDueOn 5 = .ok (.aload_n 0, 1) := by decide +kernel
theorem dX4_isDueOn_6 : decode cX4_isDueOn 6 = .ok (.getfield 90, 3) := by decide +kernel
theorem dX4_isDueOn_9 : decode cX4_isDueOn 9 = .ok (.getfield 104, 3) := by decide +kernel
theorem dX4_isDueOn_12 : decode cX4_isDueOn 12 = .ok (.istore_n 3, 1) := by decide +kernel
theorem dX4_isDueOn_13 : decode cX4_isDueOn 13 = .ok (.iload_n 3, 1) := by decide +kernel
theorem dX4_isDueOn_14 : decode cX4_isDueOn 14 = .ok (.ifCond .eq 11, 3) := by decide +kernel
theorem dX4_isDueOn_17 : decode cX4_isDueOn 17 = .ok (.aload_n 0, 1) := by decide +kernel
theorem dX4_isDueOn_18 : decode cX4_isDueOn 18 = .ok (.iload_n 1, 1) := by decide +kernel
theorem dX4_isDueOn_19 : decode cX4_isDueOn 19 = .ok (.invokestatic 188, 3) := by decide +kernel
theorem dX4_isDueOn_22 : decode cX4_isDueOn 22 = .ok (.ifCond .eq 5, 3) := by decide +kernel
theorem dX4_isDueOn_25 : decode cX4_isDueOn 25 = .ok (.iconst 0, 1) := by decide +kernel
theorem dX4_isDueOn_26 : decode cX4_isDueOn 26 = .ok (.ireturn, 1) := by decide +kernel
theorem dX4_isDueOn_27 : decode cX4_isDueOn 27 = .ok (.aload_n 2, 1) := by decide +kernel
theorem dX4_isDueOn_28 : decode cX4_isDueOn 28 = .ok (.getfield 42, 3) := by decide +kernel
theorem dX4_isDueOn_31 : decode cX4_isDueOn 31 = .ok (.ifCond .eq 15, 3) := by decide +kernel
theorem dX4_isDueOn_34 : decode cX4_isDueOn 34 = .ok (.iload_n 3, 1) := by decide +kernel
theorem dX4_isDueOn_35 : decode cX4_isDueOn 35 = .ok (.aload_n 2, 1) := by decide +kernel
theorem dX4_isDueOn_36 : decode cX4_isDueOn 36 = .ok (.getfield 42, 3) := by decide +kernel
theorem dX4_isDueOn_39 : decode cX4_isDueOn 39 = .ok (.if_icmp .lt 7, 3) := by decide +kernel
theorem dX4_isDueOn_42 : decode cX4_isDueOn 42 = .ok (.iconst 1, 1) := by decide +kernel
theorem dX4_isDueOn_43 : decode cX4_isDueOn 43 = .ok (.goto 4, 3) := by decide +kernel
theorem dX4_isDueOn_46 : decode cX4_isDueOn 46 = .ok (.iconst 0, 1) := by decide +kernel
theorem dX4_isDueOn_47 : decode cX4_isDueOn 47 = .ok (.istore 4, 2) := by decide +kernel
theorem dX4_isDueOn_49 : decode cX4_isDueOn 49 = .ok (.iload 4, 2) := by decide +kernel
theorem dX4_isDueOn_51 : decode cX4_isDueOn 51 = .ok (.ifCond .ne 33, 3) := by decide +kernel
theorem dX4_isDueOn_54 : decode cX4_isDueOn 54 = .ok (.aload_n 2, 1) := by decide +kernel
theorem dX4_isDueOn_55 : decode cX4_isDueOn 55 = .ok (.getfield 46, 3) := by decide +kernel
theorem dX4_isDueOn_58 : decode cX4_isDueOn 58 = .ok (.aload_n 0, 1) := by decide +kernel
theorem dX4_isDueOn_59 : decode cX4_isDueOn 59 = .ok (.getfield 130, 3) := by decide +kernel
theorem dX4_isDueOn_62 : decode cX4_isDueOn 62 = .ok (.iload_n 1, 1) := by decide +kernel
theorem dX4_isDueOn_63 : decode cX4_isDueOn 63 = .ok (.invokestatic 191, 3) := by decide +kernel
theorem dX4_isDueOn_66 : decode cX4_isDueOn 66 = .ok (.ifCond .ne 18, 3) := by decide +kernel
theorem dX4_isDueOn_69 : decode cX4_isDueOn 69 = .ok (.aload_n 2, 1) := by decide +kernel
theorem dX4_isDueOn_70 : decode cX4_isDueOn 70 = .ok (.getfield 49, 3) := by decide +kernel
theorem dX4_isDueOn_73 : decode cX4_isDueOn 73 = .ok (.aload_n 0, 1) := by decide +kernel
theorem dX4_isDueOn_74 : decode cX4_isDueOn 74 = .ok (.getfield 130, 3) := by decide +kernel
theorem dX4_isDueOn_77 : decode cX4_isDueOn 77 = .ok (.iload_n 1, 1) := by decide +kernel
theorem dX4_isDueOn_78 : decode cX4_isDueOn 78 = .ok (.invokestatic 195, 3) := by decide +kernel
theorem dX4_isDueOn_81 : decode cX4_isDueOn 81 = .ok (.ifCond .eq 7, 3) := by decide +kernel
theorem dX4_isDueOn_84 : decode cX4_isDueOn 84 = .ok (.iconst 1, 1) := by decide +kernel
theorem dX4_isDueOn_85 : decode cX4_isDueOn 85 = .ok (.goto 4, 3) := by decide +kernel
theorem dX4_isDueOn_88 : decode cX4_isDueOn 88 = .ok (.iconst 0, 1) := by decide +kernel
theorem dX4_isDueOn_89 : decode cX4_isDueOn 89 = .ok (.ireturn, 1) := by decide +kernel
theorem dX4_isTooSoon_0 : decode cX4_isTooSoon 0 = .ok (.aload_n 0, 1) := by decide +kernel
theorem dX4_isTooSoon_1 : decode cX4_isTooSoon 1 = .ok (.getfield 198, 3) := by decide +kernel
theorem dX4_isTooSoon_4 : decode cX4_isTooSoon 4 = .ok (.ifCond .eq 23, 3) := by decide +kernel
theorem dX4_isTooSoon_7 : decode cX4_isTooSoon 7 = .ok (.iload_n 1, 1) := by decide +kernel
theorem dX4_isTooSoon_8 : decode cX4_isTooSoon 8 = .ok (.aload_n 0, 1) := by decide +kernel
theorem dX4_isTooSoon_9 : decode cX4_isTooSoon 9 = .ok (.getfield 130, 3) := by decide +kernel
theorem dX4_isTooSoon_12 : decode cX4_isTooSoon 12 = .ok (.isub, 1) := by decide +kernel
theorem dX4_isTooSoon_13 : decode cX4_isTooSoon 13 = .ok (.aload_n 0, 1) := by decide +kernel
theorem dX4_isTooSoon_14 : decode cX4_isTooSoon 14 = .ok (.getfield 75, 3) := by decide +kernel
theorem dX4_isTooSoon_17 : decode cX4_isTooSoon 17 = .ok (.getfield 52, 3) := by decide +kernel
theorem dX4_isTooSoon_20 : decode cX4_isTooSoon 20 = .ok (.if_icmp .ge 7, 3) := by decide +kernel
theorem dX4_isTooSoon_23 : decode cX4_isTooSoon 23 = .ok (.iconst 1, 1) := by decide +kernel
theorem dX4_isTooSoon_24 : decode cX4_isTooSoon 24 = .ok (.goto 4, 3) := by decide +kernel
theorem dX4_isTooSoon_27 : decode cX4_isTooSoon 27 = .ok (.iconst 0, 1) := by decide +kernel
theorem dX4_isTooSoon_28 : decode cX4_isTooSoon 28 = .ok (.ireturn, 1) := by decide +kernel
theorem dX4_hasWeekdayCome_0 : decode cX4_hasWeekdayCome 0 = .ok (.iload_n 1, 1) := by decide +kernel
theorem dX4_hasWeekdayCome_1 : decode cX4_hasWeekdayCome 1 = .ok (.iconst 1, 1) := by decide +kernel
theorem dX4_hasWeekdayCome_2 : decode cX4_hasWeekdayCome 2 = .ok (.iadd, 1) := by decide +kernel
theorem dX4_hasWeekdayCome_3 : decode cX4_hasWeekdayCome 3 = .ok (.istore_n 3, 1) := by decide +kernel
theorem dX4_hasWeekdayCome_4 : decode cX4_hasWeekdayCome 4 = .ok (.iload_n 0, 1) := by decide +kernel
theorem dX4_hasWeekdayCome_5 : decode cX4_hasWeekdayCome 5 = .ok (.iconst (-1), 1) := by decide +kernel
theorem dX4_hasWeekdayCome_6 : decode cX4_hasWeekdayCome 6 = .ok (.if_icmp .eq 21, 3) := by decide +kernel
theorem dX4_hasWeekdayCome_9 : decode cX4_hasWeekdayCome 9 = .ok (.iload_n 3, 1) := by decide +kernel
theorem dX4_hasWeekdayCome_10 : decode cX4_hasWeekdayCome 10 = .ok (.iload_n 0, 1) := by decide +kernel
theorem dX4_hasWeekdayCome_11 : decode cX4_hasWeekdayCome 11 = .ok (.iload_n 3, 1) := by decide +kernel
theorem dX4_hasWeekdayCome_12 : decode cX4_hasWeekdayCome 12 = .ok (.isub, 1) := by decide +kernel
theorem dX4_hasWeekdayCome_13 : decode cX4_hasWeekdayCome 13 = .ok (.bipush 7, 2) := by decide +kernel
theorem dX4_hasWeekdayCome_15 : decode cX4_hasWeekdayCome 15 = .ok (.invokestatic 201, 3) := by decide +kernel
theorem dX4_hasWeekdayCome_18 : decode cX4_hasWeekdayCome 18 = .ok (.iadd, 1) := by decide +kernel
theorem dX4_hasWeekdayCome_19 : decode cX4_hasWeekdayCome 19 = .ok (.iload_n 2, 1) := by decide +kernel
theorem dX4_hasWeekdayCome_20 : decode cX4_hasWeekdayCome 20 = .ok (.if_icmp .gt 7, 3) := by decide +kernel
theorem dX4_hasWeekdayCome_23 : decode cX4_hasWeekdayCome 23 = .ok (.iconst 1, 1) := by decide +kernel
theorem dX4_hasWeekdayCome_24 : decode cX4_hasWeekdayCome 24 = .ok (.goto 4, 3) := by decide +kernel
theorem dX4_hasWeekdayCome_27 : decode cX4_hasWeekdayCome 27 = .ok (.iconst 0, 1) := by decide +kernel
theorem dX4_hasWeekdayCome_28 : decode cX4_hasWeekdayCome 28 = .ok (.ireturn, 1) := by decide +kernel
theorem dX4_hasMonthlyCome_0 : decode cX4_hasMonthlyCome 0 = .ok (.iload_n 1, 1) := by decide +kernel
theorem dX4_hasMonthlyCome_1 : decode cX4_hasMonthlyCome 1 = .ok (.iconst 1, 1) := by decide +kernel
theorem dX4_hasMonthlyCome_2 : decode cX4_hasMonthlyCome 2 = .ok (.iadd, 1) := by decide +kernel
theorem dX4_hasMonthlyCome_3 : decode cX4_hasMonthlyCome 3 = .ok (.istore_n 3, 1) := by decide +kernel
theorem dX4_hasMonthlyCome_4 : decode cX4_hasMonthlyCome 4 = .ok (.iload_n 0, 1) := by decide +kernel
theorem dX4_hasMonthlyCome_5 : decode cX4_hasMonthlyCome 5 = .ok (.iconst (-1), 1) := by decide +kernel
theorem dX4_hasMonthlyCome_6 : decode cX4_hasMonthlyCome 6 = .ok (.if_icmp .eq 21, 3) := by decide +kernel
theorem dX4_hasMonthlyCome_9 : decode cX4_hasMonthlyCome 9 = .ok (.iload_n 3, 1) := by decide +kernel
theorem dX4_hasMonthlyCome_10 : decode cX4_hasMonthlyCome 10 = .ok (.iload_n 0, 1) := by decide +kernel
theorem dX4_hasMonthlyCome_11 : decode cX4_hasMonthlyCome 11 = .ok (.iload_n 3, 1) := by decide +kernel
theorem dX4_hasMonthlyCome_12 : decode cX4_hasMonthlyCome 12 = .ok (.isub, 1) := by decide +kernel
theorem dX4_hasMonthlyCome_13 : decode cX4_hasMonthlyCome 13 = .ok (.bipush 30, 2) := by decide +kernel
theorem dX4_hasMonthlyCome_15 : decode cX4_hasMonthlyCome 15 = .ok (.invokestatic 201, 3) := by decide +kernel
theorem dX4_hasMonthlyCome_18 : decode cX4_hasMonthlyCome 18 = .ok (.iadd, 1) := by decide +kernel
theorem dX4_hasMonthlyCome_19 : decode cX4_hasMonthlyCome 19 = .ok (.iload_n 2, 1) := by decide +kernel
theorem dX4_hasMonthlyCome_20 : decode cX4_hasMonthlyCome 20 = .ok (.if_icmp .gt 7, 3) := by decide +kernel
theorem dX4_hasMonthlyCome_23 : decode cX4_hasMonthlyCome 23 = .ok (.iconst 1, 1) := by decide +kernel
theorem dX4_hasMonthlyCome_24 : decode cX4_hasMonthlyCome 24 = .ok (.goto 4, 3) := by decide +kernel
theorem dX4_hasMonthlyCome_27 : decode cX4_hasMonthlyCome 27 = .ok (.iconst 0, 1) := by decide +kernel
theorem dX4_hasMonthlyCome_28 : decode cX4_hasMonthlyCome 28 = .ok (.ireturn, 1) := by decide +kernel
theorem dX4_turnToday_0 : decode cX4_turnToday 0 = .ok (.aload_n 1, 1) := by decide +kernel
theorem dX4_turnToday_1 : decode cX4_turnToday 1 = .ok (.getfield 137, 3) := by decide +kernel
theorem dX4_turnToday_4 : decode cX4_turnToday 4 = .ok (.invokevirtual 141, 3) := by decide +kernel
theorem dX4_turnToday_7 : decode cX4_turnToday 7 = .ok (.sipush 512, 3) := by decide +kernel
theorem dX4_turnToday_10 : decode cX4_turnToday 10 = .ok (.if_icmp .lt 5, 3) := by decide +kernel
theorem dX4_turnToday_13 : decode cX4_turnToday 13 = .ok (.iconst 0, 1) := by decide +kernel
theorem dX4_turnToday_14 : decode cX4_turnToday 14 = .ok (.ireturn, 1) := by decide +kernel
theorem dX4_turnToday_15 : decode cX4_turnToday 15 = .ok (.aload_n 1, 1) := by decide +kernel
theorem dX4_turnToday_16 : decode cX4_turnToday 16 = .ok (.getfield 90, 3) := by decide +kernel
theorem dX4_turnToday_19 : decode cX4_turnToday 19 = .ok (.astore_n 2, 1) := by decide +kernel
theorem dX4_turnToday_20 : decode cX4_turnToday 20 = .ok (.aload_n 2, 1) := by decide +kernel
theorem dX4_turnToday_21 : decode cX4_turnToday 21 = .ok (.aload_n 0, 1) := by decide +kernel
theorem dX4_turnToday_22 : decode cX4_turnToday 22 = .ok (.getfield 109, 3) := by decide +kernel
theorem dX4_turnToday_25 : decode cX4_turnToday 25 = .ok (.putfield 150, 3) := by decide +kernel
theorem dX4_turnToday_28 : decode cX4_turnToday 28 = .ok (.aload_n 1, 1) := by decide +kernel
theorem dX4_turnToday_29 : decode cX4_turnToday 29 = .ok (.getfield 137, 3) := by decide +kernel
theorem dX4_turnToday_32 : decode cX4_turnToday 32 = .ok (.aload_n 2, 1) := by decide +kernel
theorem dX4_turnToday_33 : decode cX4_turnToday 33 = .ok (.invokevirtual 207, 3) := by decide +kernel
theorem dX4_turnToday_36 : decode cX4_turnToday 36 = .ok (.pop, 1) := by decide +kernel
theorem dX4_turnToday_37 : decode cX4_turnToday 37 = .ok (.aload_n 1, 1) := by decide +kernel
theorem dX4_turnToday_38 : decode cX4_turnToday 38 = .ok (.new 105, 3) := by decide +kernel
theorem dX4_turnToday_41 : decode cX4_turnToday 41 = .ok (.dup, 1) := by decide +kernel
theorem dX4_turnToday_42 : decode cX4_turnToday 42 = .ok (.invokespecial 211, 3) := by decide +kernel
theorem dX4_turnToday_45 : decode cX4_turnToday 45 = .ok (.putfield 90, 3) := by decide +kernel
theorem dX4_turnToday_48 : decode cX4_turnToday 48 = .ok (.aload_n 0, 1) := by decide +kernel
theorem dX4_turnToday_49 : decode cX4_turnToday 49 = .ok (.aload_n 1, 1) := by decide +kernel
theorem dX4_turnToday_50 : decode cX4_turnToday 50 = .ok (.invokevirtual 133, 3) := by decide +kernel
theorem dX4_turnToday_53 : decode cX4_turnToday 53 = .ok (.aload_n 1, 1) := by decide +kernel
theorem dX4_turnToday_54 : decode cX4_turnToday 54 = .ok (.getfield 75, 3) := by decide +kernel
theorem dX4_turnToday_57 : decode cX4_turnToday 57 = .ok (.getfield 61, 3) := by decide +kernel
theorem dX4_turnToday_60 : decode cX4_turnToday 60 = .ok (.ifCond .eq 11, 3) := by decide +kernel
theorem dX4_turnToday_63 : decode cX4_turnToday 63 = .ok (.aload_n 0, 1) := by decide +kernel
theorem dX4_turnToday_64 : decode cX4_turnToday 64 = .ok (.aload_n 1, 1) := by decide +kernel
theorem dX4_turnToday_65 : decode cX4_turnToday 65 = .ok (.getfield 137, 3) := by decide +kernel
theorem dX4_turnToday_68 : decode cX4_turnToday 68 = .ok (.invokevirtual 212, 3) := by decide +kernel
theorem dX4_turnToday_71 : decode cX4_turnToday 71 = .ok (.aload_n 0, 1) := by decide +kernel
theorem dX4_turnToday_72 : decode cX4_turnToday 72 = .ok (.aload_n 1, 1) := by decide +kernel
theorem dX4_turnToday_73 : decode cX4_turnToday 73 = .ok (.invokevirtual 216, 3) := by decide +kernel
theorem dX4_turnToday_76 : decode cX4_turnToday 76 = .ok (.ireturn, 1) := by decide +kernel
theorem dX4_markTurnedToday_0 : decode cX4_markTurnedToday 0 = .ok (.aload_n 1, 1) := by decide +kernel
theorem dX4_markTurnedToday_1 : decode cX4_markTurnedToday 1 = .ok (.aload_n 0, 1) := by decide +kernel
theorem dX4_markTurnedToday_2 : decode cX4_markTurnedToday 2 = .ok (.getfield 109, 3) := by decide +kernel
theorem dX4_markTurnedToday_5 : decode cX4_markTurnedToday 5 = .ok (.putfield 130, 3) := by decide +kernel
theorem dX4_markTurnedToday_8 : decode cX4_markTurnedToday 8 = .ok (.aload_n 1, 1) := by decide +kernel
theorem dX4_markTurnedToday_9 : decode cX4_markTurnedToday 9 = .ok (.iconst 1, 1) := by decide +kernel
theorem dX4_markTurnedToday_10 : decode cX4_markTurnedToday 10 = .ok (.putfield 198, 3) := by decide +kernel
theorem dX4_markTurnedToday_13 : decode cX4_markTurnedToday 13 = .ok (.return_, 1) := by decide +kernel
theorem dX4_squeezeOldParts_0 : decode cX4_squeezeOldParts 0 = .ok (.iconst 0, 1) := by decide +kernel
theorem dX4_squeezeOldParts_1 : decode cX4_squeezeOldParts 1 = .ok (.istore_n 2, 1) := by decide +kernel
theorem dX4_squeezeOldParts_2 : decode cX4_squeezeOldParts 2 = .ok (.iload_n 2, 1) := by decide +kernel
theorem dX4_squeezeOldParts_3 : decode cX4_squeezeOldParts 3 = .ok (.aload_n 1, 1) := by decide +kernel
theorem dX4_squeezeOldParts_4 : decode cX4_squeezeOldParts 4 = .ok (.invokevirtual 141, 3) := by decide +kernel
theorem dX4_squeezeOldParts_7 : decode cX4_squeezeOldParts 7 = .ok (.iconst 1, 1) := by decide +kernel
theorem dX4_squeezeOldParts_8 : decode cX4_squeezeOldParts 8 = .ok (.isub, 1) := by decide +kernel
theorem dX4_squeezeOldParts_9 : decode cX4_squeezeOldParts 9 = .ok (.if_icmp .ge 31, 3) := by decide +kernel
theorem dX4_squeezeOldParts_12 : decode cX4_squeezeOldParts 12 = .ok (.aload_n 1, 1) := by decide +kernel
theorem dX4_squeezeOldParts_13 : decode cX4_squeezeOldParts 13 = .ok (.iload_n 2, 1) := by decide +kernel
theorem dX4_squeezeOldParts_14 : decode cX4_squeezeOldParts 14 = .ok (.invokevirtual 179, 3) := by decide +kernel
theorem dX4_squeezeOldParts_17 : decode cX4_squeezeOldParts 17 = .ok (.checkcast 105, 3) := by decide +kernel
theorem dX4_squeezeOldParts_20 : decode cX4_squeezeOldParts 20 = .ok (.astore_n 3, 1) := by decide +kernel
theorem dX4_squeezeOldParts_21 : decode cX4_squeezeOldParts 21 = .ok (.aload_n 0, 1) := by decide +kernel
theorem dX4_squeezeOldParts_22 : decode cX4_squeezeOldParts 22 = .ok (.aload_n 3, 1) := by decide +kernel
theorem dX4_squeezeOldParts_23 : decode cX4_squeezeOldParts 23 = .ok (.invokevirtual 219, 3) := by decide +kernel
theorem dX4_squeezeOldParts_26 : decode cX4_squeezeOldParts 26 = .ok (.ifCond .ne 8, 3) := by decide +kernel
theorem dX4_squeezeOldParts_29 : decode cX4_squeezeOldParts 29 = .ok (.aload_n 3, 1) := by decide +kernel
theorem dX4_squeezeOldParts_30 : decode cX4_squeezeOldParts 30 = .ok (.iconst 1, 1) := by decide +kernel
theorem dX4_squeezeOldParts_31 : decode cX4_squeezeOldParts 31 = .ok (.putfield 157, 3) := by decide +kernel
theorem dX4_squeezeOldParts_34 : decode cX4_squeezeOldParts 34 = .ok (.iinc 2 1, 3) := by decide +kernel
theorem dX4_squeezeOldParts_37 : decode cX4_squeezeOldParts 37 = .ok (.goto (-35), 3) := by decide +kernel
theorem dX4_squeezeOldParts_40 : decode cX4_squeezeOldParts 40 = .ok (.return_, 1) := by decide +kernel
theorem dX4_throwOldParts_0 : decode cX4_throwOldParts 0 = .ok (.aload_n 1, 1) := by decide +kernel
theorem dX4_throwOldParts_1 : decode cX4_throwOldParts 1 = .ok (.getfield 137, 3) := by decide +kernel
theorem dX4_throwOldParts_4 : decode cX4_throwOldParts 4 = .ok (.astore_n 2, 1) := by decide +kernel
theorem dX4_throwOldParts_5 : decode cX4_throwOldParts 5 = .ok (.aload_n 2, 1) := by decide +kernel
theorem dX4_throwOldParts_6 : decode cX4_throwOldParts 6 = .ok (.invokevirtual 141, 3) := by decide +kernel
theorem dX4_throwOldParts_9 : decode cX4_throwOldParts 9 = .ok (.istore_n 3, 1) := by decide +kernel
theorem dX4_throwOldParts_10 : decode cX4_throwOldParts 10 = .ok (.iconst 0, 1) := by decide +kernel
theorem dX4_throwOldParts_11 : decode cX4_throwOldParts 11 = .ok (.istore 4, 2) := by decide +kernel
theorem dX4_throwOldParts_13 : decode cX4_throwOldParts 13 = .ok (.iconst 0, 1) := by decide +kernel
theorem dX4_throwOldParts_14 : decode cX4_throwOldParts 14 = .ok (.istore 5, 2) := by decide +kernel
theorem dX4_throwOldParts_16 : decode cX4_throwOldParts 16 = .ok (.iload 5, 2) := by decide +kernel
theorem dX4_throwOldParts_18 : decode cX4_throwOldParts 18 = .ok (.iload_n 3, 1) := by decide +kernel
theorem dX4_throwOldParts_19 : decode cX4_throwOldParts 19 = .ok (.if_icmp .ge 67, 3) := by decide +kernel
theorem dX4_throwOldParts_22 : decode cX4_throwOldParts 22 = .ok (.aload_n 2, 1) := by decide +kernel
theorem dX4_throwOldParts_23 : decode cX4_throwOldParts 23 = .ok (.iload 5, 2) := by decide +kernel
theorem dX4_throwOldParts_25 : decode cX4_throwOldParts 25 = .ok (.iload 4, 2) := by decide +kernel
theorem dX4_throwOldParts_27 : decode cX4_throwOldParts 27 = .ok (.isub, 1) := by decide +kernel
theorem dX4_throwOldParts_28 : decode cX4_throwOldParts 28 = .ok (.invokevirtual 179, 3) := by decide +kernel
theorem dX4_throwOldParts_31 : decode cX4_throwOldParts 31 = .ok (.checkcast 105, 3) := by decide +kernel
theorem dX4_throwOldParts_34 : decode cX4_throwOldParts 34 = .ok (.astore 6, 2) := by decide +kernel
theorem dX4_throwOldParts_36 : decode cX4_throwOldParts 36 = .ok (.aload_n 0, 1) := by decide +kernel
theorem dX4_throwOldParts_37 : decode cX4_throwOldParts 37 = .ok (.aload 6, 2) := by decide +kernel
theorem dX4_throwOldParts_39 : decode cX4_throwOldParts 39 = .ok (.aload_n 1, 1) := by decide +kernel
theorem dX4_throwOldParts_40 : decode cX4_throwOldParts 40 = .ok (.getfield 75, 3) := by decide +kernel
theorem dX4_throwOldParts_43 : decode cX4_throwOldParts 43 = .ok (.iload_n 3, 1) := by decide +kernel
theorem dX4_throwOldParts_44 : decode cX4_throwOldParts 44 = .ok (.iload 4, 2) := by decide +kernel
theorem dX4_throwOldParts_46 : decode cX4_throwOldParts 46 = .ok (.isub, 1) := by decide +kernel
theorem dX4_throwOldParts_47 : decode cX4_throwOldParts 47 = .ok (.invokevirtual 223, 3) := by decide +kernel
theorem dX4_throwOldParts_50 : decode cX4_throwOldParts 50 = .ok (.ifCond .eq 30, 3) := by decide +kernel
theorem dX4_throwOldParts_53 : decode cX4_throwOldParts 53 = .ok (.aload_n 1, 1) := by decide +kernel
theorem dX4_throwOldParts_54 : decode cX4_throwOldParts 54 = .ok (.dup, 1) := by decide +kernel
theorem dX4_throwOldParts_55 : decode cX4_throwOldParts 55 = .ok (.getfield 160, 3) := by decide +kernel
theorem dX4_throwOldParts_58 : decode cX4_throwOldParts 58 = .ok (.aload 6, 2) := by decide +kernel
theorem dX4_throwOldParts_60 : decode cX4_throwOldParts 60 = .ok (.getfield 104, 3) := by decide +kernel
theorem dX4_throwOldParts_63 : decode cX4_throwOldParts 63 = .ok (.iadd, 1) := by decide +kernel
theorem dX4_throwOldParts_64 : decode cX4_throwOldParts 64 = .ok (.putfield 160, 3) := by decide +kernel
theorem dX4_throwOldParts_67 : decode cX4_throwOldParts 67 = .ok (.aload_n 2, 1) := by decide +kernel
theorem dX4_throwOldParts_68 : decode cX4_throwOldParts 68 = .ok (.iload 5, 2) := by decide +kernel
theorem dX4_throwOldParts_70 : decode cX4_throwOldParts 70 = .ok (.iload 4, 2) := by decide +kernel
theorem dX4_throwOldParts_72 : decode cX4_throwOldParts 72 = .ok (.isub, 1) := by decide +kernel
theorem dX4_throwOldParts_73 : decode cX4_throwOldParts 73 = .ok (.invokevirtual 227, 3) := by decide +kernel
theorem dX4_throwOldParts_76 : decode cX4_throwOldParts 76 = .ok (.pop, 1) := by decide +kernel
theorem dX4_throwOldParts_77 : decode cX4_throwOldParts 77 = .ok (.iinc 4 1, 3) := by decide +kernel
theorem dX4_throwOldParts_80 : decode cX4_throwOldParts 80 = .ok (.iinc 5 1, 3) := by decide +kernel
theorem dX4_throwOldParts_83 : decode cX4_throwOldParts 83 = .ok (.goto (-67), 3) := by decide +kernel
theorem dX4_throwOldParts_86 : decode cX4_throwOldParts 86 = .ok (.iload 4, 2) := by decide +kernel
theorem dX4_throwOldParts_88 : decode cX4_throwOldParts 88 = .ok (.ireturn, 1) := by decide +kernel
theorem dX4_mustGo_0 : decode cX4_mustGo 0 = .ok (.aload_n 0, 1) := by decide +kernel
theorem dX4_mustGo_1 : decode cX4_mustGo 1 = .ok (.getfield 109, 3) := by decide +kernel
theorem dX4_mustGo_4 : decode cX4_mustGo 4 = .ok (.aload_n 1, 1) := by decide +kernel
theorem dX4_mustGo_5 : decode cX4_mustGo 5 = .ok (.getfield 150, 3) := by decide +kernel
theorem dX4_mustGo_8 : decode cX4_mustGo 8 = .ok (.isub, 1) := by decide +kernel
theorem dX4_mustGo_9 : decode cX4_mustGo 9 = .ok (.istore 4, 2) := by decide +kernel
theorem dX4_mustGo_11 : decode cX4_mustGo 11 = .ok (.iload 4, 2) := by decide +kernel
theorem dX4_mustGo_13 : decode cX4_mustGo 13 = .ok (.aload_n 2, 1) := by decide +kernel
theorem dX4_mustGo_14 : decode cX4_mustGo 14 = .ok (.getfield 52, 3) := by decide +kernel
theorem dX4_mustGo_17 : decode cX4_mustGo 17 = .ok (.if_icmp .lt 11, 3) := by decide +kernel
theorem dX4_mustGo_20 : decode cX4_mustGo 20 = .ok (.aload_n 0, 1) := by decide +kernel
theorem dX4_mustGo_21 : decode cX4_mustGo 21 = .ok (.aload_n 1, 1) := by decide +kernel
theorem dX4_mustGo_22 : decode cX4_mustGo 22 = .ok (.invokevirtual 219, 3) := by decide +kernel
theorem dX4_mustGo_25 : decode cX4_mustGo 25 = .ok (.ifCond .eq 5, 3) := by decide +kernel
theorem dX4_mustGo_28 : decode cX4_mustGo 28 = .ok (.iconst 0, 1) := by decide +kernel
theorem dX4_mustGo_29 : decode cX4_mustGo 29 = .ok (.ireturn, 1) := by decide +kernel
theorem dX4_mustGo_30 : decode cX4_mustGo 30 = .ok (.aload_n 2, 1) := by decide +kernel
theorem dX4_mustGo_31 : decode cX4_mustGo 31 = .ok (.getfield 58, 3) := by decide +kernel
theorem dX4_mustGo_34 : decode cX4_mustGo 34 = .ok (.ifCond .eq 16, 3) := by decide +kernel
theorem dX4_mustGo_37 : decode cX4_mustGo 37 = .ok (.iload 4, 2) := by decide +kernel
theorem dX4_mustGo_39 : decode cX4_mustGo 39 = .ok (.aload_n 2, 1) := by decide +kernel
theorem dX4_mustGo_40 : decode cX4_mustGo 40 = .ok (.getfield 58, 3) := by decide +kernel
theorem dX4_mustGo_43 : decode cX4_mustGo 43 = .ok (.if_icmp .le 7, 3) := by decide +kernel
theorem dX4_mustGo_46 : decode cX4_mustGo 46 = .ok (.iconst 1, 1) := by decide +kernel
theorem dX4_mustGo_47 : decode cX4_mustGo 47 = .ok (.goto 4, 3) := by decide +kernel
theorem dX4_mustGo_50 : decode cX4_mustGo 50 = .ok (.iconst 0, 1) := by decide +kernel
theorem dX4_mustGo_51 : decode cX4_mustGo 51 = .ok (.istore 5, 2) := by decide +kernel
theorem dX4_mustGo_53 : decode cX4_mustGo 53 = .ok (.iload_n 3, 1) := by decide +kernel
theorem dX4_mustGo_54 : decode cX4_mustGo 54 = .ok (.aload_n 2, 1) := by decide +kernel
theorem dX4_mustGo_55 : decode cX4_mustGo 55 = .ok (.getfield 55, 3) := by decide +kernel
theorem dX4_mustGo_58 : decode cX4_mustGo 58 = .ok (.if_icmp .gt 8, 3) := by decide +kernel
theorem dX4_mustGo_61 : decode cX4_mustGo 61 = .ok (.iload 5, 2) := by decide +kernel
theorem dX4_mustGo_63 : decode cX4_mustGo 63 = .ok (.ifCond .eq 7, 3) := by decide +kernel
theorem dX4_mustGo_66 : decode cX4_mustGo 66 = .ok (.iconst 1, 1) := by decide +kernel
theorem dX4_mustGo_67 : decode cX4_mustGo 67 = .ok (.goto 4, 3) := by decide +kernel
theorem dX4_mustGo_70 : decode cX4_mustGo 70 = .ok (.iconst 0, 1) := by decide +kernel
theorem dX4_mustGo_71 : decode cX4_mustGo 71 = .ok (.ireturn, 1) := by decide +kernel
theorem dX4_isHeld_0 : decode cX4_isHeld 0 = .ok (.iconst 0, 1) := by decide +kernel
theorem dX4_isHeld_1 : decode cX4_isHeld 1 = .ok (.istore_n 2, 1) := by decide +kernel
theorem dX4_isHeld_2 : decode cX4_isHeld 2 = .ok (.iload_n 2, 1) := by decide +kernel
theorem dX4_isHeld_3 : decode cX4_isHeld 3 = .ok (.iconst 4, 1) := by decide +kernel
theorem dX4_isHeld_4 : decode cX4_isHeld 4 = .ok (.if_icmp .ge 24, 3) := by decide +kernel
theorem dX4_isHeld_7 : decode cX4_isHeld 7 = .ok (.aload_n 0, 1) := by decide +kernel
theorem dX4_isHeld_8 : decode cX4_isHeld 8 = .ok (.getfield 23, 3) := by decide +kernel
theorem dX4_isHeld_11 : decode cX4_isHeld 11 = .ok (.iload_n 2, 1) := by decide +kernel
theorem dX4_isHeld_12 : decode cX4_isHeld 12 = .ok (.aaload, 1) := by decide +kernel
theorem dX4_isHeld_13 : decode cX4_isHeld 13 = .ok (.getfield 94, 3) := by decide +kernel
theorem dX4_isHeld_16 : decode cX4_isHeld 16 = .ok (.aload_n 1, 1) := by decide +kernel
theorem dX4_isHeld_17 : decode cX4_isHeld 17 = .ok (.if_acmp .ne 5, 3) := by decide +kernel
theorem dX4_isHeld_20 : decode cX4_isHeld 20 = .ok (.iconst 1, 1) := by decide +kernel
theorem dX4_isHeld_21 : decode cX4_isHeld 21 = .ok (.ireturn, 1) := by decide +kernel
theorem dX4_isHeld_22 : decode cX4_isHeld 22 = .ok (.iinc 2 1, 3) := by decide +kernel
theorem dX4_isHeld_25 : decode cX4_isHeld 25 = .ok (.goto (-23), 3) := by decide +kernel
theorem dX4_isHeld_28 : decode cX4_isHeld 28 = .ok (.iconst 0, 1) := by decide +kernel
theorem dX4_isHeld_29 : decode cX4_isHeld 29 = .ok (.ireturn, 1) := by decide +kernel
theorem dX4_hasFileAmong_0 : decode cX4_hasFileAmong 0 = .ok (.iconst 0, 1) := by decide +kernel
theorem dX4_hasFileAmong_1 : decode cX4_hasFileAmong 1 = .ok (.istore_n 3, 1) := by decide +kernel
theorem dX4_hasFileAmong_2 : decode cX4_hasFileAmong 2 = .ok (.iload_n 3, 1) := by decide +kernel
theorem dX4_hasFileAmong_3 : decode cX4_hasFileAmong 3 = .ok (.iconst 5, 1) := by decide +kernel
theorem dX4_hasFileAmong_4 : decode cX4_hasFileAmong 4 = .ok (.if_icmp .ge 32, 3) := by decide +kernel
theorem dX4_hasFileAmong_7 : decode cX4_hasFileAmong 7 = .ok (.iload_n 2, 1) := by decide +kernel
theorem dX4_hasFileAmong_8 : decode cX4_hasFileAmong 8 = .ok (.iload_n 3, 1) := by decide +kernel
theorem dX4_hasFileAmong_9 : decode cX4_hasFileAmong 9 = .ok (.ishr, 1) := by decide +kernel
theorem dX4_hasFileAmong_10 : decode cX4_hasFileAmong 10 = .ok (.iconst 1, 1) := by decide +kernel
theorem dX4_hasFileAmong_11 : decode cX4_hasFileAmong 11 = .ok (.iand, 1) := by decide +kernel
theorem dX4_hasFileAmong_12 : decode cX4_hasFileAmong 12 = .ok (.ifCond .eq 18, 3) := by decide +kernel
theorem dX4_hasFileAmong_15 : decode cX4_hasFileAmong 15 = .ok (.aload_n 0, 1) := by decide +kernel
theorem dX4_hasFileAmong_16 : decode cX4_hasFileAmong 16 = .ok (.getfield 17, 3) := by decide +kernel
theorem dX4_hasFileAmong_19 : decode cX4_hasFileAmong 19 = .ok (.iload_n 3, 1) := by decide +kernel
theorem dX4_hasFileAmong_20 : decode cX4_hasFileAmong 20 = .ok (.aaload, 1) := by decide +kernel
theorem dX4_hasFileAmong_21 : decode cX4_hasFileAmong 21 = .ok (.getfield 75, 3) := by decide +kernel
theorem dX4_hasFileAmong_24 : decode cX4_hasFileAmong 24 = .ok (.aload_n 1, 1) := by decide +kernel
theorem dX4_hasFileAmong_25 : decode cX4_hasFileAmong 25 = .ok (.if_acmp .ne 5, 3) := by decide +kernel
theorem dX4_hasFileAmong_28 : decode cX4_hasFileAmong 28 = .ok (.iconst 1, 1) := by decide +kernel
theorem dX4_hasFileAmong_29 : decode cX4_hasFileAmong 29 = .ok (.ireturn, 1) := by decide +kernel
theorem dX4_hasFileAmong_30 : decode cX4_hasFileAmong 30 = .ok (.iinc 3 1, 3) := by decide +kernel
theorem dX4_hasFileAmong_33 : decode cX4_hasFileAmong 33 = .ok (.goto (-31), 3) := by decide +kernel
theorem dX4_hasFileAmong_36 : decode cX4_hasFileAmong 36 = .ok (.iconst 0, 1) := by decide +kernel
theorem dX4_hasFileAmong_37 : decode cX4_hasFileAmong 37 = .ok (.ireturn, 1) := by decide +kernel
theorem dX4_tellHoldersOf_0 : decode cX4_tellHoldersOf 0 = .ok (.iconst 0, 1) := by decide +kernel
theorem dX4_tellHoldersOf_1 : decode cX4_tellHoldersOf 1 = .ok (.istore_n 2, 1) := by decide +kernel
theorem dX4_tellHoldersOf_2 : decode cX4_tellHoldersOf 2 = .ok (.iload_n 2, 1) := by decide +kernel
theorem dX4_tellHoldersOf_3 : decode cX4_tellHoldersOf 3 = .ok (.iconst 4, 1) := by decide +kernel
theorem dX4_tellHoldersOf_4 : decode cX4_tellHoldersOf 4 = .ok (.if_icmp .ge 44, 3) := by decide +kernel
theorem dX4_tellHoldersOf_7 : decode cX4_tellHoldersOf 7 = .ok (.aload_n 0, 1) := by decide +kernel
theorem dX4_tellHoldersOf_8 : decode cX4_tellHoldersOf 8 = .ok (.getfield 23, 3) := by decide +kernel
theorem dX4_tellHoldersOf_11 : decode cX4_tellHoldersOf 11 = .ok (.iload_n 2, 1) := by decide +kernel
theorem dX4_tellHoldersOf_12 : decode cX4_tellHoldersOf 12 = .ok (.aaload, 1) := by decide +kernel
theorem dX4_tellHoldersOf_13 : decode cX4_tellHoldersOf 13 = .ok (.getfield 86, 3) := by decide +kernel
theorem dX4_tellHoldersOf_16 : decode cX4_tellHoldersOf 16 = .ok (.astore_n 3, 1) := by decide +kernel
theorem dX4_tellHoldersOf_17 : decode cX4_tellHoldersOf 17 = .ok (.aload_n 3, 1) := by decide +kernel
theorem dX4_tellHoldersOf_18 : decode cX4_tellHoldersOf 18 = .ok (.ifnull 24, 3) := by decide +kernel
theorem dX4_tellHoldersOf_21 : decode cX4_tellHoldersOf 21 = .ok (.aload_n 3, 1) := by decide +kernel
theorem dX4_tellHoldersOf_22 : decode cX4_tellHoldersOf 22 = .ok (.getfield 75, 3) := by decide +kernel
theorem dX4_tellHoldersOf_25 : decode cX4_tellHoldersOf 25 = .ok (.aload_n 1, 1) := by decide +kernel
theorem dX4_tellHoldersOf_26 : decode cX4_tellHoldersOf 26 = .ok (.if_acmp .ne 16, 3) := by decide +kernel
theorem dX4_tellHoldersOf_29 : decode cX4_tellHoldersOf 29 = .ok (.aload_n 0, 1) := by decide +kernel
theorem dX4_tellHoldersOf_30 : decode cX4_tellHoldersOf 30 = .ok (.getfield 23, 3) := by decide +kernel
theorem dX4_tellHoldersOf_33 : decode cX4_tellHoldersOf 33 = .ok (.iload_n 2, 1) := by decide +kernel
theorem dX4_tellHoldersOf_34 : decode cX4_tellHoldersOf 34 = .ok (.aaload, 1) := by decide +kernel
theorem dX4_tellHoldersOf_35 : decode cX4_tellHoldersOf 35 = .ok (.aload_n 3, 1) := by decide +kernel
theorem dX4_tellHoldersOf_36 : decode cX4_tellHoldersOf 36 = .ok (.getfield 90, 3) := by decide +kernel
theorem dX4_tellHoldersOf_39 : decode cX4_tellHoldersOf 39 = .ok (.putfield 94, 3) := by decide +kernel
theorem dX4_tellHoldersOf_42 : decode cX4_tellHoldersOf 42 = .ok (.iinc 2 1, 3) := by decide +kernel
theorem dX4_tellHoldersOf_45 : decode cX4_tellHoldersOf 45 = .ok (.goto (-43), 3) := by decide +kernel
theorem dX4_tellHoldersOf_48 : decode cX4_tellHoldersOf 48 = .ok (.return_, 1) := by decide +kernel
theorem dX4_countOlderOfDay_0 : decode cX4_countOlderOfDay 0 = .ok (.iconst 0, 1) := by decide +kernel
theorem dX4_countOlderOfDay_1 : decode cX4_countOlderOfDay 1 = .ok (.istore_n 3, 1) := by decide +kernel
theorem dX4_countOlderOfDay_2 : decode cX4_countOlderOfDay 2 = .ok (.iconst 0, 1) := by decide +kernel
theorem dX4_countOlderOfDay_3 : decode cX4_countOlderOfDay 3 = .ok (.istore 4, 2) := by decide +kernel
theorem dX4_countOlderOfDay_5 : decode cX4_countOlderOfDay 5 = .ok (.iload 4, 2) := by decide +kernel
theorem dX4_countOlderOfDay_7 : decode cX4_countOlderOfDay 7 = .ok (.iload_n 1, 1) := by decide +kernel
theorem dX4_countOlderOfDay_8 : decode cX4_countOlderOfDay 8 = .ok (.if_icmp .ge 37, 3) := by decide +kernel
theorem dX4_countOlderOfDay_11 : decode cX4_countOlderOfDay 11 = .ok (.iload 4, 2) := by decide +kernel
theorem dX4_countOlderOfDay_13 : decode cX4_countOlderOfDay 13 = .ok (.aload_n 0, 1) := by decide +kernel
theorem dX4_countOlderOfDay_14 : decode cX4_countOlderOfDay 14 = .ok (.invokevirtual 141, 3) := by decide +kernel
theorem dX4_countOlderOfDay_17 : decode cX4_countOlderOfDay 17 = .ok (.if_icmp .ge 28, 3) := by decide +kernel
theorem dX4_countOlderOfDay_20 : decode cX4_countOlderOfDay 20 = .ok (.aload_n 0, 1) := by decide +kernel
theorem dX4_countOlderOfDay_21 : decode cX4_countOlderOfDay 21 = .ok (.iload 4, 2) := by decide +kernel
theorem dX4_countOlderOfDay_23 : decode cX4_countOlderOfDay 23 = .ok (.invokevirtual 179, 3) := by decide +kernel
theorem dX4_countOlderOfDay_26 : decode cX4_countOlderOfDay 26 = .ok (.checkcast 105, 3) := by decide +kernel
theorem dX4_countOlderOfDay_29 : decode cX4_countOlderOfDay 29 = .ok (.getfield 150, 3) := by decide +kernel
theorem dX4_countOlderOfDay_32 : decode cX4_countOlderOfDay 32 = .ok (.iload_n 2, 1) := by decide +kernel
theorem dX4_countOlderOfDay_33 : decode cX4_countOlderOfDay 33 = .ok (.if_icmp .ne 6, 3) := by decide +kernel
theorem dX4_countOlderOfDay_36 : decode cX4_countOlderOfDay 36 = .ok (.iinc 3 1, 3) := by decide +kernel
theorem dX4_countOlderOfDay_39 : decode cX4_countOlderOfDay 39 = .ok (.iinc 4 1, 3) := by decide +kernel
theorem dX4_countOlderOfDay_42 : decode cX4_countOlderOfDay 42 = .ok (.goto (-37), 3) := by decide +kernel
theorem dX4_countOlderOfDay_45 : decode cX4_countOlderOfDay 45 = .ok (.iload_n 3, 1) := by decide +kernel
theorem dX4_countOlderOfDay_46 : decode cX4_countOlderOfDay 46 = .ok (.ireturn, 1) := by decide +kernel
theorem dX4_placeOf_0 : decode cX4_placeOf 0 = .ok (.iconst 0, 1) := by decide +kernel
theorem dX4_placeOf_1 : decode cX4_placeOf 1 = .ok (.istore_n 2, 1) := by decide +kernel
theorem dX4_placeOf_2 : decode cX4_placeOf 2 = .ok (.iload_n 2, 1) := by decide +kernel
theorem dX4_placeOf_3 : decode cX4_placeOf 3 = .ok (.aload_n 0, 1) := by decide +kernel
theorem dX4_placeOf_4 : decode cX4_placeOf 4 = .ok (.invokevirtual 141, 3) := by decide +kernel
theorem dX4_placeOf_7 : decode cX4_placeOf 7 = .ok (.if_icmp .ge 22, 3) := by decide +kernel
theorem dX4_placeOf_10 : decode cX4_placeOf 10 = .ok (.aload_n 0, 1) := by decide +kernel
theorem dX4_placeOf_11 : decode cX4_placeOf 11 = .ok (.iload_n 2, 1) := by decide +kernel
theorem dX4_placeOf_12 : decode cX4_placeOf 12 = .ok (.invokevirtual 179, 3) := by decide +kernel
theorem dX4_placeOf_15 : decode cX4_placeOf 15 = .ok (.aload_n 1, 1) := by decide +kernel
theorem dX4_placeOf_16 : decode cX4_placeOf 16 = .ok (.if_acmp .ne 7, 3) := by decide +kernel
theorem dX4_placeOf_19 : decode cX4_placeOf 19 = .ok (.iload_n 2, 1) := by decide +kernel
theorem dX4_placeOf_20 : decode cX4_placeOf 20 = .ok (.iconst 1, 1) := by decide +kernel
theorem dX4_placeOf_21 : decode cX4_placeOf 21 = .ok (.iadd, 1) := by decide +kernel
theorem dX4_placeOf_22 : decode cX4_placeOf 22 = .ok (.ireturn, 1) := by decide +kernel
theorem dX4_placeOf_23 : decode cX4_placeOf 23 = .ok (.iinc 2 1, 3) := by decide +kernel
theorem dX4_placeOf_26 : decode cX4_placeOf 26 = .ok (.goto (-24), 3) := by decide +kernel
theorem dX4_placeOf_29 : decode cX4_placeOf 29 = .ok (.iconst 0, 1) := by decide +kernel
theorem dX4_placeOf_30 : decode cX4_placeOf 30 = .ok (.ireturn, 1) := by decide +kernel
end
section
theorem dJ9_floorMod_7cf53_0 : decode cJ9_floorMod_7cf53 0 = .ok (.iload_n 0, 1) := by decide +kernel
theorem dJ9_floorMod_7cf53_1 : decode cJ9_floorMod_7cf53 1 = .ok (.iload_n 1, 1) := by decide +kernel
theorem dJ9_floorMod_7cf53_2 : decode cJ9_floorMod_7cf53 2 = .ok (.irem, 1) := by decide +kernel
theorem dJ9_floorMod_7cf53_3 : decode cJ9_floorMod_7cf53 3 = .ok (.istore_n 2, 1) := by decide +kernel
theorem dJ9_floorMod_7cf53_4 : decode cJ9_floorMod_7cf53 4 = .ok (.iload_n 0, 1) := by decide +kernel
theorem dJ9_floorMod_7cf53_5 : decode cJ9_floorMod_7cf53 5 = .ok (.iload_n 1, 1) := by decide +kernel
theorem dJ9_floorMod_7cf53_6 : decode cJ9_floorMod_7cf53 6 = .ok (.ixor, 1) := by decide +kernel
theorem dJ9_floorMod_7cf53_7 : decode cJ9_floorMod_7cf53 7 = .ok (.ifCond .ge 11, 3) := by decide +kernel
theorem dJ9_floorMod_7cf53_10 : decode cJ9_floorMod_7cf53 10 = .ok (.iload_n 2, 1) := by decide +kernel
theorem dJ9_floorMod_7cf53_11 : decode cJ9_floorMod_7cf53 11 = .ok (.ifCond .eq 7, 3) := by decide +kernel
theorem dJ9_floorMod_7cf53_14 : decode cJ9_floorMod_7cf53 14 = .ok (.iload_n 2, 1) := by decide +kernel
theorem dJ9_floorMod_7cf53_15 : decode cJ9_floorMod_7cf53 15 = .ok (.iload_n 1, 1) := by decide +kernel
theorem dJ9_floorMod_7cf53_16 : decode cJ9_floorMod_7cf53 16 = .ok (.iadd, 1) := by decide +kernel
theorem dJ9_floorMod_7cf53_17 : decode cJ9_floorMod_7cf53 17 = .ok (.ireturn, 1) := by decide +kernel
theorem dJ9_floorMod_7cf53_18 : decode cJ9_floorMod_7cf53 18 = .ok (.iload_n 2, 1) := by decide +kernel
theorem dJ9_floorMod_7cf53_19 : decode cJ9_floorMod_7cf53 19 = .ok (.ireturn, 1) := by decide +kernel
theorem dJ9_max_7cf53_0 : decode cJ9_max_7cf53 0 = .ok (.iload_n 0, 1) := by decide +kernel
theorem dJ9_max_7cf53_1 : decode cJ9_max_7cf53 1 = .ok (.iload_n 1, 1) := by decide +kernel
theorem dJ9_max_7cf53_2 : decode cJ9_max_7cf53 2 = .ok (.if_icmp .lt 7, 3) := by decide +kernel
theorem dJ9_max_7cf53_5 : decode cJ9_max_7cf53 5 = .ok (.iload_n 0, 1) := by decide +kernel
theorem dJ9_max_7cf53_6 : decode cJ9_max_7cf53 6 = .ok (.goto 4, 3) := by decide +kernel
theorem dJ9_max_7cf53_9 : decode cJ9_max_7cf53 9 = .ok (.iload_n 1, 1) := by decide +kernel
theorem dJ9_max_7cf53_10 : decode cJ9_max_7cf53 10 = .ok (.ireturn, 1) := by decide +kernel
theorem dJ9_min_7cf53_0 : decode cJ9_min_7cf53 0 = .ok (.iload_n 0, 1) := by decide +kernel
theorem dJ9_min_7cf53_1 : decode cJ9_min_7cf53 1 = .ok (.iload_n 1, 1) := by decide +kernel
theorem dJ9_min_7cf53_2 : decode cJ9_min_7cf53 2 = .ok (.if_icmp .gt 7, 3) := by decide +kernel
theorem dJ9_min_7cf53_5 : decode cJ9_min_7cf53 5 = .ok (.iload_n 0, 1) := by decide +kernel
theorem dJ9_min_7cf53_6 : decode cJ9_min_7cf53 6 = .ok (.goto 4, 3) := by decide +kernel
theorem dJ9_min_7cf53_9 : decode cJ9_min_7cf53 9 = .ok (.iload_n 1, 1) := by decide +kernel
theorem dJ9_min_7cf53_10 : decode cJ9_min_7cf53 10 = .ok (.ireturn, 1) := by decide +kernel
theorem dJxa1e45_init_da8c8_0 : decode cJxa1e45_init_da8c8 0 = .ok (.aload_n 0, 1) := by decide +kernel
theorem dJxa1e45_init_da8c8_1 : decode cJxa1e45_init_da8c8 1 = .ok (.invokespecial 1, 3) := by decide +kernel
theorem dJxa1e45_init_da8c8_4 : decode cJxa1e45_init_da8c8 4 = .ok (.return_, 1) := by decide +kernel
theorem dJxc12de_init_da8c8_0 : decode cJxc12de_init_da8c8 0 = .ok (.aload_n 0, 1) := by decide +kernel
theorem dJxc12de_init_da8c8_1 : decode cJxc12de_init_da8c8 1 = .ok (.invokespecial 1, 3) := by decide +kernel
theorem dJxc12de_init_da8c8_4 : decode cJxc12de_init_da8c8 4 = .ok (.aload_n 0, 1) := by decide +kernel
theorem dJxc12de_init_da8c8_5 : decode cJxc12de_init_da8c8 5 = .ok (.iconst 0, 1) := by decide +kernel
theorem dJxc12de_init_da8c8_6 : decode cJxc12de_init_da8c8 6 = .ok (.putfield 7, 3) := by decide +kernel
theorem dJxc12de_init_da8c8_9 : decode cJxc12de_init_da8c8 9 = .ok (.return_, 1) := by decide +kernel
theorem dJx4a65c_init_da8c8_0 : decode cJx4a65c_init_da8c8 0 = .ok (.aload_n 0, 1) := by decide +kernel
theorem dJx4a65c_init_da8c8_1 : decode cJx4a65c_init_da8c8 1 = .ok (.invokespecial 1, 3) := by decide +kernel
theorem dJx4a65c_init_da8c8_4 : decode cJx4a65c_init_da8c8 4 = .ok (.aload_n 0, 1) := by decide +kernel
theorem dJx4a65c_init_da8c8_5 : decode cJx4a65c_init_da8c8 5 = .ok (.getstatic 39, 3) := by decide +kernel
theorem dJx4a65c_init_da8c8_8 : decode cJx4a65c_init_da8c8 8 = .ok (.putfield 9, 3) := by decide +kernel
theorem dJx4a65c_init_da8c8_11 : decode cJx4a65c_init_da8c8 11 = .ok (.return_, 1) := by decide +kernel
theorem dJx4a65c_grow_92f84_0 : decode cJx4a65c_grow_92f84 0 = .ok (.aload_n 0, 1) := by decide +kernel
theorem dJx4a65c_grow_92f84_1 : decode cJx4a65c_grow_92f84 1 = .ok (.getfield 9, 3) := by decide +kernel
theorem dJx4a65c_grow_92f84_4 : decode cJx4a65c_grow_92f84 4 = .ok (.arraylength, 1) := by decide +kernel
theorem dJx4a65c_grow_92f84_5 : decode cJx4a65c_grow_92f84 5 = .ok (.istore_n 2, 1) := by decide +kernel
theorem dJx4a65c_grow_92f84_6 : decode cJx4a65c_grow_92f84 6 = .ok (.iload_n 2, 1) := by decide +kernel
theorem dJx4a65c_grow_92f84_7 : decode cJx4a65c_grow_92f84 7 = .ok (.ifCond .gt 13, 3) := by decide +kernel
theorem dJx4a65c_grow_92f84_10 : decode cJx4a65c_grow_92f84 10 = .ok (.aload_n 0, 1) := by decide +kernel
theorem dJx4a65c_grow_92f84_11 : decode cJx4a65c_grow_92f84 11 = .ok (.getfield 9, 3) := by decide +kernel
theorem dJx4a65c_grow_92f84_14 : decode cJx4a65c_grow_92f84 14 = .ok (.getstatic 39, 3) := by decide +kernel
theorem dJx4a65c_grow_92f84_17 : decode cJx4a65c_grow_92f84 17 = .ok (.if_acmp .eq 28, 3) := by decide +kernel
theorem dJx4a65c_grow_92f84_20 : decode cJx4a65c_grow_92f84 20 = .ok (.iload_n 2, 1) := by decide +kernel
theorem dJx4a65c_grow_92f84_21 : decode cJx4a65c_grow_92f84 21 = .ok (.iload_n 1, 1) := by decide +kernel
theorem dJx4a65c_grow_92f84_22 : decode cJx4a65c_grow_92f84 22 = .ok (.iload_n 2, 1) := by decide +kernel
theorem dJx4a65c_grow_92f84_23 : decode cJx4a65c_grow_92f84 23 = .ok (.isub, 1) := by decide +kernel
theorem dJx4a65c_grow_92f84_24 : decode cJx4a65c_grow_92f84 24 = .ok (.iload_n 2, 1) := by decide +kernel
theorem dJx4a65c_grow_92f84_25 : decode cJx4a65c_grow_92f84 25 = .ok (.iconst 1, 1) := by decide +kernel
theorem dJx4a65c_grow_92f84_26 : decode cJx4a65c_grow_92f84 26 = .ok (.ishr, 1) := by decide +kernel
theorem dJx4a65c_grow_92f84_27 : decode cJx4a65c_grow_92f84 27 = .ok (.invokestatic 73, 3) := by decide +kernel
theorem dJx4a65c_grow_92f84_30 : decode cJx4a65c_grow_92f84 30 = .ok (.istore_n 3, 1) := by decide +kernel
theorem dJx4a65c_grow_92f84_31 : decode cJx4a65c_grow_92f84 31 = .ok (.aload_n 0, 1) := by decide +kernel
theorem dJx4a65c_grow_92f84_32 : decode cJx4a65c_grow_92f84 32 = .ok (.aload_n 0, 1) := by decide +kernel
theorem dJx4a65c_grow_92f84_33 : decode cJx4a65c_grow_92f84 33 = .ok (.getfield 9, 3) := by decide +kernel
theorem dJx4a65c_grow_92f84_36 : decode cJx4a65c_grow_92f84 36 = .ok (.iload_n 3, 1) := by decide +kernel
theorem dJx4a65c_grow_92f84_37 : decode cJx4a65c_grow_92f84 37 = .ok (.invokestatic 66, 3) := by decide +kernel
theorem dJx4a65c_grow_92f84_40 : decode cJx4a65c_grow_92f84 40 = .ok (.dup_x1, 1) := by decide +kernel
theorem dJx4a65c_grow_92f84_41 : decode cJx4a65c_grow_92f84 41 = .ok (.putfield 9, 3) := by decide +kernel
theorem dJx4a65c_grow_92f84_44 : decode cJx4a65c_grow_92f84 44 = .ok (.areturn, 1) := by decide +kernel
theorem dJx4a65c_grow_92f84_45 : decode cJx4a65c_grow_92f84 45 = .ok (.aload_n 0, 1) := by decide +kernel
theorem dJx4a65c_grow_92f84_46 : decode cJx4a65c_grow_92f84 46 = .ok (.bipush 10, 2) := by decide +kernel
theorem dJx4a65c_grow_92f84_48 : decode cJx4a65c_grow_92f84 48 = .ok (.iload_n 1, 1) := by decide +kernel
theorem dJx4a65c_grow_92f84_49 : decode cJx4a65c_grow_92f84 49 = .ok (.invokestatic 79, 3) := by decide +kernel
theorem dJx4a65c_grow_92f84_52 : decode cJx4a65c_grow_92f84 52 = .ok (.anewarray 7, 3) := by decide +kernel
theorem dJx4a65c_grow_92f84_55 : decode cJx4a65c_grow_92f84 55 = .ok (.dup_x1, 1) := by decide +kernel
theorem dJx4a65c_grow_92f84_56 : decode cJx4a65c_grow_92f84 56 = .ok (.putfield 9, 3) := by decide +kernel
theorem dJx4a65c_grow_92f84_59 : decode cJx4a65c_grow_92f84 59 = .ok (.areturn, 1) := by decide +kernel
theorem dJx4a65c_grow_d5877_0 : decode cJx4a65c_grow_d5877 0 = .ok (.aload_n 0, 1) := by decide +kernel
theorem dJx4a65c_grow_d5877_1 : decode cJx4a65c_grow_d5877 1 = .ok (.aload_n 0, 1) := by decide +kernel
theorem dJx4a65c_grow_d5877_2 : decode cJx4a65c_grow_d5877 2 = .ok (.getfield 48, 3) := by decide +kernel
theorem dJx4a65c_grow_d5877_5 : decode cJx4a65c_grow_d5877 5 = .ok (.iconst 1, 1) := by decide +kernel
theorem dJx4a65c_grow_d5877_6 : decode cJx4a65c_grow_d5877 6 = .ok (.iadd, 1) := by decide +kernel
theorem dJx4a65c_grow_d5877_7 : decode cJx4a65c_grow_d5877 7 = .ok (.invokevirtual 69, 3) := by decide +kernel
theorem dJx4a65c_grow_d5877_10 : decode cJx4a65c_grow_d5877 10 = .ok (.areturn, 1) := by decide +kernel
theorem dJx4a65c_size_8abf5_0 : decode cJx4a65c_size_8abf5 0 = .ok (.aload_n 0, 1) := by decide +kernel
theorem dJx4a65c_size_8abf5_1 : decode cJx4a65c_size_8abf5 1 = .ok (.getfield 48, 3) := by decide +kernel
theorem dJx4a65c_size_8abf5_4 : decode cJx4a65c_size_8abf5 4 = .ok (.ireturn, 1) := by decide +kernel
theorem dJx4a65c_elementData_915e3_0 : decode cJx4a65c_elementData_915e3 0 = .ok (.aload_n 0, 1) := by decide +kernel
theorem dJx4a65c_elementData_915e3_1 : decode cJx4a65c_elementData_915e3 1 = .ok (.getfield 9, 3) := by decide +kernel
theorem dJx4a65c_elementData_915e3_4 : decode cJx4a65c_elementData_915e3 4 = .ok (.iload_n 1, 1) := by decide +kernel
theorem dJx4a65c_elementData_915e3_5 : decode cJx4a65c_elementData_915e3 5 = .ok (.aaload, 1) := by decide +kernel
theorem dJx4a65c_elementData_915e3_6 : decode cJx4a65c_elementData_915e3 6 = .ok (.areturn, 1) := by decide +kernel
theorem dJx4a65c_get_915e3_0 : decode cJx4a65c_get_915e3 0 = .ok (.iload_n 1, 1) := by decide +kernel
theorem dJx4a65c_get_915e3_1 : decode cJx4a65c_get_915e3 1 = .ok (.aload_n 0, 1) := by decide +kernel
theorem dJx4a65c_get_915e3_2 : decode cJx4a65c_get_915e3 2 = .ok (.getfield 48, 3) := by decide +kernel
theorem dJx4a65c_get_915e3_5 : decode cJx4a65c_get_915e3 5 = .ok (.invokestatic 118, 3) := by decide +kernel
theorem dJx4a65c_get_915e3_8 : decode cJx4a65c_get_915e3 8 = .ok (.pop, 1) := by decide +kernel
theorem dJx4a65c_get_915e3_9 : decode cJx4a65c_get_915e3 9 = .ok (.aload_n 0, 1) := by decide +kernel
theorem dJx4a65c_get_915e3_10 : decode cJx4a65c_get_915e3 10 = .ok (.iload_n 1, 1) := by decide +kernel
theorem dJx4a65c_get_915e3_11 : decode cJx4a65c_get_915e3 11 = .ok (.invokevirtual 123, 3) := by decide +kernel
theorem dJx4a65c_get_915e3_14 : decode cJx4a65c_get_915e3 14 = .ok (.areturn, 1) := by decide +kernel
theorem dJx4a65c_add_72be8_0 : decode cJx4a65c_add_72be8 0 = .ok (.iload_n 3, 1) := by decide +kernel
theorem dJx4a65c_add_72be8_1 : decode cJx4a65c_add_72be8 1 = .ok (.aload_n 2, 1) := by decide +kernel
theorem dJx4a65c_add_72be8_2 : decode cJx4a65c_add_72be8 2 = .ok (.arraylength, 1) := by decide +kernel
theorem dJx4a65c_add_72be8_3 : decode cJx4a65c_add_72be8 3 = .ok (.if_icmp .ne 8, 3) := by decide +kernel
theorem dJx4a65c_add_72be8_6 : decode cJx4a65c_add_72be8 6 = .ok (.aload_n 0, 1) := by decide +kernel
theorem dJx4a65c_add_72be8_7 : decode cJx4a65c_add_72be8 7 = .ok (.invokevirtual 129, 3) := by decide +kernel
theorem dJx4a65c_add_72be8_10 : decode cJx4a65c_add_72be8 10 = .ok (.astore_n 2, 1) := by decide +kernel
theorem dJx4a65c_add_72be8_11 : decode cJx4a65c_add_72be8 11 = .ok (.aload_n 2, 1) := by decide +kernel
theorem dJx4a65c_add_72be8_12 : decode cJx4a65c_add_72be8 12 = .ok (.iload_n 3, 1) := by decide +kernel
theorem dJx4a65c_add_72be8_13 : decode cJx4a65c_add_72be8 13 = .ok (.aload_n 1, 1) := by decide +kernel
theorem dJx4a65c_add_72be8_14 : decode cJx4a65c_add_72be8 14 = .ok (.aastore, 1) := by decide +kernel
theorem dJx4a65c_add_72be8_15 : decode cJx4a65c_add_72be8 15 = .ok (.aload_n 0, 1) := by decide +kernel
theorem dJx4a65c_add_72be8_16 : decode cJx4a65c_add_72be8 16 = .ok (.iload_n 3, 1) := by decide +kernel
theorem dJx4a65c_add_72be8_17 : decode cJx4a65c_add_72be8 17 = .ok (.iconst 1, 1) := by decide +kernel
theorem dJx4a65c_add_72be8_18 : decode cJx4a65c_add_72be8 18 = .ok (.iadd, 1) := by decide +kernel
theorem dJx4a65c_add_72be8_19 : decode cJx4a65c_add_72be8 19 = .ok (.putfield 48, 3) := by decide +kernel
theorem dJx4a65c_add_72be8_22 : decode cJx4a65c_add_72be8 22 = .ok (.return_, 1) := by decide +kernel
theorem dJx4a65c_add_9ea2d_0 : decode cJx4a65c_add_9ea2d 0 = .ok (.aload_n 0, 1) := by decide +kernel
theorem dJx4a65c_add_9ea2d_1 : decode cJx4a65c_add_9ea2d 1 = .ok (.dup, 1) := by decide +kernel
theorem dJx4a65c_add_9ea2d_2 : decode cJx4a65c_add_9ea2d 2 = .ok (.getfield 63, 3) := by decide +kernel
theorem dJx4a65c_add_9ea2d_5 : decode cJx4a65c_add_9ea2d 5 = .ok (.iconst 1, 1) := by decide +kernel
theorem dJx4a65c_add_9ea2d_6 : decode cJx4a65c_add_9ea2d 6 = .ok (.iadd, 1) := by decide +kernel
theorem dJx4a65c_add_9ea2d_7 : decode cJx4a65c_add_9ea2d 7 = .ok (.putfield 63, 3) := by decide +kernel
theorem dJx4a65c_add_9ea2d_10 : decode cJx4a65c_add_9ea2d 10 = .ok (.aload_n 0, 1) := by decide +kernel
theorem dJx4a65c_add_9ea2d_11 : decode cJx4a65c_add_9ea2d 11 = .ok (.aload_n 1, 1) := by decide +kernel
theorem dJx4a65c_add_9ea2d_12 : decode cJx4a65c_add_9ea2d 12 = .ok (.aload_n 0, 1) := by decide +kernel
theorem dJx4a65c_add_9ea2d_13 : decode cJx4a65c_add_9ea2d 13 = .ok (.getfield 9, 3) := by decide +kernel
theorem dJx4a65c_add_9ea2d_16 : decode cJx4a65c_add_9ea2d 16 = .ok (.aload_n 0, 1) := by decide +kernel
theorem dJx4a65c_add_9ea2d_17 : decode cJx4a65c_add_9ea2d 17 = .ok (.getfield 48, 3) := by decide +kernel
theorem dJx4a65c_add_9ea2d_20 : decode cJx4a65c_add_9ea2d 20 = .ok (.invokevirtual 131, 3) := by decide +kernel
theorem dJx4a65c_add_9ea2d_23 : decode cJx4a65c_add_9ea2d 23 = .ok (.iconst 1, 1) := by decide +kernel
theorem dJx4a65c_add_9ea2d_24 : decode cJx4a65c_add_9ea2d 24 = .ok (.ireturn, 1) := by decide +kernel
theorem dJx4a65c_remove_915e3_0 : decode cJx4a65c_remove_915e3 0 = .ok (.iload_n 1, 1) := by decide +kernel
theorem dJx4a65c_remove_915e3_1 : decode cJx4a65c_remove_915e3 1 = .ok (.aload_n 0, 1) := by decide +kernel
theorem dJx4a65c_remove_915e3_2 : decode cJx4a65c_remove_915e3 2 = .ok (.getfield 48, 3) := by decide +kernel
theorem dJx4a65c_remove_915e3_5 : decode cJx4a65c_remove_915e3 5 = .ok (.invokestatic 118, 3) := by decide +kernel
theorem dJx4a65c_remove_915e3_8 : decode cJx4a65c_remove_915e3 8 = .ok (.pop, 1) := by decide +kernel
theorem dJx4a65c_remove_915e3_9 : decode cJx4a65c_remove_915e3 9 = .ok (.aload_n 0, 1) := by decide +kernel
theorem dJx4a65c_remove_915e3_10 : decode cJx4a65c_remove_915e3 10 = .ok (.getfield 9, 3) := by decide +kernel
theorem dJx4a65c_remove_915e3_13 : decode cJx4a65c_remove_915e3 13 = .ok (.astore_n 2, 1) := by decide +kernel
theorem dJx4a65c_remove_915e3_14 : decode cJx4a65c_remove_915e3 14 = .ok (.aload_n 2, 1) := by decide +kernel
theorem dJx4a65c_remove_915e3_15 : decode cJx4a65c_remove_915e3 15 = .ok (.iload_n 1, 1) := by decide +kernel
theorem dJx4a65c_remove_915e3_16 : decode cJx4a65c_remove_915e3 16 = .ok (.aaload, 1) := by decide +kernel
theorem dJx4a65c_remove_915e3_17 : decode cJx4a65c_remove_915e3 17 = .ok (.astore_n 3, 1) := by decide +kernel
theorem dJx4a65c_remove_915e3_18 : decode cJx4a65c_remove_915e3 18 = .ok (.aload_n 0, 1) := by decide +kernel
theorem dJx4a65c_remove_915e3_19 : decode cJx4a65c_remove_915e3 19 = .ok (.aload_n 2, 1) := by decide +kernel
theorem dJx4a65c_remove_915e3_20 : decode cJx4a65c_remove_915e3 20 = .ok (.iload_n 1, 1) := by decide +kernel
theorem dJx4a65c_remove_915e3_21 : decode cJx4a65c_remove_915e3 21 = .ok (.invokevirtual 144, 3) := by decide +kernel
theorem dJx4a65c_remove_915e3_24 : decode cJx4a65c_remove_915e3 24 = .ok (.aload_n 3, 1) := by decide +kernel
theorem dJx4a65c_remove_915e3_25 : decode cJx4a65c_remove_915e3 25 = .ok (.areturn, 1) := by decide +kernel
theorem dJx4a65c_fastRemove_b59b0_0 : decode cJx4a65c_fastRemove_b59b0 0 = .ok (.aload_n 0, 1) := by decide +kernel
theorem dJx4a65c_fastRemove_b59b0_1 : decode cJx4a65c_fastRemove_b59b0 1 = .ok (.dup, 1) := by decide +kernel
theorem dJx4a65c_fastRemove_b59b0_2 : decode cJx4a65c_fastRemove_b59b0 2 = .ok (.getfield 63, 3) := by decide +kernel
theorem dJx4a65c_fastRemove_b59b0_5 : decode cJx4a65c_fastRemove_b59b0 5 = .ok (.iconst 1, 1) := by decide +kernel
theorem dJx4a65c_fastRemove_b59b0_6 : decode cJx4a65c_fastRemove_b59b0 6 = .ok (.iadd, 1) := by decide +kernel
theorem dJx4a65c_fastRemove_b59b0_7 : decode cJx4a65c_fastRemove_b59b0 7 = .ok (.putfield 63, 3) := by decide +kernel
theorem dJx4a65c_fastRemove_b59b0_10 : decode cJx4a65c_fastRemove_b59b0 10 = .ok (.aload_n 0, 1) := by decide +kernel
theorem dJx4a65c_fastRemove_b59b0_11 : decode cJx4a65c_fastRemove_b59b0 11 = .ok (.getfield 48, 3) := by decide +kernel
theorem dJx4a65c_fastRemove_b59b0_14 : decode cJx4a65c_fastRemove_b59b0 14 = .ok (.iconst 1, 1) := by decide +kernel
theorem dJx4a65c_fastRemove_b59b0_15 : decode cJx4a65c_fastRemove_b59b0 15 = .ok (.isub, 1) := by decide +kernel
theorem dJx4a65c_fastRemove_b59b0_16 : decode cJx4a65c_fastRemove_b59b0 16 = .ok (.dup, 1) := by decide +kernel
theorem dJx4a65c_fastRemove_b59b0_17 : decode cJx4a65c_fastRemove_b59b0 17 = .ok (.istore_n 3, 1) := by decide +kernel
theorem dJx4a65c_fastRemove_b59b0_18 : decode cJx4a65c_fastRemove_b59b0 18 = .ok (.iload_n 2, 1) := by decide +kernel
theorem dJx4a65c_fastRemove_b59b0_19 : decode cJx4a65c_fastRemove_b59b0 19 = .ok (.if_icmp .le 15, 3) := by decide +kernel
theorem dJx4a65c_fastRemove_b59b0_22 : decode cJx4a65c_fastRemove_b59b0 22 = .ok (.aload_n 1, 1) := by decide +kernel
theorem dJx4a65c_fastRemove_b59b0_23 : decode cJx4a65c_fastRemove_b59b0 23 = .ok (.iload_n 2, 1) := by decide +kernel
theorem dJx4a65c_fastRemove_b59b0_24 : decode cJx4a65c_fastRemove_b59b0 24 = .ok (.iconst 1, 1) := by decide +kernel
theorem dJx4a65c_fastRemove_b59b0_25 : decode cJx4a65c_fastRemove_b59b0 25 = .ok (.iadd, 1) := by decide +kernel
theorem dJx4a65c_fastRemove_b59b0_26 : decode cJx4a65c_fastRemove_b59b0 26 = .ok (.aload_n 1, 1) := by decide +kernel
theorem dJx4a65c_fastRemove_b59b0_27 : decode cJx4a65c_fastRemove_b59b0 27 = .ok (.iload_n 2, 1) := by decide +kernel
theorem dJx4a65c_fastRemove_b59b0_28 : decode cJx4a65c_fastRemove_b59b0 28 = .ok (.iload_n 3, 1) := by decide +kernel
theorem dJx4a65c_fastRemove_b59b0_29 : decode cJx4a65c_fastRemove_b59b0 29 = .ok (.iload_n 2, 1) := by decide +kernel
theorem dJx4a65c_fastRemove_b59b0_30 : decode cJx4a65c_fastRemove_b59b0 30 = .ok (.isub, 1) := by decide +kernel
theorem dJx4a65c_fastRemove_b59b0_31 : decode cJx4a65c_fastRemove_b59b0 31 = .ok (.invokestatic 112, 3) := by decide +kernel
theorem dJx4a65c_fastRemove_b59b0_34 : decode cJx4a65c_fastRemove_b59b0 34 = .ok (.aload_n 1, 1) := by decide +kernel
theorem dJx4a65c_fastRemove_b59b0_35 : decode cJx4a65c_fastRemove_b59b0 35 = .ok (.aload_n 0, 1) := by decide +kernel
theorem dJx4a65c_fastRemove_b59b0_36 : decode cJx4a65c_fastRemove_b59b0 36 = .ok (.iload_n 3, 1) := by decide +kernel
theorem dJx4a65c_fastRemove_b59b0_37 : decode cJx4a65c_fastRemove_b59b0 37 = .ok (.dup_x1, 1) := by decide +kernel
theorem dJx4a65c_fastRemove_b59b0_38 : decode cJx4a65c_fastRemove_b59b0 38 = .ok (.putfield 48, 3) := by decide +kernel
theorem dJx4a65c_fastRemove_b59b0_41 : decode cJx4a65c_fastRemove_b59b0 41 = .ok (.aconst_null, 1) := by decide +kernel
theorem dJx4a65c_fastRemove_b59b0_42 : decode cJx4a65c_fastRemove_b59b0 42 = .ok (.aastore, 1) := by decide +kernel
theorem dJx4a65c_fastRemove_b59b0_43 : decode cJx4a65c_fastRemove_b59b0 43 = .ok (.return_, 1) := by decide +kernel
theorem dJ7_copyOf_1904c_0 : decode cJ7_copyOf_1904c 0 = .ok (.aload_n 0, 1) := by decide +kernel
theorem dJ7_copyOf_1904c_1 : decode cJ7_copyOf_1904c 1 = .ok (.iload_n 1, 1) := by decide +kernel
theorem dJ7_copyOf_1904c_2 : decode cJ7_copyOf_1904c 2 = .ok (.aload_n 0, 1) := by decide +kernel
theorem dJ7_copyOf_1904c_3 : decode cJ7_copyOf_1904c 3 = .ok (.invokevirtual 86, 3) := by decide +kernel
theorem dJ7_copyOf_1904c_6 : decode cJ7_copyOf_1904c 6 = .ok (.invokestatic 300, 3) := by decide +kernel
theorem dJ7_copyOf_1904c_9 : decode cJ7_copyOf_1904c 9 = .ok (.areturn, 1) := by decide +kernel
theorem dJ7_copyOf_6403c_0 : decode cJ7_copyOf_6403c 0 = .ok (.aload_n 2, 1) := by decide +kernel
theorem dJ7_copyOf_6403c_1 : decode cJ7_copyOf_6403c 1 = .ok (.ldc 110, 2) := by decide +kernel
theorem dJ7_copyOf_6403c_3 : decode cJ7_copyOf_6403c 3 = .ok (.if_acmp .ne 10, 3) := by decide +kernel
theorem dJ7_copyOf_6403c_6 : decode cJ7_copyOf_6403c 6 = .ok (.iload_n 1, 1) := by decide +kernel
theorem dJ7_copyOf_6403c_7 : decode cJ7_copyOf_6403c 7 = .ok (.anewarray 2, 3) := by decide +kernel
theorem dJ7_copyOf_6403c_10 : decode cJ7_copyOf_6403c 10 = .ok (.goto 14, 3) := by decide +kernel
theorem dJ7_copyOf_6403c_13 : decode cJ7_copyOf_6403c 13 = .ok (.aload_n 2, 1) := by decide +kernel
theorem dJ7_copyOf_6403c_14 : decode cJ7_copyOf_6403c 14 = .ok (.invokevirtual 90, 3) := by decide +kernel
theorem dJ7_copyOf_6403c_17 : decode cJ7_copyOf_6403c 17 = .ok (.iload_n 1, 1) := by decide +kernel
theorem dJ7_copyOf_6403c_18 : decode cJ7_copyOf_6403c 18 = .ok (.invokestatic 95, 3) := by decide +kernel
theorem dJ7_copyOf_6403c_21 : decode cJ7_copyOf_6403c 21 = .ok (.checkcast 110, 3) := by decide +kernel
theorem dJ7_copyOf_6403c_24 : decode cJ7_copyOf_6403c 24 = .ok (.astore_n 3, 1) := by decide +kernel
theorem dJ7_copyOf_6403c_25 : decode cJ7_copyOf_6403c 25 = .ok (.aload_n 0, 1) := by decide +kernel
theorem dJ7_copyOf_6403c_26 : decode cJ7_copyOf_6403c 26 = .ok (.iconst 0, 1) := by decide +kernel
theorem dJ7_copyOf_6403c_27 : decode cJ7_copyOf_6403c 27 = .ok (.aload_n 3, 1) := by decide +kernel
theorem dJ7_copyOf_6403c_28 : decode cJ7_copyOf_6403c 28 = .ok (.iconst 0, 1) := by decide +kernel
theorem dJ7_copyOf_6403c_29 : decode cJ7_copyOf_6403c 29 = .ok (.aload_n 0, 1) := by decide +kernel
theorem dJ7_copyOf_6403c_30 : decode cJ7_copyOf_6403c 30 = .ok (.arraylength, 1) := by decide +kernel
theorem dJ7_copyOf_6403c_31 : decode cJ7_copyOf_6403c 31 = .ok (.iload_n 1, 1) := by decide +kernel
theorem dJ7_copyOf_6403c_32 : decode cJ7_copyOf_6403c 32 = .ok (.invokestatic 304, 3) := by decide +kernel
theorem dJ7_copyOf_6403c_35 : decode cJ7_copyOf_6403c 35 = .ok (.invokestatic 150, 3) := by decide +kernel
theorem dJ7_copyOf_6403c_38 : decode cJ7_copyOf_6403c 38 = .ok (.aload_n 3, 1) := by decide +kernel
theorem dJ7_copyOf_6403c_39 : decode cJ7_copyOf_6403c 39 = .ok (.areturn, 1) := by decide +kernel
theorem dJ15_checkIndex_7cf53_0 : decode cJ15_checkIndex_7cf53 0 = .ok (.iload_n 0, 1) := by decide +kernel
theorem dJ15_checkIndex_7cf53_1 : decode cJ15_checkIndex_7cf53 1 = .ok (.iload_n 1, 1) := by decide +kernel
theorem dJ15_checkIndex_7cf53_2 : decode cJ15_checkIndex_7cf53 2 = .ok (.aconst_null, 1) := by decide +kernel
theorem dJ15_checkIndex_7cf53_3 : decode cJ15_checkIndex_7cf53 3 = .ok (.invokestatic 105, 3) := by decide +kernel
theorem dJ15_checkIndex_7cf53_6 : decode cJ15_checkIndex_7cf53 6 = .ok (.ireturn, 1) := by decide +kernel
theorem dJ8_newLength_cabcc_0 : decode cJ8_newLength_cabcc 0 = .ok (.iload_n 0, 1) := by decide +kernel
theorem dJ8_newLength_cabcc_1 : decode cJ8_newLength_cabcc 1 = .ok (.iload_n 1, 1) := by decide +kernel
theorem dJ8_newLength_cabcc_2 : decode cJ8_newLength_cabcc 2 = .ok (.iload_n 2, 1) := by decide +kernel
theorem dJ8_newLength_cabcc_3 : decode cJ8_newLength_cabcc 3 = .ok (.invokestatic 194, 3) := by decide +kernel
theorem dJ8_newLength_cabcc_6 : decode cJ8_newLength_cabcc 6 = .ok (.iadd, 1) := by decide +kernel
theorem dJ8_newLength_cabcc_7 : decode cJ8_newLength_cabcc 7 = .ok (.istore_n 3, 1) := by decide +kernel
theorem dJ8_newLength_cabcc_8 : decode cJ8_newLength_cabcc 8 = .ok (.iconst 0, 1) := by decide +kernel
theorem dJ8_newLength_cabcc_9 : decode cJ8_newLength_cabcc 9 = .ok (.iload_n 3, 1) := by decide +kernel
theorem dJ8_newLength_cabcc_10 : decode cJ8_newLength_cabcc 10 = .ok (.if_icmp .ge 11, 3) := by decide +kernel
theorem dJ8_newLength_cabcc_13 : decode cJ8_newLength_cabcc 13 = .ok (.iload_n 3, 1) := by decide +kernel
theorem dJ8_newLength_cabcc_14 : decode cJ8_newLength_cabcc 14 = .ok (.ldc 200, 2) := by decide +kernel
theorem dJ8_newLength_cabcc_16 : decode cJ8_newLength_cabcc 16 = .ok (.if_icmp .gt 5, 3) := by decide +kernel
theorem dJ8_newLength_cabcc_19 : decode cJ8_newLength_cabcc 19 = .ok (.iload_n 3, 1) := by decide +kernel
theorem dJ8_newLength_cabcc_20 : decode cJ8_newLength_cabcc 20 = .ok (.ireturn, 1) := by decide +kernel
theorem dJ8_newLength_cabcc_21 : decode cJ8_newLength_cabcc 21 = .ok (.iload_n 0, 1) := by decide +kernel
theorem dJ8_newLength_cabcc_22 : decode cJ8_newLength_cabcc 22 = .ok (.iload_n 1, 1) := by decide +kernel
theorem dJ8_newLength_cabcc_23 : decode cJ8_newLength_cabcc 23 = .ok (.invokestatic 201, 3) := by decide +kernel
theorem dJ8_newLength_cabcc_26 : decode cJ8_newLength_cabcc 26 = .ok (.ireturn, 1) := by decide +kernel
theorem dJ8_hugeLength_7cf53_0 : decode cJ8_hugeLength_7cf53 0 = .ok (.iload_n 0, 1) := by decide +kernel
theorem dJ8_hugeLength_7cf53_1 : decode cJ8_hugeLength_7cf53 1 = .ok (.iload_n 1, 1) := by decide +kernel
theorem dJ8_hugeLength_7cf53_2 : decode cJ8_hugeLength_7cf53 2 = .ok (.iadd, 1) := by decide +kernel
theorem dJ8_hugeLength_7cf53_3 : decode cJ8_hugeLength_7cf53 3 = .ok (.istore_n 2, 1) := by decide +kernel
theorem dJ8_hugeLength_7cf53_4 : decode cJ8_hugeLength_7cf53 4 = .ok (.iload_n 2, 1) := by decide +kernel
theorem dJ8_hugeLength_7cf53_5 : decode cJ8_hugeLength_7cf53 5 = .ok (.ifCond .ge 44, 3) := by decide +kernel
theorem dJ8_hugeLength_7cf53_8 : decode cJ8_hugeLength_7cf53 8 = .ok (.new 204, 3) := by decide +kernel
theorem dJ8_hugeLength_7cf53_11 : decode cJ8_hugeLength_7cf53 11 = .ok (.dup, 1) := by decide +kernel
theorem dJ8_hugeLength_7cf53_12 : decode cJ8_hugeLength_7cf53 12 = .ok (.new 89, 3) := by decide +kernel
theorem dJ8_hugeLength_7cf53_15 : decode cJ8_hugeLength_7cf53 15 = .ok (.dup, 1) := by decide +kernel
theorem dJ8_hugeLength_7cf53_16 : decode cJ8_hugeLength_7cf53 16 = .ok (.invokespecial 91, 3) := by decide +kernel
theorem dJ8_hugeLength_7cf53_19 : decode cJ8_hugeLength_7cf53 19 = .ok (.ldc 206, 2) := by decide +kernel
theorem dJ8_hugeLength_7cf53_21 : decode cJ8_hugeLength_7cf53 21 = .ok (.invokevirtual 94, 3) := by decide +kernel
theorem dJ8_hugeLength_7cf53_24 : decode cJ8_hugeLength_7cf53 24 = .ok (.iload_n 0, 1) := by decide +kernel
theorem dJ8_hugeLength_7cf53_25 : decode cJ8_hugeLength_7cf53 25 = .ok (.invokevirtual 98, 3) := by decide +kernel
theorem dJ8_hugeLength_7cf53_28 : decode cJ8_hugeLength_7cf53 28 = .ok (.ldc 208, 2) := by decide +kernel
theorem dJ8_hugeLength_7cf53_30 : decode cJ8_hugeLength_7cf53 30 = .ok (.invokevirtual 94, 3) := by decide +kernel
theorem dJ8_hugeLength_7cf53_33 : decode cJ8_hugeLength_7cf53 33 = .ok (.iload_n 1, 1) := by decide +kernel
theorem dJ8_hugeLength_7cf53_34 : decode cJ8_hugeLength_7cf53 34 = .ok (.invokevirtual 98, 3) := by decide +kernel
theorem dJ8_hugeLength_7cf53_37 : decode cJ8_hugeLength_7cf53 37 = .ok (.ldc 210, 2) := by decide +kernel
theorem dJ8_hugeLength_7cf53_39 : decode cJ8_hugeLength_7cf53 39 = .ok (.invokevirtual 94, 3) := by decide +kernel
theorem dJ8_hugeLength_7cf53_42 : decode cJ8_hugeLength_7cf53 42 = .ok (.invokevirtual 101, 3) := by decide +kernel
theorem dJ8_hugeLength_7cf53_45 : decode cJ8_hugeLength_7cf53 45 = .ok (.invokespecial 212, 3) := by decide +kernel
theorem dJ8_hugeLength_7cf53_48 : decode cJ8_hugeLength_7cf53 48 = .ok (.athrow, 1) := by decide +kernel
theorem dJ8_hugeLength_7cf53_49 : decode cJ8_hugeLength_7cf53 49 = .ok (.iload_n 2, 1) := by decide +kernel
theorem dJ8_hugeLength_7cf53_50 : decode cJ8_hugeLength_7cf53 50 = .ok (.ldc 200, 2) := by decide +kernel
theorem dJ8_hugeLength_7cf53_52 : decode cJ8_hugeLength_7cf53 52 = .ok (.if_icmp .gt 6, 3) := by decide +kernel
theorem dJ8_hugeLength_7cf53_55 : decode cJ8_hugeLength_7cf53 55 = .ok (.ldc 200, 2) := by decide +kernel
theorem dJ8_hugeLength_7cf53_57 : decode cJ8_hugeLength_7cf53 57 = .ok (.ireturn, 1) := by decide +kernel
theorem dJ8_hugeLength_7cf53_58 : decode cJ8_hugeLength_7cf53 58 = .ok (.iload_n 2, 1) := by decide +kernel
theorem dJ8_hugeLength_7cf53_59 : decode cJ8_hugeLength_7cf53 59 = .ok (.ireturn, 1) := by decide +kernel
theorem dJ3_checkIndex_8e157_0 : decode cJ3_checkIndex_8e157 0 = .ok (.iload_n 0, 1) := by decide +kernel
theorem dJ3_checkIndex_8e157_1 : decode cJ3_checkIndex_8e157 1 = .ok (.ifCond .lt 8, 3) := by decide +kernel
theorem dJ3_checkIndex_8e157_4 : decode cJ3_checkIndex_8e157 4 = .ok (.iload_n 0, 1) := by decide +kernel
theorem dJ3_checkIndex_8e157_5 : decode cJ3_checkIndex_8e157 5 = .ok (.iload_n 1, 1) := by decide +kernel
theorem dJ3_checkIndex_8e157_6 : decode cJ3_checkIndex_8e157 6 = .ok (.if_icmp .lt 10, 3) := by decide +kernel
theorem dJ3_checkIndex_8e157_9 : decode cJ3_checkIndex_8e157 9 = .ok (.aload_n 2, 1) := by decide +kernel
theorem dJ3_checkIndex_8e157_10 : decode cJ3_checkIndex_8e157 10 = .ok (.iload_n 0, 1) := by decide +kernel
theorem dJ3_checkIndex_8e157_11 : decode cJ3_checkIndex_8e157 11 = .ok (.iload_n 1, 1) := by decide +kernel
theorem dJ3_checkIndex_8e157_12 : decode cJ3_checkIndex_8e157 12 = .ok (.invokestatic 95, 3) := by decide +kernel
theorem dJ3_checkIndex_8e157_15 : decode cJ3_checkIndex_8e157 15 = .ok (.athrow, 1) := by decide +kernel
theorem dJ3_checkIndex_8e157_16 : decode cJ3_checkIndex_8e157 16 = .ok (.iload_n 0, 1) := by decide +kernel
theorem dJ3_checkIndex_8e157_17 : decode cJ3_checkIndex_8e157 17 = .ok (.ireturn, 1) := by decide +kernel
end
section
theorem dX5_init_0 : decode cX5_init 0 = .ok (.aload_n 0, 1) := by decide +kernel
theorem dX5_init_1 : decode cX5_init 1 = .ok (.invokespecial 1, 3) := by decide +kernel
theorem dX5_init_4 : decode cX5_init 4 = .ok (.aload_n 0, 1) := by decide +kernel
theorem dX5_init_5 : decode cX5_init 5 = .ok (.iconst 3, 1) := by decide +kernel
theorem dX5_init_6 : decode cX5_init 6 = .ok (.newarray .int, 2) := by decide +kernel
theorem dX5_init_8 : decode cX5_init 8 = .ok (.putfield 7, 3) := by decide +kernel
theorem dX5_init_11 : decode cX5_init 11 = .ok (.aload_n 0, 1) := by decide +kernel
theorem dX5_init_12 : decode cX5_init 12 = .ok (.iconst 3, 1) := by decide +kernel
theorem dX5_init_13 : decode cX5_init 13 = .ok (.newarray .int, 2) := by decide +kernel
theorem dX5_init_15 : decode cX5_init 15 = .ok (.putfield 13, 3) := by decide +kernel
theorem dX5_init_18 : decode cX5_init 18 = .ok (.aload_n 0, 1) := by decide +kernel
theorem dX5_init_19 : decode cX5_init 19 = .ok (.iconst 3, 1) := by decide +kernel
theorem dX5_init_20 : decode cX5_init 20 = .ok (.newarray .int, 2) := by decide +kernel
theorem dX5_init_22 : decode cX5_init 22 = .ok (.putfield 16, 3) := by decide +kernel
theorem dX5_init_25 : decode cX5_init 25 = .ok (.aload_n 0, 1) := by decide +kernel
theorem dX5_init_26 : decode cX5_init 26 = .ok (.iconst 3, 1) := by decide +kernel
theorem dX5_init_27 : decode cX5_init 27 = .ok (.newarray .int, 2) := by decide +kernel
theorem dX5_init_29 : decode cX5_init 29 = .ok (.putfield 19, 3) := by decide +kernel
theorem dX5_init_32 : decode cX5_init 32 = .ok (.aload_n 0, 1) := by decide +kernel
theorem dX5_init_33 : decode cX5_init 33 = .ok (.iconst 3, 1) := by decide +kernel
theorem dX5_init_34 : decode cX5_init 34 = .ok (.newarray .int, 2) := by decide +kernel
theorem dX5_init_36 : decode cX5_init 36 = .ok (.putfield 22, 3) := by decide +kernel
theorem dX5_init_39 : decode cX5_init 39 = .ok (.aload_n 0, 1) := by decide +kernel
theorem dX5_init_40 : decode cX5_init 40 = .ok (.iconst 3, 1) := by decide +kernel
theorem dX5_init_41 : decode cX5_init 41 = .ok (.newarray .int, 2) := by decide +kernel
theorem dX5_init_43 : decode cX5_init 43 = .ok (.putfield 25, 3) := by decide +kernel
theorem dX5_init_46 : decode cX5_init 46 = .ok (.aload_n 0, 1) := by decide +kernel
theorem dX5_init_47 : decode cX5_init 47 = .ok (.iconst 3, 1) := by decide +kernel
theorem dX5_init_48 : decode cX5_init 48 = .ok (.newarray .boolean, 2) := by decide +kernel
theorem dX5_init_50 : decode cX5_init 50 = .ok (.putfield 28, 3) := by decide +kernel
theorem dX5_init_53 : decode cX5_init 53 = .ok (.aload_n 0, 1) := by decide +kernel
theorem dX5_init_54 : decode cX5_init 54 = .ok (.iconst 3, 1) := by decide +kernel
theorem dX5_init_55 : decode cX5_init 55 = .ok (.newarray .boolean, 2) := by decide +kernel
theorem dX5_init_57 : decode cX5_init 57 = .ok (.putfield 32, 3) := by decide +kernel
theorem dX5_init_60 : decode cX5_init 60 = .ok (.aload_n 0, 1) := by decide +kernel
theorem dX5_init_61 : decode cX5_init 61 = .ok (.iconst 3, 1) := by decide +kernel
theorem dX5_init_62 : decode cX5_init 62 = .ok (.newarray .boolean, 2) := by decide +kernel
theorem dX5_init_64 : decode cX5_init 64 = .ok (.putfield 35, 3) := by decide +kernel
theorem dX5_init_67 : decode cX5_init 67 = .ok (.aload_n 0, 1) := by decide +kernel
theorem dX5_init_68 : decode cX5_init 68 = .ok (.iconst 5, 1) := by decide +kernel
theorem dX5_init_69 : decode cX5_init 69 = .ok (.newarray .int, 2) := by decide +kernel
theorem dX5_init_71 : decode cX5_init 71 = .ok (.putfield 38, 3) := by decide +kernel
theorem dX5_init_74 : decode cX5_init 74 = .ok (.aload_n 0, 1) := by decide +kernel
theorem dX5_init_75 : decode cX5_init 75 = .ok (.iconst 5, 1) := by decide +kernel
theorem dX5_init_76 : decode cX5_init 76 = .ok (.newarray .int, 2) := by decide +kernel
theorem dX5_init_78 : decode cX5_init 78 = .ok (.putfield 41, 3) := by decide +kernel
theorem dX5_init_81 : decode cX5_init 81 = .ok (.aload_n 0, 1) := by decide +kernel
theorem dX5_init_82 : decode cX5_init 82 = .ok (.iconst 5, 1) := by decide +kernel
theorem dX5_init_83 : decode cX5_init 83 = .ok (.newarray .int, 2) := by decide +kernel
theorem dX5_init_85 : decode cX5_init 85 = .ok (.putfield 44, 3) := by decide +kernel
theorem dX5_init_88 : decode cX5_init 88 = .ok (.aload_n 0, 1) := by decide +kernel
theorem dX5_init_89 : decode cX5_init 89 = .ok (.iconst 5, 1) := by decide +kernel
theorem dX5_init_90 : decode cX5_init 90 = .ok (.newarray .boolean, 2) := by decide +kernel
theorem dX5_init_92 : decode cX5_init 92 = .ok (.putfield 47, 3) := by decide +kernel
theorem dX5_init_95 : decode cX5_init 95 = .ok (.aload_n 0, 1) := by decide +kernel
theorem dX5_init_96 : decode cX5_init 96 = .ok (.iconst 5, 1) := by decide +kernel
theorem dX5_init_97 : decode cX5_init 97 = .ok (.newarray .int, 2) := by decide +kernel
theorem dX5_init_99 : decode cX5_init 99 = .ok (.putfield 50, 3) := by decide +kernel
theorem dX5_init_102 : decode cX5_init 102 = .ok (.aload_n 0, 1) := by decide +kernel
theorem dX5_init_103 : decode cX5_init 103 = .ok (.sipush 4096, 3) := by decide +kernel
theorem dX5_init_106 : decode cX5_init 106 = .ok (.newarray .int, 2) := by decide +kernel
theorem dX5_init_108 : decode cX5_init 108 = .ok (.putfield 53, 3) := by decide +kernel
theorem dX5_init_111 : decode cX5_init 111 = .ok (.aload_n 0, 1) := by decide +kernel
theorem dX5_init_112 : decode cX5_init 112 = .ok (.sipush 4096, 3) := by decide +kernel
theorem dX5_init_115 : decode cX5_init 115 = .ok (.newarray .int, 2) := by decide +kernel
theorem dX5_init_117 : decode cX5_init 117 = .ok (.putfield 56, 3) := by decide +kernel
theorem dX5_init_120 : decode cX5_init 120 = .ok (.aload_n 0, 1) := by decide +kernel
theorem dX5_init_121 : decode cX5_init 121 = .ok (.sipush 4096, 3) := by decide +kernel
theorem dX5_init_124 : decode cX5_init 124 = .ok (.newarray .int, 2) := by decide +kernel
theorem dX5_init_126 : decode cX5_init 126 = .ok (.putfield 59, 3) := by decide +kernel
theorem dX5_init_129 : decode cX5_init 129 = .ok (.aload_n 0, 1) := by decide +kernel
theorem dX5_init_130 : decode cX5_init 130 = .ok (.sipush 4096, 3) := by decide +kernel
theorem dX5_init_133 : decode cX5_init 133 = .ok (.newarray .boolean, 2) := by decide +kernel
theorem dX5_init_135 : decode cX5_init 135 = .ok (.putfield 62, 3) := by decide +kernel
theorem dX5_init_138 : decode cX5_init 138 = .ok (.aload_n 0, 1) := by decide +kernel
theorem dX5_init_139 : decode cX5_init 139 = .ok (.iconst 4, 1) := by decide +kernel
theorem dX5_init_140 : decode cX5_init 140 = .ok (.newarray .int, 2) := by decide +kernel
theorem dX5_init_142 : decode cX5_init 142 = .ok (.putfield 65, 3) := by decide +kernel
theorem dX5_init_145 : decode cX5_init 145 = .ok (.aload_n 0, 1) := by decide +kernel
theorem dX5_init_146 : decode cX5_init 146 = .ok (.iconst 4, 1) := by decide +kernel
theorem dX5_init_147 : decode cX5_init 147 = .ok (.newarray .int, 2) := by decide +kernel
theorem dX5_init_149 : decode cX5_init 149 = .ok (.putfield 68, 3) := by decide +kernel
theorem dX5_init_152 : decode cX5_init 152 = .ok (.iconst 0, 1) := by decide +kernel
theorem dX5_init_153 : decode cX5_init 153 = .ok (.istore_n 1, 1) := by decide +kernel
theorem dX5_init_154 : decode cX5_init 154 = .ok (.iload_n 1, 1) := by decide +kernel
theorem dX5_init_155 : decode cX5_init 155 = .ok (.iconst 3, 1) := by decide +kernel
theorem dX5_init_156 : decode cX5_init 156 = .ok (.if_icmp .ge 30, 3) := by decide +kernel
theorem dX5_init_159 : decode cX5_init 159 = .ok (.aload_n 0, 1) := by decide +kernel
theorem dX5_init_160 : decode cX5_init 160 = .ok (.getfield 13, 3) := by decide +kernel
theorem dX5_init_163 : decode cX5_init 163 = .ok (.iload_n 1, 1) := by decide +kernel
theorem dX5_init_164 : decode cX5_init 164 = .ok (.iconst (-1), 1) := by decide +kernel
theorem dX5_init_165 : decode cX5_init 165 = .ok (.iastore, 1) := by decide +kernel
theorem dX5_init_166 : decode cX5_init 166 = .ok (.aload_n 0, 1) := by decide +kernel
theorem dX5_init_167 : decode cX5_init 167 = .ok (.getfield 16, 3) := by decide +kernel
theorem dX5_init_170 : decode cX5_init 170 = .ok (.iload_n 1, 1) := by decide +kernel
theorem dX5_init_171 : decode cX5_init 171 = .ok (.iconst (-1), 1) := by decide +kernel
theorem dX5_init_172 : decode cX5_init 172 = .ok (.iastore, 1) := by decide +kernel
theorem dX5_init_173 : decode cX5_init 173 = .ok (.aload_n 0, 1) := by decide +kernel
theorem dX5_init_174 : decode cX5_init 174 = .ok (.getfield 22, 3) := by decide +kernel
theorem dX5_init_177 : decode cX5_init 177 = .ok (.iload_n 1, 1) := by decide +kernel
theorem dX5_init_178 : decode cX5_init 178 = .ok (.iconst 3, 1) := by decide +kernel
theorem dX5_init_179 : decode cX5_init 179 = .ok (.iastore, 1) := by decide +kernel
theorem dX5_init_180 : decode cX5_init 180 = .ok (.iinc 1 1, 3) := by decide +kernel
theorem dX5_init_183 : decode cX5_init 183 = .ok (.goto (-29), 3) := by decide +kernel
theorem dX5_init_186 : decode cX5_init 186 = .ok (.iconst 0, 1) := by decide +kernel
theorem dX5_init_187 : decode cX5_init 187 = .ok (.istore_n 1, 1) := by decide +kernel
theorem dX5_init_188 : decode cX5_init 188 = .ok (.iload_n 1, 1) := by decide +kernel
theorem dX5_init_189 : decode cX5_init 189 = .ok (.iconst 4, 1) := by decide +kernel
theorem dX5_init_190 : decode cX5_init 190 = .ok (.if_icmp .ge 23, 3) := by decide +kernel
theorem dX5_init_193 : decode cX5_init 193 = .ok (.aload_n 0, 1) := by decide +kernel
theorem dX5_init_194 : decode cX5_init 194 = .ok (.getfield 65, 3) := by decide +kernel
theorem dX5_init_197 : decode cX5_init 197 = .ok (.iload_n 1, 1) := by decide +kernel
theorem dX5_init_198 : decode cX5_init 198 = .ok (.iconst (-1), 1) := by decide +kernel
theorem dX5_init_199 : decode cX5_init 199 = .ok (.iastore, 1) := by decide +kernel
theorem dX5_init_200 : decode cX5_init 200 = .ok (.aload_n 0, 1) := by decide +kernel
theorem dX5_init_201 : decode cX5_init 201 = .ok (.getfield 68, 3) := by decide +kernel
theorem dX5_init_204 : decode cX5_init 204 = .ok (.iload_n 1, 1) := by decide +kernel
theorem dX5_init_205 : decode cX5_init 205 = .ok (.iconst (-1), 1) := by decide +kernel
theorem dX5_init_206 : decode cX5_init 206 = .ok (.iastore, 1) := by decide +kernel
theorem dX5_init_207 : decode cX5_init 207 = .ok (.iinc 1 1, 3) := by decide +kernel
theorem dX5_init_210 : decode cX5_init 210 = .ok (.goto (-22), 3) := by decide +kernel
theorem dX5_init_213 : decode cX5_init 213 = .ok (.return_, 1) := by decide +kernel
theorem dX5_thrown_0 : decode cX5_thrown 0 = .ok (.aload_n 0, 1) := by decide +kernel
theorem dX5_thrown_1 : decode cX5_thrown 1 = .ok (.getfield 71, 3) := by decide +kernel
theorem dX5_thrown_4 : decode cX5_thrown 4 = .ok (.ireturn, 1) := by decide +kernel
theorem dX5_in_0 : decode cX5_in 0 = .ok (.iload_n 0, 1) := by decide +kernel
theorem dX5_in_1 : decode cX5_in 1 = .ok (.iload_n 1, 1) := by decide +kernel
theorem dX5_in_2 : decode cX5_in 2 = .ok (.if_icmp .lt 12, 3) := by decide +kernel
theorem dX5_in_5 : decode cX5_in 5 = .ok (.iload_n 0, 1) := by decide +kernel
theorem dX5_in_6 : decode cX5_in 6 = .ok (.iload_n 2, 1) := by decide +kernel
theorem dX5_in_7 : decode cX5_in 7 = .ok (.if_icmp .gt 7, 3) := by decide +kernel
theorem dX5_in_10 : decode cX5_in 10 = .ok (.iconst 1, 1) := by decide +kernel
theorem dX5_in_11 : decode cX5_in 11 = .ok (.goto 4, 3) := by decide +kernel
theorem dX5_in_14 : decode cX5_in 14 = .ok (.iconst 0, 1) := by decide +kernel
theorem dX5_in_15 : decode cX5_in 15 = .ok (.ireturn, 1) := by decide +kernel
theorem dX5_goes_0 : decode cX5_goes 0 = .ok (.aload_n 0, 1) := by decide +kernel
theorem dX5_goes_1 : decode cX5_goes 1 = .ok (.iload_n 1, 1) := by decide +kernel
theorem dX5_goes_2 : decode cX5_goes 2 = .ok (.ifCond .ne 7, 3) := by decide +kernel
theorem dX5_goes_5 : decode cX5_goes 5 = .ok (.iconst 1, 1) := by decide +kernel
theorem dX5_goes_6 : decode cX5_goes 6 = .ok (.goto 20, 3) := by decide +kernel
theorem dX5_goes_9 : decode cX5_goes 9 = .ok (.iload_n 2, 1) := by decide +kernel
theorem dX5_goes_10 : decode cX5_goes 10 = .ok (.ifCond .ne 7, 3) := by decide +kernel
theorem dX5_goes_13 : decode cX5_goes 13 = .ok (.iconst 2, 1) := by decide +kernel
theorem dX5_goes_14 : decode cX5_goes 14 = .ok (.goto 12, 3) := by decide +kernel
theorem dX5_goes_17 : decode cX5_goes 17 = .ok (.iload_n 3, 1) := by decide +kernel
theorem dX5_goes_18 : decode cX5_goes 18 = .ok (.ifCond .ne 7, 3) := by decide +kernel
theorem dX5_goes_21 : decode cX5_goes 21 = .ok (.iconst 3, 1) := by decide +kernel
theorem dX5_goes_22 : decode cX5_goes 22 = .ok (.goto 4, 3) := by decide +kernel
theorem dX5_goes_25 : decode cX5_goes 25 = .ok (.iconst 0, 1) := by decide +kernel
theorem dX5_goes_26 : decode cX5_goes 26 = .ok (.putfield 71, 3) := by decide +kernel
theorem dX5_goes_29 : decode cX5_goes 29 = .ok (.aload_n 0, 1) := by decide +kernel
theorem dX5_goes_30 : decode cX5_goes 30 = .ok (.getfield 71, 3) := by decide +kernel
theorem dX5_goes_33 : decode cX5_goes 33 = .ok (.ifCond .ne 7, 3) := by decide +kernel
theorem dX5_goes_36 : decode cX5_goes 36 = .ok (.iconst 1, 1) := by decide +kernel
theorem dX5_goes_37 : decode cX5_goes 37 = .ok (.goto 4, 3) := by decide +kernel
theorem dX5_goes_40 : decode cX5_goes 40 = .ok (.iconst 0, 1) := by decide +kernel
theorem dX5_goes_41 : decode cX5_goes 41 = .ok (.ireturn, 1) := by decide +kernel
theorem dX5_isFile_0 : decode cX5_isFile 0 = .ok (.iload_n 0, 1) := by decide +kernel
theorem dX5_isFile_1 : decode cX5_isFile 1 = .ok (.iconst 0, 1) := by decide +kernel
theorem dX5_isFile_2 : decode cX5_isFile 2 = .ok (.iconst 4, 1) := by decide +kernel
theorem dX5_isFile_3 : decode cX5_isFile 3 = .ok (.invokestatic 75, 3) := by decide +kernel
theorem dX5_isFile_6 : decode cX5_isFile 6 = .ok (.ireturn, 1) := by decide +kernel
theorem dX5_isRule_0 : decode cX5_isRule 0 = .ok (.iload_n 0, 1) := by decide +kernel
theorem dX5_isRule_1 : decode cX5_isRule 1 = .ok (.iconst 0, 1) := by decide +kernel
theorem dX5_isRule_2 : decode cX5_isRule 2 = .ok (.iconst 2, 1) := by decide +kernel
theorem dX5_isRule_3 : decode cX5_isRule 3 = .ok (.invokestatic 75, 3) := by decide +kernel
theorem dX5_isRule_6 : decode cX5_isRule 6 = .ok (.ireturn, 1) := by decide +kernel
theorem dX5_isHolder_0 : decode cX5_isHolder 0 = .ok (.iload_n 0, 1) := by decide +kernel
theorem dX5_isHolder_1 : decode cX5_isHolder 1 = .ok (.iconst 0, 1) := by decide +kernel
theorem dX5_isHolder_2 : decode cX5_isHolder 2 = .ok (.iconst 3, 1) := by decide +kernel
theorem dX5_isHolder_3 : decode cX5_isHolder 3 = .ok (.invokestatic 75, 3) := by decide +kernel
theorem dX5_isHolder_6 : decode cX5_isHolder 6 = .ok (.ireturn, 1) := by decide +kernel
theorem dX5_setDue_0 : decode cX5_setDue 0 = .ok (.iload_n 2, 1) := by decide +kernel
theorem dX5_setDue_1 : decode cX5_setDue 1 = .ok (.iconst 0, 1) := by decide +kernel
theorem dX5_setDue_2 : decode cX5_setDue 2 = .ok (.sipush 10000, 3) := by decide +kernel
theorem dX5_setDue_5 : decode cX5_setDue 5 = .ok (.invokestatic 75, 3) := by decide +kernel
theorem dX5_setDue_8 : decode cX5_setDue 8 = .ok (.ifCond .eq 39, 3) := by decide +kernel
theorem dX5_setDue_11 : decode cX5_setDue 11 = .ok (.iload_n 3, 1) := by decide +kernel
theorem dX5_setDue_12 : decode cX5_setDue 12 = .ok (.iconst (-1), 1) := by decide +kernel
theorem dX5_setDue_13 : decode cX5_setDue 13 = .ok (.bipush 6, 2) := by decide +kernel
theorem dX5_setDue_15 : decode cX5_setDue 15 = .ok (.invokestatic 75, 3) := by decide +kernel
theorem dX5_setDue_18 : decode cX5_setDue 18 = .ok (.ifCond .eq 29, 3) := by decide +kernel
theorem dX5_setDue_21 : decode cX5_setDue 21 = .ok (.iload 4, 2) := by decide +kernel
theorem dX5_setDue_23 : decode cX5_setDue 23 = .ok (.iconst (-1), 1) := by decide +kernel
theorem dX5_setDue_24 : decode cX5_setDue 24 = .ok (.bipush 29, 2) := by decide +kernel
theorem dX5_setDue_26 : decode cX5_setDue 26 = .ok (.invokestatic 75, 3) := by decide +kernel
theorem dX5_setDue_29 : decode cX5_setDue 29 = .ok (.ifCond .eq 18, 3) := by decide +kernel
theorem dX5_setDue_32 : decode cX5_setDue 32 = .ok (.iload 5, 2) := by decide +kernel
theorem dX5_setDue_34 : decode cX5_setDue 34 = .ok (.iconst 0, 1) := by decide +kernel
theorem dX5_setDue_35 : decode cX5_setDue 35 = .ok (.bipush 100, 2) := by decide +kernel
theorem dX5_setDue_37 : decode cX5_setDue 37 = .ok (.invokestatic 75, 3) := by decide +kernel
theorem dX5_setDue_40 : decode cX5_setDue 40 = .ok (.ifCond .eq 7, 3) := by decide +kernel
theorem dX5_setDue_43 : decode cX5_setDue 43 = .ok (.iconst 1, 1) := by decide +kernel
theorem dX5_setDue_44 : decode cX5_setDue 44 = .ok (.goto 4, 3) := by decide +kernel
theorem dX5_setDue_47 : decode cX5_setDue 47 = .ok (.iconst 0, 1) := by decide +kernel
theorem dX5_setDue_48 : decode cX5_setDue 48 = .ok (.istore 6, 2) := by decide +kernel
theorem dX5_setDue_50 : decode cX5_setDue 50 = .ok (.aload_n 0, 1) := by decide +kernel
theorem dX5_setDue_51 : decode cX5_setDue 51 = .ok (.iload_n 1, 1) := by decide +kernel
theorem dX5_setDue_52 : decode cX5_setDue 52 = .ok (.invokestatic 79, 3) := by decide +kernel
theorem dX5_setDue_55 : decode cX5_setDue 55 = .ok (.iload 6, 2) := by decide +kernel
theorem dX5_setDue_57 : decode cX5_setDue 57 = .ok (.iconst 1, 1) := by decide +kernel
theorem dX5_setDue_58 : decode cX5_setDue 58 = .ok (.invokevirtual 83, 3) := by decide +kernel
theorem dX5_setDue_61 : decode cX5_setDue 61 = .ok (.ifCond .eq 33, 3) := by decide +kernel
theorem dX5_setDue_64 : decode cX5_setDue 64 = .ok (.aload_n 0, 1) := by decide +kernel
theorem dX5_setDue_65 : decode cX5_setDue 65 = .ok (.getfield 7, 3) := by decide +kernel
theorem dX5_setDue_68 : decode cX5_setDue 68 = .ok (.iload_n 1, 1) := by decide +kernel
theorem dX5_setDue_69 : decode cX5_setDue 69 = .ok (.iload_n 2, 1) := by decide +kernel
theorem dX5_setDue_70 : decode cX5_setDue 70 = .ok (.iastore, 1) := by decide +kernel
theorem dX5_setDue_71 : decode cX5_setDue 71 = .ok (.aload_n 0, 1) := by decide +kernel
theorem dX5_setDue_72 : decode cX5_setDue 72 = .ok (.getfield 13, 3) := by decide +kernel
theorem dX5_setDue_75 : decode cX5_setDue 75 = .ok (.iload_n 1, 1) := by decide +kernel
theorem dX5_setDue_76 : decode cX5_setDue 76 = .ok (.iload_n 3, 1) := by decide +kernel
theorem dX5_setDue_77 : decode cX5_setDue 77 = .ok (.iastore, 1) := by decide +kernel
theorem dX5_setDue_78 : decode cX5_setDue 78 = .ok (.aload_n 0, 1) := by decide +kernel
theorem dX5_setDue_79 : decode cX5_setDue 79 = .ok (.getfield 16, 3) := by decide +kernel
theorem dX5_setDue_82 : decode cX5_setDue 82 = .ok (.iload_n 1, 1) := by decide +kernel
theorem dX5_setDue_83 : decode cX5_setDue 83 = .ok (.iload 4, 2) := by decide +kernel
theorem dX5_setDue_85 : decode cX5_setDue 85 = .ok (.iastore, 1) := by decide +kernel
theorem dX5_setDue_86 : decode cX5_setDue 86 = .ok (.aload_n 0, 1) := by decide +kernel
theorem dX5_setDue_87 : decode cX5_setDue 87 = .ok (.getfield 19, 3) := by decide +kernel
theorem dX5_setDue_90 : decode cX5_setDue 90 = .ok (.iload_n 1, 1) := by decide +kernel
theorem dX5_setDue_91 : decode cX5_setDue 91 = .ok (.iload 5, 2) := by decide +kernel
theorem dX5_setDue_93 : decode cX5_setDue 93 = .ok (.iastore, 1) := by decide +kernel
theorem dX5_setDue_94 : decode cX5_setDue 94 = .ok (.return_, 1) := by decide +kernel
theorem dX5_setOld_0 : decode cX5_setOld 0 = .ok (.aload_n 0, 1) := by decide +kernel
theorem dX5_setOld_1 : decode cX5_setOld 1 = .ok (.iload_n 1, 1) := by decide +kernel
theorem dX5_setOld_2 : decode cX5_setOld 2 = .ok (.invokestatic 79, 3) := by decide +kernel
theorem dX5_setOld_5 : decode cX5_setOld 5 = .ok (.iload_n 2, 1) := by decide +kernel
theorem dX5_setOld_6 : decode cX5_setOld 6 = .ok (.iconst 0, 1) := by decide +kernel
theorem dX5_setOld_7 : decode cX5_setOld 7 = .ok (.bipush 10, 2) := by decide +kernel
theorem dX5_setOld_9 : decode cX5_setOld 9 = .ok (.invokestatic 75, 3) := by decide +kernel
theorem dX5_setOld_12 : decode cX5_setOld 12 = .ok (.ifCond .eq 18, 3) := by decide +kernel
theorem dX5_setOld_15 : decode cX5_setOld 15 = .ok (.iload_n 3, 1) := by decide +kernel
theorem dX5_setOld_16 : decode cX5_setOld 16 = .ok (.iconst 0, 1) := by decide +kernel
theorem dX5_setOld_17 : decode cX5_setOld 17 = .ok (.sipush 1000, 3) := by decide +kernel
theorem dX5_setOld_20 : decode cX5_setOld 20 = .ok (.invokestatic 75, 3) := by decide +kernel
theorem dX5_setOld_23 : decode cX5_setOld 23 = .ok (.ifCond .eq 7, 3) := by decide +kernel
theorem dX5_setOld_26 : decode cX5_setOld 26 = .ok (.iconst 1, 1) := by decide +kernel
theorem dX5_setOld_27 : decode cX5_setOld 27 = .ok (.goto 4, 3) := by decide +kernel
theorem dX5_setOld_30 : decode cX5_setOld 30 = .ok (.iconst 0, 1) := by decide +kernel
theorem dX5_setOld_31 : decode cX5_setOld 31 = .ok (.iconst 1, 1) := by decide +kernel
theorem dX5_setOld_32 : decode cX5_setOld 32 = .ok (.invokevirtual 83, 3) := by decide +kernel
theorem dX5_setOld_35 : decode cX5_setOld 35 = .ok (.ifCond .eq 41, 3) := by decide +kernel
theorem dX5_setOld_38 : decode cX5_setOld 38 = .ok (.aload_n 0, 1) := by decide +kernel
theorem dX5_setOld_39 : decode cX5_setOld 39 = .ok (.getfield 22, 3) := by decide +kernel
theorem dX5_setOld_42 : decode cX5_setOld 42 = .ok (.iload_n 1, 1) := by decide +kernel
theorem dX5_setOld_43 : decode cX5_setOld 43 = .ok (.iload_n 2, 1) := by decide +kernel
theorem dX5_setOld_44 : decode cX5_setOld 44 = .ok (.iastore, 1) := by decide +kernel
theorem dX5_setOld_45 : decode cX5_setOld 45 = .ok (.aload_n 0, 1) := by decide +kernel
theorem dX5_setOld_46 : decode cX5_setOld 46 = .ok (.getfield 25, 3) := by decide +kernel
theorem dX5_setOld_49 : decode cX5_setOld 49 = .ok (.iload_n 1, 1) := by decide +kernel
theorem dX5_setOld_50 : decode cX5_setOld 50 = .ok (.iload_n 3, 1) := by decide +kernel
theorem dX5_setOld_51 : decode cX5_setOld 51 = .ok (.iastore, 1) := by decide +kernel
theorem dX5_setOld_52 : decode cX5_setOld 52 = .ok (.aload_n 0, 1) := by decide +kernel
theorem dX5_setOld_53 : decode cX5_setOld 53 = .ok (.getfield 28, 3) := by decide +kernel
theorem dX5_setOld_56 : decode cX5_setOld 56 = .ok (.iload_n 1, 1) := by decide +kernel
theorem dX5_setOld_57 : decode cX5_setOld 57 = .ok (.iload 4, 2) := by decide +kernel
theorem dX5_setOld_59 : decode cX5_setOld 59 = .ok (.bastore, 1) := by decide +kernel
theorem dX5_setOld_60 : decode cX5_setOld 60 = .ok (.aload_n 0, 1) := by decide +kernel
theorem dX5_setOld_61 : decode cX5_setOld 61 = .ok (.getfield 32, 3) := by decide +kernel
theorem dX5_setOld_64 : decode cX5_setOld 64 = .ok (.iload_n 1, 1) := by decide +kernel
theorem dX5_setOld_65 : decode cX5_setOld 65 = .ok (.iload 5, 2) := by decide +kernel
theorem dX5_setOld_67 : decode cX5_setOld 67 = .ok (.bastore, 1) := by decide +kernel
theorem dX5_setOld_68 : decode cX5_setOld 68 = .ok (.aload_n 0, 1) := by decide +kernel
theorem dX5_setOld_69 : decode cX5_setOld 69 = .ok (.getfield 35, 3) := by decide +kernel
theorem dX5_setOld_72 : decode cX5_setOld 72 = .ok (.iload_n 1, 1) := by decide +kernel
theorem dX5_setOld_73 : decode cX5_setOld 73 = .ok (.iload 6, 2) := by decide +kernel
theorem dX5_setOld_75 : decode cX5_setOld 75 = .ok (.bastore, 1) := by decide +kernel
theorem dX5_setOld_76 : decode cX5_setOld 76 = .ok (.return_, 1) := by decide +kernel
theorem dX5_give_0 : decode cX5_give 0 = .ok (.aload_n 0, 1) := by decide +kernel
theorem dX5_give_1 : decode cX5_give 1 = .ok (.iload_n 1, 1) := by decide +kernel
theorem dX5_give_2 : decode cX5_give 2 = .ok (.invokestatic 87, 3) := by decide +kernel
theorem dX5_give_5 : decode cX5_give 5 = .ok (.ifCond .eq 14, 3) := by decide +kernel
theorem dX5_give_8 : decode cX5_give 8 = .ok (.iload_n 2, 1) := by decide +kernel
theorem dX5_give_9 : decode cX5_give 9 = .ok (.invokestatic 79, 3) := by decide +kernel
theorem dX5_give_12 : decode cX5_give 12 = .ok (.ifCond .eq 7, 3) := by decide +kernel
theorem dX5_give_15 : decode cX5_give 15 = .ok (.iconst 1, 1) := by decide +kernel
theorem dX5_give_16 : decode cX5_give 16 = .ok (.goto 4, 3) := by decide +kernel
theorem dX5_give_19 : decode cX5_give 19 = .ok (.iconst 0, 1) := by decide +kernel
theorem dX5_give_20 : decode cX5_give 20 = .ok (.iconst 1, 1) := by decide +kernel
theorem dX5_give_21 : decode cX5_give 21 = .ok (.iconst 1, 1) := by decide +kernel
theorem dX5_give_22 : decode cX5_give 22 = .ok (.invokevirtual 83, 3) := by decide +kernel
theorem dX5_give_25 : decode cX5_give 25 = .ok (.ifCond .ne 5, 3) := by decide +kernel
theorem dX5_give_28 : decode cX5_give 28 = .ok (.iconst 0, 1) := by decide +kernel
theorem dX5_give_29 : decode cX5_give 29 = .ok (.ireturn, 1) := by decide +kernel
theorem dX5_give_30 : decode cX5_give 30 = .ok (.aload_n 0, 1) := by decide +kernel
theorem dX5_give_31 : decode cX5_give 31 = .ok (.getfield 38, 3) := by decide +kernel
theorem dX5_give_34 : decode cX5_give 34 = .ok (.iload_n 1, 1) := by decide +kernel
theorem dX5_give_35 : decode cX5_give 35 = .ok (.iaload, 1) := by decide +kernel
theorem dX5_give_36 : decode cX5_give 36 = .ok (.istore_n 3, 1) := by decide +kernel
theorem dX5_give_37 : decode cX5_give 37 = .ok (.aload_n 0, 1) := by decide +kernel
theorem dX5_give_38 : decode cX5_give 38 = .ok (.getfield 38, 3) := by decide +kernel
theorem dX5_give_41 : decode cX5_give 41 = .ok (.iload_n 1, 1) := by decide +kernel
theorem dX5_give_42 : decode cX5_give 42 = .ok (.iload_n 2, 1) := by decide +kernel
theorem dX5_give_43 : decode cX5_give 43 = .ok (.iastore, 1) := by decide +kernel
theorem dX5_give_44 : decode cX5_give 44 = .ok (.iload_n 3, 1) := by decide +kernel
theorem dX5_give_45 : decode cX5_give 45 = .ok (.ireturn, 1) := by decide +kernel
theorem dX5_open_0 : decode cX5_open 0 = .ok (.aload_n 0, 1) := by decide +kernel
theorem dX5_open_1 : decode cX5_open 1 = .ok (.iload_n 1, 1) := by decide +kernel
theorem dX5_open_2 : decode cX5_open 2 = .ok (.invokestatic 90, 3) := by decide +kernel
theorem dX5_open_5 : decode cX5_open 5 = .ok (.ifCond .eq 14, 3) := by decide +kernel
theorem dX5_open_8 : decode cX5_open 8 = .ok (.iload_n 2, 1) := by decide +kernel
theorem dX5_open_9 : decode cX5_open 9 = .ok (.invokestatic 87, 3) := by decide +kernel
theorem dX5_open_12 : decode cX5_open 12 = .ok (.ifCond .eq 7, 3) := by decide +kernel
theorem dX5_open_15 : decode cX5_open 15 = .ok (.iconst 1, 1) := by decide +kernel
theorem dX5_open_16 : decode cX5_open 16 = .ok (.goto 4, 3) := by decide +kernel
theorem dX5_open_19 : decode cX5_open 19 = .ok (.iconst 0, 1) := by decide +kernel
theorem dX5_open_20 : decode cX5_open 20 = .ok (.iconst 1, 1) := by decide +kernel
theorem dX5_open_21 : decode cX5_open 21 = .ok (.iconst 1, 1) := by decide +kernel
theorem dX5_open_22 : decode cX5_open 22 = .ok (.invokevirtual 83, 3) := by decide +kernel
theorem dX5_open_25 : decode cX5_open 25 = .ok (.ifCond .eq 17, 3) := by decide +kernel
theorem dX5_open_28 : decode cX5_open 28 = .ok (.aload_n 0, 1) := by decide +kernel
theorem dX5_open_29 : decode cX5_open 29 = .ok (.getfield 65, 3) := by decide +kernel
theorem dX5_open_32 : decode cX5_open 32 = .ok (.iload_n 1, 1) := by decide +kernel
theorem dX5_open_33 : decode cX5_open 33 = .ok (.iload_n 2, 1) := by decide +kernel
theorem dX5_open_34 : decode cX5_open 34 = .ok (.iastore, 1) := by decide +kernel
theorem dX5_open_35 : decode cX5_open 35 = .ok (.aload_n 0, 1) := by decide +kernel
theorem dX5_open_36 : decode cX5_open 36 = .ok (.getfield 68, 3) := by decide +kernel
theorem dX5_open_39 : decode cX5_open 39 = .ok (.iload_n 1, 1) := by decide +kernel
theorem dX5_open_40 : decode cX5_open 40 = .ok (.iconst (-1), 1) := by decide +kernel
theorem dX5_open_41 : decode cX5_open 41 = .ok (.iastore, 1) := by decide +kernel
theorem dX5_open_42 : decode cX5_open 42 = .ok (.return_, 1) := by decide +kernel
theorem dX5_shut_0 : decode cX5_shut 0 = .ok (.aload_n 0, 1) := by decide +kernel
theorem dX5_shut_1 : decode cX5_shut 1 = .ok (.iload_n 1, 1) := by decide +kernel
theorem dX5_shut_2 : decode cX5_shut 2 = .ok (.invokestatic 90, 3) := by decide +kernel
theorem dX5_shut_5 : decode cX5_shut 5 = .ok (.iconst 1, 1) := by decide +kernel
theorem dX5_shut_6 : decode cX5_shut 6 = .ok (.iconst 1, 1) := by decide +kernel
theorem dX5_shut_7 : decode cX5_shut 7 = .ok (.invokevirtual 83, 3) := by decide +kernel
theorem dX5_shut_10 : decode cX5_shut 10 = .ok (.ifCond .ne 5, 3) := by decide +kernel
theorem dX5_shut_13 : decode cX5_shut 13 = .ok (.iconst 0, 1) := by decide +kernel
theorem dX5_shut_14 : decode cX5_shut 14 = .ok (.ireturn, 1) := by decide +kernel
theorem dX5_shut_15 : decode cX5_shut 15 = .ok (.aload_n 0, 1) := by decide +kernel
theorem dX5_shut_16 : decode cX5_shut 16 = .ok (.getfield 65, 3) := by decide +kernel
theorem dX5_shut_19 : decode cX5_shut 19 = .ok (.iload_n 1, 1) := by decide +kernel
theorem dX5_shut_20 : decode cX5_shut 20 = .ok (.iaload, 1) := by decide +kernel
theorem dX5_shut_21 : decode cX5_shut 21 = .ok (.iconst (-1), 1) := by decide +kernel
theorem dX5_shut_22 : decode cX5_shut 22 = .ok (.if_icmp .eq 7, 3) := by decide +kernel
theorem dX5_shut_25 : decode cX5_shut 25 = .ok (.iconst 1, 1) := by decide +kernel
theorem dX5_shut_26 : decode cX5_shut 26 = .ok (.goto 4, 3) := by decide +kernel
theorem dX5_shut_29 : decode cX5_shut 29 = .ok (.iconst 0, 1) := by decide +kernel
theorem dX5_shut_30 : decode cX5_shut 30 = .ok (.istore_n 2, 1) := by decide +kernel
theorem dX5_shut_31 : decode cX5_shut 31 = .ok (.aload_n 0, 1) := by decide +kernel
theorem dX5_shut_32 : decode cX5_shut 32 = .ok (.getfield 65, 3) := by decide +kernel
theorem dX5_shut_35 : decode cX5_shut 35 = .ok (.iload_n 1, 1) := by decide +kernel
theorem dX5_shut_36 : decode cX5_shut 36 = .ok (.iconst (-1), 1) := by decide +kernel
theorem dX5_shut_37 : decode cX5_shut 37 = .ok (.iastore, 1) := by decide +kernel
theorem dX5_shut_38 : decode cX5_shut 38 = .ok (.aload_n 0, 1) := by decide +kernel
theorem dX5_shut_39 : decode cX5_shut 39 = .ok (.getfield 68, 3) := by decide +kernel
theorem dX5_shut_42 : decode cX5_shut 42 = .ok (.iload_n 1, 1) := by decide +kernel
theorem dX5_shut_43 : decode cX5_shut 43 = .ok (.iconst (-1), 1) := by decide +kernel
theorem dX5_shut_44 : decode cX5_shut 44 = .ok (.iastore, 1) := by decide +kernel
theorem dX5_shut_45 : decode cX5_shut 45 = .ok (.iload_n 2, 1) := by decide +kernel
theorem dX5_shut_46 : decode cX5_shut 46 = .ok (.ireturn, 1) := by decide +kernel
theorem dX5_tell_0 : decode cX5_tell 0 = .ok (.iload_n 1, 1) := by decide +kernel
theorem dX5_tell_1 : decode cX5_tell 1 = .ok (.invokestatic 90, 3) := by decide +kernel
theorem dX5_tell_4 : decode cX5_tell 4 = .ok (.istore_n 2, 1) := by decide +kernel
theorem dX5_tell_5 : decode cX5_tell 5 = .ok (.aload_n 0, 1) := by decide +kernel
theorem dX5_tell_6 : decode cX5_tell 6 = .ok (.iload_n 2, 1) := by decide +kernel
theorem dX5_tell_7 : decode cX5_tell 7 = .ok (.iload_n 2, 1) := by decide +kernel
theorem dX5_tell_8 : decode cX5_tell 8 = .ok (.ifCond .eq 17, 3) := by decide +kernel
theorem dX5_tell_11 : decode cX5_tell 11 = .ok (.aload_n 0, 1) := by decide +kernel
theorem dX5_tell_12 : decode cX5_tell 12 = .ok (.getfield 65, 3) := by decide +kernel
theorem dX5_tell_15 : decode cX5_tell 15 = .ok (.iload_n 1, 1) := by decide +kernel
theorem dX5_tell_16 : decode cX5_tell 16 = .ok (.iaload, 1) := by decide +kernel
theorem dX5_tell_17 : decode cX5_tell 17 = .ok (.iconst (-1), 1) := by decide +kernel
theorem dX5_tell_18 : decode cX5_tell 18 = .ok (.if_icmp .eq 7, 3) := by decide +kernel
theorem dX5_tell_21 : decode cX5_tell 21 = .ok (.iconst 1, 1) := by decide +kernel
theorem dX5_tell_22 : decode cX5_tell 22 = .ok (.goto 4, 3) := by decide +kernel
theorem dX5_tell_25 : decode cX5_tell 25 = .ok (.iconst 0, 1) := by decide +kernel
theorem dX5_tell_26 : decode cX5_tell 26 = .ok (.iconst 1, 1) := by decide +kernel
theorem dX5_tell_27 : decode cX5_tell 27 = .ok (.invokevirtual 83, 3) := by decide +kernel
theorem dX5_tell_30 : decode cX5_tell 30 = .ok (.ifCond .ne 5, 3) := by decide +kernel
theorem dX5_tell_33 : decode cX5_tell 33 = .ok (.iconst 0, 1) := by decide +kernel
theorem dX5_tell_34 : decode cX5_tell 34 = .ok (.ireturn, 1) := by decide +kernel
theorem dX5_tell_35 : decode cX5_tell 35 = .ok (.aload_n 0, 1) := by decide +kernel
theorem dX5_tell_36 : decode cX5_tell 36 = .ok (.getfield 68, 3) := by decide +kernel
theorem dX5_tell_39 : decode cX5_tell 39 = .ok (.iload_n 1, 1) := by decide +kernel
theorem dX5_tell_40 : decode cX5_tell 40 = .ok (.iaload, 1) := by decide +kernel
theorem dX5_tell_41 : decode cX5_tell 41 = .ok (.iconst (-1), 1) := by decide +kernel
theorem dX5_tell_42 : decode cX5_tell 42 = .ok (.if_icmp .eq 7, 3) := by decide +kernel
theorem dX5_tell_45 : decode cX5_tell 45 = .ok (.iconst 1, 1) := by decide +kernel
theorem dX5_tell_46 : decode cX5_tell 46 = .ok (.goto 4, 3) := by decide +kernel
theorem dX5_tell_49 : decode cX5_tell 49 = .ok (.iconst 0, 1) := by decide +kernel
theorem dX5_tell_50 : decode cX5_tell 50 = .ok (.istore_n 3, 1) := by decide +kernel
theorem dX5_tell_51 : decode cX5_tell 51 = .ok (.aload_n 0, 1) := by decide +kernel
theorem dX5_tell_52 : decode cX5_tell 52 = .ok (.getfield 68, 3) := by decide +kernel
theorem dX5_tell_55 : decode cX5_tell 55 = .ok (.iload_n 1, 1) := by decide +kernel
theorem dX5_tell_56 : decode cX5_tell 56 = .ok (.iconst (-1), 1) := by decide +kernel
theorem dX5_tell_57 : decode cX5_tell 57 = .ok (.iastore, 1) := by decide +kernel
theorem dX5_tell_58 : decode cX5_tell 58 = .ok (.iload_n 3, 1) := by decide +kernel
theorem dX5_tell_59 : decode cX5_tell 59 = .ok (.ireturn, 1) := by decide +kernel
theorem dX5_write_0 : decode cX5_write 0 = .ok (.iload_n 1, 1) := by decide +kernel
theorem dX5_write_1 : decode cX5_write 1 = .ok (.invokestatic 90, 3) := by decide +kernel
theorem dX5_write_4 : decode cX5_write 4 = .ok (.istore_n 3, 1) := by decide +kernel
theorem dX5_write_5 : decode cX5_write 5 = .ok (.aload_n 0, 1) := by decide +kernel
theorem dX5_write_6 : decode cX5_write 6 = .ok (.iload_n 3, 1) := by decide +kernel
theorem dX5_write_7 : decode cX5_write 7 = .ok (.iload_n 2, 1) := by decide +kernel
theorem dX5_write_8 : decode cX5_write 8 = .ok (.iconst 1, 1) := by decide +kernel
theorem dX5_write_9 : decode cX5_write 9 = .ok (.sipush 1000, 3) := by decide +kernel
theorem dX5_write_12 : decode cX5_write 12 = .ok (.invokestatic 75, 3) := by decide +kernel
theorem dX5_write_15 : decode cX5_write 15 = .ok (.iload_n 3, 1) := by decide +kernel
theorem dX5_write_16 : decode cX5_write 16 = .ok (.ifCond .eq 17, 3) := by decide +kernel
theorem dX5_write_19 : decode cX5_write 19 = .ok (.aload_n 0, 1) := by decide +kernel
theorem dX5_write_20 : decode cX5_write 20 = .ok (.getfield 65, 3) := by decide +kernel
theorem dX5_write_23 : decode cX5_write 23 = .ok (.iload_n 1, 1) := by decide +kernel
theorem dX5_write_24 : decode cX5_write 24 = .ok (.iaload, 1) := by decide +kernel
theorem dX5_write_25 : decode cX5_write 25 = .ok (.iconst (-1), 1) := by decide +kernel
theorem dX5_write_26 : decode cX5_write 26 = .ok (.if_icmp .eq 7, 3) := by decide +kernel
theorem dX5_write_29 : decode cX5_write 29 = .ok (.iconst 1, 1) := by decide +kernel
theorem dX5_write_30 : decode cX5_write 30 = .ok (.goto 4, 3) := by decide +kernel
theorem dX5_write_33 : decode cX5_write 33 = .ok (.iconst 0, 1) := by decide +kernel
theorem dX5_write_34 : decode cX5_write 34 = .ok (.invokevirtual 83, 3) := by decide +kernel
theorem dX5_write_37 : decode cX5_write 37 = .ok (.ifCond .ne 5, 3) := by decide +kernel
theorem dX5_write_40 : decode cX5_write 40 = .ok (.iconst 0, 1) := by decide +kernel
theorem dX5_write_41 : decode cX5_write 41 = .ok (.ireturn, 1) := by decide +kernel
theorem dX5_write_42 : decode cX5_write 42 = .ok (.aload_n 0, 1) := by decide +kernel
theorem dX5_write_43 : decode cX5_write 43 = .ok (.getfield 68, 3) := by decide +kernel
theorem dX5_write_46 : decode cX5_write 46 = .ok (.iload_n 1, 1) := by decide +kernel
theorem dX5_write_47 : decode cX5_write 47 = .ok (.iaload, 1) := by decide +kernel
theorem dX5_write_48 : decode cX5_write 48 = .ok (.istore 4, 2) := by decide +kernel
theorem dX5_write_50 : decode cX5_write 50 = .ok (.iload 4, 2) := by decide +kernel
theorem dX5_write_52 : decode cX5_write 52 = .ok (.iconst (-1), 1) := by decide +kernel
theorem dX5_write_53 : decode cX5_write 53 = .ok (.if_icmp .ne 30, 3) := by decide +kernel
theorem dX5_write_56 : decode cX5_write 56 = .ok (.aload_n 0, 1) := by decide +kernel
theorem dX5_write_57 : decode cX5_write 57 = .ok (.getfield 41, 3) := by decide +kernel
theorem dX5_write_60 : decode cX5_write 60 = .ok (.aload_n 0, 1) := by decide +kernel
theorem dX5_write_61 : decode cX5_write 61 = .ok (.getfield 65, 3) := by decide +kernel
theorem dX5_write_64 : decode cX5_write 64 = .ok (.iload_n 1, 1) := by decide +kernel
theorem dX5_write_65 : decode cX5_write 65 = .ok (.iaload, 1) := by decide +kernel
theorem dX5_write_66 : decode cX5_write 66 = .ok (.dup2, 1) := by decide +kernel
theorem dX5_write_67 : decode cX5_write 67 = .ok (.iaload, 1) := by decide +kernel
theorem dX5_write_68 : decode cX5_write 68 = .ok (.iload_n 2, 1) := by decide +kernel
theorem dX5_write_69 : decode cX5_write 69 = .ok (.iadd, 1) := by decide +kernel
theorem dX5_write_70 : decode cX5_write 70 = .ok (.iastore, 1) := by decide +kernel
theorem dX5_write_71 : decode cX5_write 71 = .ok (.aload_n 0, 1) := by decide +kernel
theorem dX5_write_72 : decode cX5_write 72 = .ok (.getfield 41, 3) := by decide +kernel
theorem dX5_write_75 : decode cX5_write 75 = .ok (.aload_n 0, 1) := by decide +kernel
theorem dX5_write_76 : decode cX5_write 76 = .ok (.getfield 65, 3) := by decide +kernel
theorem dX5_write_79 : decode cX5_write 79 = .ok (.iload_n 1, 1) := by decide +kernel
theorem dX5_write_80 : decode cX5_write 80 = .ok (.iaload, 1) := by decide +kernel
theorem dX5_write_81 : decode cX5_write 81 = .ok (.iaload, 1) := by decide +kernel
theorem dX5_write_82 : decode cX5_write 82 = .ok (.ireturn, 1) := by decide +kernel
theorem dX5_write_83 : decode cX5_write 83 = .ok (.aload_n 0, 1) := by decide +kernel
theorem dX5_write_84 : decode cX5_write 84 = .ok (.getfield 56, 3) := by decide +kernel
theorem dX5_write_87 : decode cX5_write 87 = .ok (.iload 4, 2) := by decide +kernel
theorem dX5_write_89 : decode cX5_write 89 = .ok (.dup2, 1) := by decide +kernel
theorem dX5_write_90 : decode cX5_write 90 = .ok (.iaload, 1) := by decide +kernel
theorem dX5_write_91 : decode cX5_write 91 = .ok (.iload_n 2, 1) := by decide +kernel
theorem dX5_write_92 : decode cX5_write 92 = .ok (.iadd, 1) := by decide +kernel
theorem dX5_write_93 : decode cX5_write 93 = .ok (.iastore, 1) := by decide +kernel
theorem dX5_write_94 : decode cX5_write 94 = .ok (.aload_n 0, 1) := by decide +kernel
theorem dX5_write_95 : decode cX5_write 95 = .ok (.getfield 56, 3) := by decide +kernel
theorem dX5_write_98 : decode cX5_write 98 = .ok (.iload 4, 2) := by decide +kernel
theorem dX5_write_100 : decode cX5_write 100 = .ok (.iaload, 1) := by decide +kernel
theorem dX5_write_101 : decode cX5_write 101 = .ok (.ireturn, 1) := by decide +kernel
theorem dX5_advance_0 : decode cX5_advance 0 = .ok (.iload_n 1, 1) := by decide +kernel
theorem dX5_advance_1 : decode cX5_advance 1 = .ok (.iconst 1, 1) := by decide +kernel
theorem dX5_advance_2 : decode cX5_advance 2 = .ok (.bipush 100, 2) := by decide +kernel
theorem dX5_advance_4 : decode cX5_advance 4 = .ok (.invokestatic 75, 3) := by decide +kernel
theorem dX5_advance_7 : decode cX5_advance 7 = .ok (.istore_n 2, 1) := by decide +kernel
theorem dX5_advance_8 : decode cX5_advance 8 = .ok (.aload_n 0, 1) := by decide +kernel
theorem dX5_advance_9 : decode cX5_advance 9 = .ok (.iload_n 2, 1) := by decide +kernel
theorem dX5_advance_10 : decode cX5_advance 10 = .ok (.iload_n 2, 1) := by decide +kernel
theorem dX5_advance_11 : decode cX5_advance 11 = .ok (.ifCond .eq 19, 3) := by decide +kernel
theorem dX5_advance_14 : decode cX5_advance 14 = .ok (.aload_n 0, 1) := by decide +kernel
theorem dX5_advance_15 : decode cX5_advance 15 = .ok (.getfield 93, 3) := by decide +kernel
theorem dX5_advance_18 : decode cX5_advance 18 = .ok (.iload_n 1, 1) := by decide +kernel
theorem dX5_advance_19 : decode cX5_advance 19 = .ok (.iadd, 1) := by decide +kernel
theorem dX5_advance_20 : decode cX5_advance 20 = .ok (.sipush 5000, 3) := by decide +kernel
theorem dX5_advance_23 : decode cX5_advance 23 = .ok (.if_icmp .gt 7, 3) := by decide +kernel
theorem dX5_advance_26 : decode cX5_advance 26 = .ok (.iconst 1, 1) := by decide +kernel
theorem dX5_advance_27 : decode cX5_advance 27 = .ok (.goto 4, 3) := by decide +kernel
theorem dX5_advance_30 : decode cX5_advance 30 = .ok (.iconst 0, 1) := by decide +kernel
theorem dX5_advance_31 : decode cX5_advance 31 = .ok (.iconst 1, 1) := by decide +kernel
theorem dX5_advance_32 : decode cX5_advance 32 = .ok (.invokevirtual 83, 3) := by decide +kernel
theorem dX5_advance_35 : decode cX5_advance 35 = .ok (.ifCond .ne 5, 3) := by decide +kernel
theorem dX5_advance_38 : decode cX5_advance 38 = .ok (.iconst 0, 1) := by decide +kernel
theorem dX5_advance_39 : decode cX5_advance 39 = .ok (.ireturn, 1) := by decide +kernel
theorem dX5_advance_40 : decode cX5_advance 40 = .ok (.aload_n 0, 1) := by decide +kernel
theorem dX5_advance_41 : decode cX5_advance 41 = .ok (.dup, 1) := by decide +kernel
theorem dX5_advance_42 : decode cX5_advance 42 = .ok (.getfield 93, 3) := by decide +kernel
theorem dX5_advance_45 : decode cX5_advance 45 = .ok (.iload_n 1, 1) := by decide +kernel
theorem dX5_advance_46 : decode cX5_advance 46 = .ok (.iadd, 1) := by decide +kernel
theorem dX5_advance_47 : decode cX5_advance 47 = .ok (.putfield 93, 3) := by decide +kernel
theorem dX5_advance_50 : decode cX5_advance 50 = .ok (.aload_n 0, 1) := by decide +kernel
theorem dX5_advance_51 : decode cX5_advance 51 = .ok (.getfield 93, 3) := by decide +kernel
theorem dX5_advance_54 : decode cX5_advance 54 = .ok (.ireturn, 1) := by decide +kernel
theorem dX5_comes_0 : decode cX5_comes 0 = .ok (.iconst 0, 1) := by decide +kernel
theorem dX5_comes_1 : decode cX5_comes 1 = .ok (.istore 4, 2) := by decide +kernel
theorem dX5_comes_3 : decode cX5_comes 3 = .ok (.iload_n 0, 1) := by decide +kernel
theorem dX5_comes_4 : decode cX5_comes 4 = .ok (.iconst 1, 1) := by decide +kernel
theorem dX5_comes_5 : decode cX5_comes 5 = .ok (.iadd, 1) := by decide +kernel
theorem dX5_comes_6 : decode cX5_comes 6 = .ok (.istore 5, 2) := by decide +kernel
theorem dX5_comes_8 : decode cX5_comes 8 = .ok (.iload 5, 2) := by decide +kernel
theorem dX5_comes_10 : decode cX5_comes 10 = .ok (.iload_n 1, 1) := by decide +kernel
theorem dX5_comes_11 : decode cX5_comes 11 = .ok (.if_icmp .gt 37, 3) := by decide +kernel
theorem dX5_comes_14 : decode cX5_comes 14 = .ok (.iload 5, 2) := by decide +kernel
theorem dX5_comes_16 : decode cX5_comes 16 = .ok (.iload_n 0, 1) := by decide +kernel
theorem dX5_comes_17 : decode cX5_comes 17 = .ok (.iload_n 3, 1) := by decide +kernel
theorem dX5_comes_18 : decode cX5_comes 18 = .ok (.iadd, 1) := by decide +kernel
theorem dX5_comes_19 : decode cX5_comes 19 = .ok (.if_icmp .gt 29, 3) := by decide +kernel
theorem dX5_comes_22 : decode cX5_comes 22 = .ok (.iload 4, 2) := by decide +kernel
theorem dX5_comes_24 : decode cX5_comes 24 = .ok (.ifCond .ne 11, 3) := by decide +kernel
theorem dX5_comes_27 : decode cX5_comes 27 = .ok (.iload 5, 2) := by decide +kernel
theorem dX5_comes_29 : decode cX5_comes 29 = .ok (.iload_n 3, 1) := by decide +kernel
theorem dX5_comes_30 : decode cX5_comes 30 = .ok (.irem, 1) := by decide +kernel
theorem dX5_comes_31 : decode cX5_comes 31 = .ok (.iload_n 2, 1) := by decide +kernel
theorem dX5_comes_32 : decode cX5_comes 32 = .ok (.if_icmp .ne 7, 3) := by decide +kernel
theorem dX5_comes_35 : decode cX5_comes 35 = .ok (.iconst 1, 1) := by decide +kernel
theorem dX5_comes_36 : decode cX5_comes 36 = .ok (.goto 4, 3) := by decide +kernel
theorem dX5_comes_39 : decode cX5_comes 39 = .ok (.iconst 0, 1) := by decide +kernel
theorem dX5_comes_40 : decode cX5_comes 40 = .ok (.istore 4, 2) := by decide +kernel
theorem dX5_comes_42 : decode cX5_comes 42 = .ok (.iinc 5 1, 3) := by decide +kernel
theorem dX5_comes_45 : decode cX5_comes 45 = .ok (.goto (-37), 3) := by decide +kernel
theorem dX5_comes_48 : decode cX5_comes 48 = .ok (.iload 4, 2) := by decide +kernel
theorem dX5_comes_50 : decode cX5_comes 50 = .ok (.ireturn, 1) := by decide +kernel
theorem dX5_isDueOn_0 : decode cX5_isDueOn 0 = .ok (.aload_n 0, 1) := by decide +kernel
theorem dX5_isDueOn_1 : decode cX5_isDueOn 1 = .ok (.getfield 38, 3) := by decide +kernel
theorem dX5_isDueOn_4 : decode cX5_isDueOn 4 = .ok (.iload_n 1, 1) := by decide +kernel
theorem dX5_isDueOn_5 : decode cX5_isDueOn 5 = .ok (.iaload, 1) := by decide +kernel
theorem dX5_isDueOn_6 : decode cX5_isDueOn 6 = .ok (.istore_n 3, 1) := by decide +kernel
theorem dX5_isDueOn_7 : decode cX5_isDueOn 7 = .ok (.aload_n 0, 1) := by decide +kernel
theorem dX5_isDueOn_8 : decode cX5_isDueOn 8 = .ok (.getfield 41, 3) := by decide +kernel
theorem dX5_isDueOn_11 : decode cX5_isDueOn 11 = .ok (.iload_n 1, 1) := by decide +kernel
theorem dX5_isDueOn_12 : decode cX5_isDueOn 12 = .ok (.iaload, 1) := by decide +kernel
theorem dX5_isDueOn_13 : decode cX5_isDueOn 13 = .ok (.ifCond .le 33, 3) := by decide +kernel
theorem dX5_isDueOn_16 : decode cX5_isDueOn 16 = .ok (.aload_n 0, 1) := by decide +kernel
theorem dX5_isDueOn_17 : decode cX5_isDueOn 17 = .ok (.getfield 47, 3) := by decide +kernel
theorem dX5_isDueOn_20 : decode cX5_isDueOn 20 = .ok (.iload_n 1, 1) := by decide +kernel
theorem dX5_isDueOn_21 : decode cX5_isDueOn 21 = .ok (.baload, 1) := by decide +kernel
theorem dX5_isDueOn_22 : decode cX5_isDueOn 22 = .ok (.ifCond .eq 20, 3) := by decide +kernel
theorem dX5_isDueOn_25 : decode cX5_isDueOn 25 = .ok (.iload_n 2, 1) := by decide +kernel
theorem dX5_isDueOn_26 : decode cX5_isDueOn 26 = .ok (.aload_n 0, 1) := by decide +kernel
theorem dX5_isDueOn_27 : decode cX5_isDueOn 27 = .ok (.getfield 44, 3) := by decide +kernel
theorem dX5_isDueOn_30 : decode cX5_isDueOn 30 = .ok (.iload_n 1, 1) := by decide +kernel
theorem dX5_isDueOn_31 : decode cX5_isDueOn 31 = .ok (.iaload, 1) := by decide +kernel
theorem dX5_isDueOn_32 : decode cX5_isDueOn 32 = .ok (.isub, 1) := by decide +kernel
theorem dX5_isDueOn_33 : decode cX5_isDueOn 33 = .ok (.aload_n 0, 1) := by decide +kernel
theorem dX5_isDueOn_34 : decode cX5_isDueOn 34 = .ok (.getfield 19, 3) := by decide +kernel
theorem dX5_isDueOn_37 : decode cX5_isDueOn 37 = .ok (.iload_n 3, 1) := by decide +kernel
theorem dX5_isDueOn_38 : decode cX5_isDueOn 38 = .ok (.iaload, 1) := by decide +kernel
theorem dX5_isDueOn_39 : decode cX5_isDueOn 39 = .ok (.if_icmp .lt 7, 3) := by decide +kernel
theorem dX5_isDueOn_42 : decode cX5_isDueOn 42 = .ok (.iconst 1, 1) := by decide +kernel
theorem dX5_isDueOn_43 : decode cX5_isDueOn 43 = .ok (.goto 4, 3) := by decide +kernel
theorem dX5_isDueOn_46 : decode cX5_isDueOn 46 = .ok (.iconst 0, 1) := by decide +kernel
theorem dX5_isDueOn_47 : decode cX5_isDueOn 47 = .ok (.istore 4, 2) := by decide +kernel
theorem dX5_isDueOn_49 : decode cX5_isDueOn 49 = .ok (.aload_n 0, 1) := by decide +kernel
theorem dX5_isDueOn_50 : decode cX5_isDueOn 50 = .ok (.getfield 7, 3) := by decide +kernel
theorem dX5_isDueOn_53 : decode cX5_isDueOn 53 = .ok (.iload_n 3, 1) := by decide +kernel
theorem dX5_isDueOn_54 : decode cX5_isDueOn 54 = .ok (.iaload, 1) := by decide +kernel
theorem dX5_isDueOn_55 : decode cX5_isDueOn 55 = .ok (.ifCond .le 22, 3) := by decide +kernel
theorem dX5_isDueOn_58 : decode cX5_isDueOn 58 = .ok (.aload_n 0, 1) := by decide +kernel
theorem dX5_isDueOn_59 : decode cX5_isDueOn 59 = .ok (.getfield 41, 3) := by decide +kernel
theorem dX5_isDueOn_62 : decode cX5_isDueOn 62 = .ok (.iload_n 1, 1) := by decide +kernel
theorem dX5_isDueOn_63 : decode cX5_isDueOn 63 = .ok (.iaload, 1) := by decide +kernel
theorem dX5_isDueOn_64 : decode cX5_isDueOn 64 = .ok (.aload_n 0, 1) := by decide +kernel
theorem dX5_isDueOn_65 : decode cX5_isDueOn 65 = .ok (.getfield 7, 3) := by decide +kernel
theorem dX5_isDueOn_68 : decode cX5_isDueOn 68 = .ok (.iload_n 3, 1) := by decide +kernel
theorem dX5_isDueOn_69 : decode cX5_isDueOn 69 = .ok (.iaload, 1) := by decide +kernel
theorem dX5_isDueOn_70 : decode cX5_isDueOn 70 = .ok (.if_icmp .lt 7, 3) := by decide +kernel
theorem dX5_isDueOn_73 : decode cX5_isDueOn 73 = .ok (.iconst 1, 1) := by decide +kernel
theorem dX5_isDueOn_74 : decode cX5_isDueOn 74 = .ok (.goto 4, 3) := by decide +kernel
theorem dX5_isDueOn_77 : decode cX5_isDueOn 77 = .ok (.iconst 0, 1) := by decide +kernel
theorem dX5_isDueOn_78 : decode cX5_isDueOn 78 = .ok (.istore 5, 2) := by decide +kernel
theorem dX5_isDueOn_80 : decode cX5_isDueOn 80 = .ok (.iload 4, 2) := by decide +kernel
theorem dX5_isDueOn_82 : decode cX5_isDueOn 82 = .ok (.ifCond .eq 54, 3) := by decide +kernel
theorem dX5_isDueOn_85 : decode cX5_isDueOn 85 = .ok (.iload 5, 2) := by decide +kernel
theorem dX5_isDueOn_87 : decode cX5_isDueOn 87 = .ok (.ifCond .ne 45, 3) := by decide +kernel
theorem dX5_isDueOn_90 : decode cX5_isDueOn 90 = .ok (.aload_n 0, 1) := by decide +kernel
theorem dX5_isDueOn_91 : decode cX5_isDueOn 91 = .ok (.getfield 44, 3) := by decide +kernel
theorem dX5_isDueOn_94 : decode cX5_isDueOn 94 = .ok (.iload_n 1, 1) := by decide +kernel
theorem dX5_isDueOn_95 : decode cX5_isDueOn 95 = .ok (.iaload, 1) := by decide +kernel
theorem dX5_isDueOn_96 : decode cX5_isDueOn 96 = .ok (.iload_n 2, 1) := by decide +kernel
theorem dX5_isDueOn_97 : decode cX5_isDueOn 97 = .ok (.aload_n 0, 1) := by decide +kernel
theorem dX5_isDueOn_98 : decode cX5_isDueOn 98 = .ok (.getfield 13, 3) := by decide +kernel
theorem dX5_isDueOn_101 : decode cX5_isDueOn 101 = .ok (.iload_n 3, 1) := by decide +kernel
theorem dX5_isDueOn_102 : decode cX5_isDueOn 102 = .ok (.iaload, 1) := by decide +kernel
theorem dX5_isDueOn_103 : decode cX5_isDueOn 103 = .ok (.bipush 7, 2) := by decide +kernel
theorem dX5_isDueOn_105 : decode cX5_isDueOn 105 = .ok (.invokestatic 96, 3) := by decide +kernel
theorem dX5_isDueOn_108 : decode cX5_isDueOn 108 = .ok (.ifCond .ne 24, 3) := by decide +kernel
theorem dX5_isDueOn_111 : decode cX5_isDueOn 111 = .ok (.aload_n 0, 1) := by decide +kernel
theorem dX5_isDueOn_112 : decode cX5_isDueOn 112 = .ok (.getfield 44, 3) := by decide +kernel
theorem dX5_isDueOn_115 : decode cX5_isDueOn 115 = .ok (.iload_n 1, 1) := by decide +kernel
theorem dX5_isDueOn_116 : decode cX5_isDueOn 116 = .ok (.iaload, 1) := by decide +kernel
theorem dX5_isDueOn_117 : decode cX5_isDueOn 117 = .ok (.iload_n 2, 1) := by decide +kernel
theorem dX5_isDueOn_118 : decode cX5_isDueOn 118 = .ok (.aload_n 0, 1) := by decide +kernel
theorem dX5_isDueOn_119 : decode cX5_isDueOn 119 = .ok (.getfield 16, 3) := by decide +kernel
theorem dX5_isDueOn_122 : decode cX5_isDueOn 122 = .ok (.iload_n 3, 1) := by decide +kernel
theorem dX5_isDueOn_123 : decode cX5_isDueOn 123 = .ok (.iaload, 1) := by decide +kernel
theorem dX5_isDueOn_124 : decode cX5_isDueOn 124 = .ok (.bipush 30, 2) := by decide +kernel
theorem dX5_isDueOn_126 : decode cX5_isDueOn 126 = .ok (.invokestatic 96, 3) := by decide +kernel
theorem dX5_isDueOn_129 : decode cX5_isDueOn 129 = .ok (.ifCond .eq 7, 3) := by decide +kernel
theorem dX5_isDueOn_132 : decode cX5_isDueOn 132 = .ok (.iconst 1, 1) := by decide +kernel
theorem dX5_isDueOn_133 : decode cX5_isDueOn 133 = .ok (.goto 4, 3) := by decide +kernel
theorem dX5_isDueOn_136 : decode cX5_isDueOn 136 = .ok (.iconst 0, 1) := by decide +kernel
theorem dX5_isDueOn_137 : decode cX5_isDueOn 137 = .ok (.ireturn, 1) := by decide +kernel
theorem dX5_isHeld_0 : decode cX5_isHeld 0 = .ok (.iconst 0, 1) := by decide +kernel
theorem dX5_isHeld_1 : decode cX5_isHeld 1 = .ok (.istore_n 2, 1) := by decide +kernel
theorem dX5_isHeld_2 : decode cX5_isHeld 2 = .ok (.iconst 0, 1) := by decide +kernel
theorem dX5_isHeld_3 : decode cX5_isHeld 3 = .ok (.istore_n 3, 1) := by decide +kernel
theorem dX5_isHeld_4 : decode cX5_isHeld 4 = .ok (.iload_n 3, 1) := by decide +kernel
theorem dX5_isHeld_5 : decode cX5_isHeld 5 = .ok (.iconst 4, 1) := by decide +kernel
theorem dX5_isHeld_6 : decode cX5_isHeld 6 = .ok (.if_icmp .ge 29, 3) := by decide +kernel
theorem dX5_isHeld_9 : decode cX5_isHeld 9 = .ok (.iload_n 2, 1) := by decide +kernel
theorem dX5_isHeld_10 : decode cX5_isHeld 10 = .ok (.ifCond .ne 13, 3) := by decide +kernel
theorem dX5_isHeld_13 : decode cX5_isHeld 13 = .ok (.aload_n 0, 1) := by decide +kernel
theorem dX5_isHeld_14 : decode cX5_isHeld 14 = .ok (.getfield 68, 3) := by decide +kernel
theorem dX5_isHeld_17 : decode cX5_isHeld 17 = .ok (.iload_n 3, 1) := by decide +kernel
theorem dX5_isHeld_18 : decode cX5_isHeld 18 = .ok (.iaload, 1) := by decide +kernel
theorem dX5_isHeld_19 : decode cX5_isHeld 19 = .ok (.iload_n 1, 1) := by decide +kernel
theorem dX5_isHeld_20 : decode cX5_isHeld 20 = .ok (.if_icmp .ne 7, 3) := by decide +kernel
theorem dX5_isHeld_23 : decode cX5_isHeld 23 = .ok (.iconst 1, 1) := by decide +kernel
theorem dX5_isHeld_24 : decode cX5_isHeld 24 = .ok (.goto 4, 3) := by decide +kernel
theorem dX5_isHeld_27 : decode cX5_isHeld 27 = .ok (.iconst 0, 1) := by decide +kernel
theorem dX5_isHeld_28 : decode cX5_isHeld 28 = .ok (.istore_n 2, 1) := by decide +kernel
theorem dX5_isHeld_29 : decode cX5_isHeld 29 = .ok (.iinc 3 1, 3) := by decide +kernel
theorem dX5_isHeld_32 : decode cX5_isHeld 32 = .ok (.goto (-28), 3) := by decide +kernel
theorem dX5_isHeld_35 : decode cX5_isHeld 35 = .ok (.iload_n 2, 1) := by decide +kernel
theorem dX5_isHeld_36 : decode cX5_isHeld 36 = .ok (.ireturn, 1) := by decide +kernel
theorem dX5_oldsOf_0 : decode cX5_oldsOf 0 = .ok (.iconst 0, 1) := by decide +kernel
theorem dX5_oldsOf_1 : decode cX5_oldsOf 1 = .ok (.istore_n 2, 1) := by decide +kernel
theorem dX5_oldsOf_2 : decode cX5_oldsOf 2 = .ok (.iconst 0, 1) := by decide +kernel
theorem dX5_oldsOf_3 : decode cX5_oldsOf 3 = .ok (.istore_n 3, 1) := by decide +kernel
theorem dX5_oldsOf_4 : decode cX5_oldsOf 4 = .ok (.iload_n 3, 1) := by decide +kernel
theorem dX5_oldsOf_5 : decode cX5_oldsOf 5 = .ok (.aload_n 0, 1) := by decide +kernel
theorem dX5_oldsOf_6 : decode cX5_oldsOf 6 = .ok (.getfield 100, 3) := by decide +kernel
theorem dX5_oldsOf_9 : decode cX5_oldsOf 9 = .ok (.if_icmp .ge 27, 3) := by decide +kernel
theorem dX5_oldsOf_12 : decode cX5_oldsOf 12 = .ok (.iload_n 2, 1) := by decide +kernel
theorem dX5_oldsOf_13 : decode cX5_oldsOf 13 = .ok (.aload_n 0, 1) := by decide +kernel
theorem dX5_oldsOf_14 : decode cX5_oldsOf 14 = .ok (.getfield 53, 3) := by decide +kernel
theorem dX5_oldsOf_17 : decode cX5_oldsOf 17 = .ok (.iload_n 3, 1) := by decide +kernel
theorem dX5_oldsOf_18 : decode cX5_oldsOf 18 = .ok (.iaload, 1) := by decide +kernel
theorem dX5_oldsOf_19 : decode cX5_oldsOf 19 = .ok (.iload_n 1, 1) := by decide +kernel
theorem dX5_oldsOf_20 : decode cX5_oldsOf 20 = .ok (.if_icmp .ne 7, 3) := by decide +kernel
theorem dX5_oldsOf_23 : decode cX5_oldsOf 23 = .ok (.iconst 1, 1) := by decide +kernel
theorem dX5_oldsOf_24 : decode cX5_oldsOf 24 = .ok (.goto 4, 3) := by decide +kernel
theorem dX5_oldsOf_27 : decode cX5_oldsOf 27 = .ok (.iconst 0, 1) := by decide +kernel
theorem dX5_oldsOf_28 : decode cX5_oldsOf 28 = .ok (.iadd, 1) := by decide +kernel
theorem dX5_oldsOf_29 : decode cX5_oldsOf 29 = .ok (.istore_n 2, 1) := by decide +kernel
theorem dX5_oldsOf_30 : decode cX5_oldsOf 30 = .ok (.iinc 3 1, 3) := by decide +kernel
theorem dX5_oldsOf_33 : decode cX5_oldsOf 33 = .ok (.goto (-29), 3) := by decide +kernel
theorem dX5_oldsOf_36 : decode cX5_oldsOf 36 = .ok (.iload_n 2, 1) := by decide +kernel
theorem dX5_oldsOf_37 : decode cX5_oldsOf 37 = .ok (.ireturn, 1) := by decide +kernel
theorem dX5_throwsAway_0 : decode cX5_throwsAway 0 = .ok (.aload_n 0, 1) := by decide +kernel
theorem dX5_throwsAway_1 : decode cX5_throwsAway 1 = .ok (.getfield 50, 3) := by decide +kernel
theorem dX5_throwsAway_4 : decode cX5_throwsAway 4 = .ok (.aload_n 0, 1) := by decide +kernel
theorem dX5_throwsAway_5 : decode cX5_throwsAway 5 = .ok (.getfield 53, 3) := by decide +kernel
theorem dX5_throwsAway_8 : decode cX5_throwsAway 8 = .ok (.iload_n 1, 1) := by decide +kernel
theorem dX5_throwsAway_9 : decode cX5_throwsAway 9 = .ok (.iaload, 1) := by decide +kernel
theorem dX5_throwsAway_10 : decode cX5_throwsAway 10 = .ok (.dup2, 1) := by decide +kernel
theorem dX5_throwsAway_11 : decode cX5_throwsAway 11 = .ok (.iaload, 1) := by decide +kernel
theorem dX5_throwsAway_12 : decode cX5_throwsAway 12 = .ok (.aload_n 0, 1) := by decide +kernel
theorem dX5_throwsAway_13 : decode cX5_throwsAway 13 = .ok (.getfield 56, 3) := by decide +kernel
theorem dX5_throwsAway_16 : decode cX5_throwsAway 16 = .ok (.iload_n 1, 1) := by decide +kernel
theorem dX5_throwsAway_17 : decode cX5_throwsAway 17 = .ok (.iaload, 1) := by decide +kernel
theorem dX5_throwsAway_18 : decode cX5_throwsAway 18 = .ok (.iadd, 1) := by decide +kernel
theorem dX5_throwsAway_19 : decode cX5_throwsAway 19 = .ok (.iastore, 1) := by decide +kernel
theorem dX5_throwsAway_20 : decode cX5_throwsAway 20 = .ok (.aload_n 0, 1) := by decide +kernel
theorem dX5_throwsAway_21 : decode cX5_throwsAway 21 = .ok (.dup, 1) := by decide +kernel
theorem dX5_throwsAway_22 : decode cX5_throwsAway 22 = .ok (.getfield 100, 3) := by decide +kernel
theorem dX5_throwsAway_25 : decode cX5_throwsAway 25 = .ok (.iconst 1, 1) := by decide +kernel
theorem dX5_throwsAway_26 : decode cX5_throwsAway 26 = .ok (.isub, 1) := by decide +kernel
theorem dX5_throwsAway_27 : decode cX5_throwsAway 27 = .ok (.putfield 100, 3) := by decide +kernel
theorem dX5_throwsAway_30 : decode cX5_throwsAway 30 = .ok (.iload_n 1, 1) := by decide +kernel
theorem dX5_throwsAway_31 : decode cX5_throwsAway 31 = .ok (.istore_n 2, 1) := by decide +kernel
theorem dX5_throwsAway_32 : decode cX5_throwsAway 32 = .ok (.iload_n 2, 1) := by decide +kernel
theorem dX5_throwsAway_33 : decode cX5_throwsAway 33 = .ok (.aload_n 0, 1) := by decide +kernel
theorem dX5_throwsAway_34 : decode cX5_throwsAway 34 = .ok (.getfield 100, 3) := by decide +kernel
theorem dX5_throwsAway_37 : decode cX5_throwsAway 37 = .ok (.if_icmp .ge 65, 3) := by decide +kernel
theorem dX5_throwsAway_40 : decode cX5_throwsAway 40 = .ok (.aload_n 0, 1) := by decide +kernel
theorem dX5_throwsAway_41 : decode cX5_throwsAway 41 = .ok (.getfield 53, 3) := by decide +kernel
theorem dX5_throwsAway_44 : decode cX5_throwsAway 44 = .ok (.iload_n 2, 1) := by decide +kernel
theorem dX5_throwsAway_45 : decode cX5_throwsAway 45 = .ok (.aload_n 0, 1) := by decide +kernel
theorem dX5_throwsAway_46 : decode cX5_throwsAway 46 = .ok (.getfield 53, 3) := by decide +kernel
theorem dX5_throwsAway_49 : decode cX5_throwsAway 49 = .ok (.iload_n 2, 1) := by decide +kernel
theorem dX5_throwsAway_50 : decode cX5_throwsAway 50 = .ok (.iconst 1, 1) := by decide +kernel
theorem dX5_throwsAway_51 : decode cX5_throwsAway 51 = .ok (.iadd, 1) := by decide +kernel
theorem dX5_throwsAway_52 : decode cX5_throwsAway 52 = .ok (.iaload, 1) := by decide +kernel
theorem dX5_throwsAway_53 : decode cX5_throwsAway 53 = .ok (.iastore, 1) := by decide +kernel
theorem dX5_throwsAway_54 : decode cX5_throwsAway 54 = .ok (.aload_n 0, 1) := by decide +kernel
theorem dX5_throwsAway_55 : decode cX5_throwsAway 55 = .ok (.getfield 56, 3) := by decide +kernel
theorem dX5_throwsAway_58 : decode cX5_throwsAway 58 = .ok (.iload_n 2, 1) := by decide +kernel
theorem dX5_throwsAway_59 : decode cX5_throwsAway 59 = .ok (.aload_n 0, 1) := by decide +kernel
theorem dX5_throwsAway_60 : decode cX5_throwsAway 60 = .ok (.getfield 56, 3) := by decide +kernel
theorem dX5_throwsAway_63 : decode cX5_throwsAway 63 = .ok (.iload_n 2, 1) := by decide +kernel
theorem dX5_throwsAway_64 : decode cX5_throwsAway 64 = .ok (.iconst 1, 1) := by decide +kernel
theorem dX5_throwsAway_65 : decode cX5_throwsAway 65 = .ok (.iadd, 1) := by decide +kernel
theorem dX5_throwsAway_66 : decode cX5_throwsAway 66 = .ok (.iaload, 1) := by decide +kernel
theorem dX5_throwsAway_67 : decode cX5_throwsAway 67 = .ok (.iastore, 1) := by decide +kernel
theorem dX5_throwsAway_68 : decode cX5_throwsAway 68 = .ok (.aload_n 0, 1) := by decide +kernel
theorem dX5_throwsAway_69 : decode cX5_throwsAway 69 = .ok (.getfield 59, 3) := by decide +kernel
theorem dX5_throwsAway_72 : decode cX5_throwsAway 72 = .ok (.iload_n 2, 1) := by decide +kernel
theorem dX5_throwsAway_73 : decode cX5_throwsAway 73 = .ok (.aload_n 0, 1) := by decide +kernel
theorem dX5_throwsAway_74 : decode cX5_throwsAway 74 = .ok (.getfield 59, 3) := by decide +kernel
theorem dX5_throwsAway_77 : decode cX5_throwsAway 77 = .ok (.iload_n 2, 1) := by decide +kernel
theorem dX5_throwsAway_78 : decode cX5_throwsAway 78 = .ok (.iconst 1, 1) := by decide +kernel
theorem dX5_throwsAway_79 : decode cX5_throwsAway 79 = .ok (.iadd, 1) := by decide +kernel
theorem dX5_throwsAway_80 : decode cX5_throwsAway 80 = .ok (.iaload, 1) := by decide +kernel
theorem dX5_throwsAway_81 : decode cX5_throwsAway 81 = .ok (.iastore, 1) := by decide +kernel
theorem dX5_throwsAway_82 : decode cX5_throwsAway 82 = .ok (.aload_n 0, 1) := by decide +kernel
theorem dX5_throwsAway_83 : decode cX5_throwsAway 83 = .ok (.getfield 62, 3) := by decide +kernel
theorem dX5_throwsAway_86 : decode cX5_throwsAway 86 = .ok (.iload_n 2, 1) := by decide +kernel
theorem dX5_throwsAway_87 : decode cX5_throwsAway 87 = .ok (.aload_n 0, 1) := by decide +kernel
theorem dX5_throwsAway_88 : decode cX5_throwsAway 88 = .ok (.getfield 62, 3) := by decide +kernel
theorem dX5_throwsAway_91 : decode cX5_throwsAway 91 = .ok (.iload_n 2, 1) := by decide +kernel
theorem dX5_throwsAway_92 : decode cX5_throwsAway 92 = .ok (.iconst 1, 1) := by decide +kernel
theorem dX5_throwsAway_93 : decode cX5_throwsAway 93 = .ok (.iadd, 1) := by decide +kernel
theorem dX5_throwsAway_94 : decode cX5_throwsAway 94 = .ok (.baload, 1) := by decide +kernel
theorem dX5_throwsAway_95 : decode cX5_throwsAway 95 = .ok (.bastore, 1) := by decide +kernel
theorem dX5_throwsAway_96 : decode cX5_throwsAway 96 = .ok (.iinc 2 1, 3) := by decide +kernel
theorem dX5_throwsAway_99 : decode cX5_throwsAway 99 = .ok (.goto (-67), 3) := by decide +kernel
theorem dX5_throwsAway_102 : decode cX5_throwsAway 102 = .ok (.iconst 0, 1) := by decide +kernel
theorem dX5_throwsAway_103 : decode cX5_throwsAway 103 = .ok (.istore_n 2, 1) := by decide +kernel
theorem dX5_throwsAway_104 : decode cX5_throwsAway 104 = .ok (.iload_n 2, 1) := by decide +kernel
theorem dX5_throwsAway_105 : decode cX5_throwsAway 105 = .ok (.iconst 4, 1) := by decide +kernel
theorem dX5_throwsAway_106 : decode cX5_throwsAway 106 = .ok (.if_icmp .ge 33, 3) := by decide +kernel
theorem dX5_throwsAway_109 : decode cX5_throwsAway 109 = .ok (.aload_n 0, 1) := by decide +kernel
theorem dX5_throwsAway_110 : decode cX5_throwsAway 110 = .ok (.getfield 68, 3) := by decide +kernel
theorem dX5_throwsAway_113 : decode cX5_throwsAway 113 = .ok (.iload_n 2, 1) := by decide +kernel
theorem dX5_throwsAway_114 : decode cX5_throwsAway 114 = .ok (.dup2, 1) := by decide +kernel
theorem dX5_throwsAway_115 : decode cX5_throwsAway 115 = .ok (.iaload, 1) := by decide +kernel
theorem dX5_throwsAway_116 : decode cX5_throwsAway 116 = .ok (.aload_n 0, 1) := by decide +kernel
theorem dX5_throwsAway_117 : decode cX5_throwsAway 117 = .ok (.getfield 68, 3) := by decide +kernel
theorem dX5_throwsAway_120 : decode cX5_throwsAway 120 = .ok (.iload_n 2, 1) := by decide +kernel
theorem dX5_throwsAway_121 : decode cX5_throwsAway 121 = .ok (.iaload, 1) := by decide +kernel
theorem dX5_throwsAway_122 : decode cX5_throwsAway 122 = .ok (.iload_n 1, 1) := by decide +kernel
theorem dX5_throwsAway_123 : decode cX5_throwsAway 123 = .ok (.if_icmp .le 7, 3) := by decide +kernel
theorem dX5_throwsAway_126 : decode cX5_throwsAway 126 = .ok (.iconst 1, 1) := by decide +kernel
theorem dX5_throwsAway_127 : decode cX5_throwsAway 127 = .ok (.goto 4, 3) := by decide +kernel
theorem dX5_throwsAway_130 : decode cX5_throwsAway 130 = .ok (.iconst 0, 1) := by decide +kernel
theorem dX5_throwsAway_131 : decode cX5_throwsAway 131 = .ok (.isub, 1) := by decide +kernel
theorem dX5_throwsAway_132 : decode cX5_throwsAway 132 = .ok (.iastore, 1) := by decide +kernel
theorem dX5_throwsAway_133 : decode cX5_throwsAway 133 = .ok (.iinc 2 1, 3) := by decide +kernel
theorem dX5_throwsAway_136 : decode cX5_throwsAway 136 = .ok (.goto (-32), 3) := by decide +kernel
theorem dX5_throwsAway_139 : decode cX5_throwsAway 139 = .ok (.return_, 1) := by decide +kernel
theorem dX5_turns_0 : decode cX5_turns 0 = .ok (.aload_n 0, 1) := by decide +kernel
theorem dX5_turns_1 : decode cX5_turns 1 = .ok (.getfield 38, 3) := by decide +kernel
theorem dX5_turns_4 : decode cX5_turns 4 = .ok (.iload_n 1, 1) := by decide +kernel
theorem dX5_turns_5 : decode cX5_turns 5 = .ok (.iaload, 1) := by decide +kernel
theorem dX5_turns_6 : decode cX5_turns 6 = .ok (.istore_n 2, 1) := by decide +kernel
theorem dX5_turns_7 : decode cX5_turns 7 = .ok (.aload_n 0, 1) := by decide +kernel
theorem dX5_turns_8 : decode cX5_turns 8 = .ok (.getfield 53, 3) := by decide +kernel
theorem dX5_turns_11 : decode cX5_turns 11 = .ok (.aload_n 0, 1) := by decide +kernel
theorem dX5_turns_12 : decode cX5_turns 12 = .ok (.getfield 100, 3) := by decide +kernel
theorem dX5_turns_15 : decode cX5_turns 15 = .ok (.iload_n 1, 1) := by decide +kernel
theorem dX5_turns_16 : decode cX5_turns 16 = .ok (.iastore, 1) := by decide +kernel
theorem dX5_turns_17 : decode cX5_turns 17 = .ok (.aload_n 0, 1) := by decide +kernel
theorem dX5_turns_18 : decode cX5_turns 18 = .ok (.getfield 56, 3) := by decide +kernel
theorem dX5_turns_21 : decode cX5_turns 21 = .ok (.aload_n 0, 1) := by decide +kernel
theorem dX5_turns_22 : decode cX5_turns 22 = .ok (.getfield 100, 3) := by decide +kernel
theorem dX5_turns_25 : decode cX5_turns 25 = .ok (.aload_n 0, 1) := by decide +kernel
theorem dX5_turns_26 : decode cX5_turns 26 = .ok (.getfield 41, 3) := by decide +kernel
theorem dX5_turns_29 : decode cX5_turns 29 = .ok (.iload_n 1, 1) := by decide +kernel
theorem dX5_turns_30 : decode cX5_turns 30 = .ok (.iaload, 1) := by decide +kernel
theorem dX5_turns_31 : decode cX5_turns 31 = .ok (.iastore, 1) := by decide +kernel
theorem dX5_turns_32 : decode cX5_turns 32 = .ok (.aload_n 0, 1) := by decide +kernel
theorem dX5_turns_33 : decode cX5_turns 33 = .ok (.getfield 59, 3) := by decide +kernel
theorem dX5_turns_36 : decode cX5_turns 36 = .ok (.aload_n 0, 1) := by decide +kernel
theorem dX5_turns_37 : decode cX5_turns 37 = .ok (.getfield 100, 3) := by decide +kernel
theorem dX5_turns_40 : decode cX5_turns 40 = .ok (.aload_n 0, 1) := by decide +kernel
theorem dX5_turns_41 : decode cX5_turns 41 = .ok (.getfield 93, 3) := by decide +kernel
theorem dX5_turns_44 : decode cX5_turns 44 = .ok (.iastore, 1) := by decide +kernel
theorem dX5_turns_45 : decode cX5_turns 45 = .ok (.aload_n 0, 1) := by decide +kernel
theorem dX5_turns_46 : decode cX5_turns 46 = .ok (.getfield 62, 3) := by decide +kernel
theorem dX5_turns_49 : decode cX5_turns 49 = .ok (.aload_n 0, 1) := by decide +kernel
theorem dX5_turns_50 : decode cX5_turns 50 = .ok (.getfield 100, 3) := by decide +kernel
theorem dX5_turns_53 : decode cX5_turns 53 = .ok (.iconst 0, 1) := by decide +kernel
theorem dX5_turns_54 : decode cX5_turns 54 = .ok (.bastore, 1) := by decide +kernel
theorem dX5_turns_55 : decode cX5_turns 55 = .ok (.iconst 0, 1) := by decide +kernel
theorem dX5_turns_56 : decode cX5_turns 56 = .ok (.istore_n 3, 1) := by decide +kernel
theorem dX5_turns_57 : decode cX5_turns 57 = .ok (.iload_n 3, 1) := by decide +kernel
theorem dX5_turns_58 : decode cX5_turns 58 = .ok (.iconst 4, 1) := by decide +kernel
theorem dX5_turns_59 : decode cX5_turns 59 = .ok (.if_icmp .ge 48, 3) := by decide +kernel
theorem dX5_turns_62 : decode cX5_turns 62 = .ok (.aload_n 0, 1) := by decide +kernel
theorem dX5_turns_63 : decode cX5_turns 63 = .ok (.getfield 68, 3) := by decide +kernel
theorem dX5_turns_66 : decode cX5_turns 66 = .ok (.iload_n 3, 1) := by decide +kernel
theorem dX5_turns_67 : decode cX5_turns 67 = .ok (.aload_n 0, 1) := by decide +kernel
theorem dX5_turns_68 : decode cX5_turns 68 = .ok (.getfield 65, 3) := by decide +kernel
theorem dX5_turns_71 : decode cX5_turns 71 = .ok (.iload_n 3, 1) := by decide +kernel
theorem dX5_turns_72 : decode cX5_turns 72 = .ok (.iaload, 1) := by decide +kernel
theorem dX5_turns_73 : decode cX5_turns 73 = .ok (.iload_n 1, 1) := by decide +kernel
theorem dX5_turns_74 : decode cX5_turns 74 = .ok (.if_icmp .ne 20, 3) := by decide +kernel
theorem dX5_turns_77 : decode cX5_turns 77 = .ok (.aload_n 0, 1) := by decide +kernel
theorem dX5_turns_78 : decode cX5_turns 78 = .ok (.getfield 68, 3) := by decide +kernel
theorem dX5_turns_81 : decode cX5_turns 81 = .ok (.iload_n 3, 1) := by decide +kernel
theorem dX5_turns_82 : decode cX5_turns 82 = .ok (.iaload, 1) := by decide +kernel
theorem dX5_turns_83 : decode cX5_turns 83 = .ok (.iconst (-1), 1) := by decide +kernel
theorem dX5_turns_84 : decode cX5_turns 84 = .ok (.if_icmp .ne 10, 3) := by decide +kernel
theorem dX5_turns_87 : decode cX5_turns 87 = .ok (.aload_n 0, 1) := by decide +kernel
theorem dX5_turns_88 : decode cX5_turns 88 = .ok (.getfield 100, 3) := by decide +kernel
theorem dX5_turns_91 : decode cX5_turns 91 = .ok (.goto 9, 3) := by decide +kernel
theorem dX5_turns_94 : decode cX5_turns 94 = .ok (.aload_n 0, 1) := by decide +kernel
theorem dX5_turns_95 : decode cX5_turns 95 = .ok (.getfield 68, 3) := by decide +kernel
theorem dX5_turns_98 : decode cX5_turns 98 = .ok (.iload_n 3, 1) := by decide +kernel
theorem dX5_turns_99 : decode cX5_turns 99 = .ok (.iaload, 1) := by decide +kernel
theorem dX5_turns_100 : decode cX5_turns 100 = .ok (.iastore, 1) := by decide +kernel
theorem dX5_turns_101 : decode cX5_turns 101 = .ok (.iinc 3 1, 3) := by decide +kernel
theorem dX5_turns_104 : decode cX5_turns 104 = .ok (.goto (-47), 3) := by decide +kernel
theorem dX5_turns_107 : decode cX5_turns 107 = .ok (.aload_n 0, 1) := by decide +kernel
theorem dX5_turns_108 : decode cX5_turns 108 = .ok (.dup, 1) := by decide +kernel
theorem dX5_turns_109 : decode cX5_turns 109 = .ok (.getfield 100, 3) := by decide +kernel
theorem dX5_turns_112 : decode cX5_turns 112 = .ok (.iconst 1, 1) := by decide +kernel
theorem dX5_turns_113 : decode cX5_turns 113 = .ok (.iadd, 1) := by decide +kernel
theorem dX5_turns_114 : decode cX5_turns 114 = .ok (.putfield 100, 3) := by decide +kernel
theorem dX5_turns_117 : decode cX5_turns 117 = .ok (.aload_n 0, 1) := by decide +kernel
theorem dX5_turns_118 : decode cX5_turns 118 = .ok (.getfield 41, 3) := by decide +kernel
theorem dX5_turns_121 : decode cX5_turns 121 = .ok (.iload_n 1, 1) := by decide +kernel
theorem dX5_turns_122 : decode cX5_turns 122 = .ok (.iconst 0, 1) := by decide +kernel
theorem dX5_turns_123 : decode cX5_turns 123 = .ok (.iastore, 1) := by decide +kernel
theorem dX5_turns_124 : decode cX5_turns 124 = .ok (.aload_n 0, 1) := by decide +kernel
theorem dX5_turns_125 : decode cX5_turns 125 = .ok (.getfield 44, 3) := by decide +kernel
theorem dX5_turns_128 : decode cX5_turns 128 = .ok (.iload_n 1, 1) := by decide +kernel
theorem dX5_turns_129 : decode cX5_turns 129 = .ok (.aload_n 0, 1) := by decide +kernel
theorem dX5_turns_130 : decode cX5_turns 130 = .ok (.getfield 93, 3) := by decide +kernel
theorem dX5_turns_133 : decode cX5_turns 133 = .ok (.iastore, 1) := by decide +kernel
theorem dX5_turns_134 : decode cX5_turns 134 = .ok (.aload_n 0, 1) := by decide +kernel
theorem dX5_turns_135 : decode cX5_turns 135 = .ok (.getfield 47, 3) := by decide +kernel
theorem dX5_turns_138 : decode cX5_turns 138 = .ok (.iload_n 1, 1) := by decide +kernel
theorem dX5_turns_139 : decode cX5_turns 139 = .ok (.iconst 1, 1) := by decide +kernel
theorem dX5_turns_140 : decode cX5_turns 140 = .ok (.bastore, 1) := by decide +kernel
theorem dX5_turns_141 : decode cX5_turns 141 = .ok (.iconst 0, 1) := by decide +kernel
theorem dX5_turns_142 : decode cX5_turns 142 = .ok (.istore_n 3, 1) := by decide +kernel
theorem dX5_turns_143 : decode cX5_turns 143 = .ok (.iload_n 3, 1) := by decide +kernel
theorem dX5_turns_144 : decode cX5_turns 144 = .ok (.aload_n 0, 1) := by decide +kernel
theorem dX5_turns_145 : decode cX5_turns 145 = .ok (.getfield 100, 3) := by decide +kernel
theorem dX5_turns_148 : decode cX5_turns 148 = .ok (.iconst 1, 1) := by decide +kernel
theorem dX5_turns_149 : decode cX5_turns 149 = .ok (.isub, 1) := by decide +kernel
theorem dX5_turns_150 : decode cX5_turns 150 = .ok (.if_icmp .ge 56, 3) := by decide +kernel
theorem dX5_turns_153 : decode cX5_turns 153 = .ok (.aload_n 0, 1) := by decide +kernel
theorem dX5_turns_154 : decode cX5_turns 154 = .ok (.getfield 62, 3) := by decide +kernel
theorem dX5_turns_157 : decode cX5_turns 157 = .ok (.iload_n 3, 1) := by decide +kernel
theorem dX5_turns_158 : decode cX5_turns 158 = .ok (.aload_n 0, 1) := by decide +kernel
theorem dX5_turns_159 : decode cX5_turns 159 = .ok (.getfield 62, 3) := by decide +kernel
theorem dX5_turns_162 : decode cX5_turns 162 = .ok (.iload_n 3, 1) := by decide +kernel
theorem dX5_turns_163 : decode cX5_turns 163 = .ok (.baload, 1) := by decide +kernel
theorem dX5_turns_164 : decode cX5_turns 164 = .ok (.ifCond .ne 30, 3) := by decide +kernel
theorem dX5_turns_167 : decode cX5_turns 167 = .ok (.aload_n 0, 1) := by decide +kernel
theorem dX5_turns_168 : decode cX5_turns 168 = .ok (.getfield 28, 3) := by decide +kernel
theorem dX5_turns_171 : decode cX5_turns 171 = .ok (.iload_n 2, 1) := by decide +kernel
theorem dX5_turns_172 : decode cX5_turns 172 = .ok (.baload, 1) := by decide +kernel
theorem dX5_turns_173 : decode cX5_turns 173 = .ok (.ifCond .eq 25, 3) := by decide +kernel
theorem dX5_turns_176 : decode cX5_turns 176 = .ok (.aload_n 0, 1) := by decide +kernel
theorem dX5_turns_177 : decode cX5_turns 177 = .ok (.getfield 53, 3) := by decide +kernel
theorem dX5_turns_180 : decode cX5_turns 180 = .ok (.iload_n 3, 1) := by decide +kernel
theorem dX5_turns_181 : decode cX5_turns 181 = .ok (.iaload, 1) := by decide +kernel
theorem dX5_turns_182 : decode cX5_turns 182 = .ok (.iload_n 1, 1) := by decide +kernel
theorem dX5_turns_183 : decode cX5_turns 183 = .ok (.if_icmp .ne 15, 3) := by decide +kernel
theorem dX5_turns_186 : decode cX5_turns 186 = .ok (.aload_n 0, 1) := by decide +kernel
theorem dX5_turns_187 : decode cX5_turns 187 = .ok (.iload_n 3, 1) := by decide +kernel
theorem dX5_turns_188 : decode cX5_turns 188 = .ok (.invokevirtual 103, 3) := by decide +kernel
theorem dX5_turns_191 : decode cX5_turns 191 = .ok (.ifCond .ne 7, 3) := by decide +kernel
theorem dX5_turns_194 : decode cX5_turns 194 = .ok (.iconst 1, 1) := by decide +kernel
theorem dX5_turns_195 : decode cX5_turns 195 = .ok (.goto 4, 3) := by decide +kernel
theorem dX5_turns_198 : decode cX5_turns 198 = .ok (.iconst 0, 1) := by decide +kernel
theorem dX5_turns_199 : decode cX5_turns 199 = .ok (.bastore, 1) := by decide +kernel
theorem dX5_turns_200 : decode cX5_turns 200 = .ok (.iinc 3 1, 3) := by decide +kernel
theorem dX5_turns_203 : decode cX5_turns 203 = .ok (.goto (-60), 3) := by decide +kernel
theorem dX5_turns_206 : decode cX5_turns 206 = .ok (.iconst 0, 1) := by decide +kernel
theorem dX5_turns_207 : decode cX5_turns 207 = .ok (.istore_n 3, 1) := by decide +kernel
theorem dX5_turns_208 : decode cX5_turns 208 = .ok (.aload_n 0, 1) := by decide +kernel
theorem dX5_turns_209 : decode cX5_turns 209 = .ok (.iload_n 1, 1) := by decide +kernel
theorem dX5_turns_210 : decode cX5_turns 210 = .ok (.invokevirtual 106, 3) := by decide +kernel
theorem dX5_turns_213 : decode cX5_turns 213 = .ok (.istore 4, 2) := by decide +kernel
theorem dX5_turns_215 : decode cX5_turns 215 = .ok (.iconst 0, 1) := by decide +kernel
theorem dX5_turns_216 : decode cX5_turns 216 = .ok (.istore 5, 2) := by decide +kernel
theorem dX5_turns_218 : decode cX5_turns 218 = .ok (.iload 5, 2) := by decide +kernel
theorem dX5_turns_220 : decode cX5_turns 220 = .ok (.aload_n 0, 1) := by decide +kernel
theorem dX5_turns_221 : decode cX5_turns 221 = .ok (.getfield 100, 3) := by decide +kernel
theorem dX5_turns_224 : decode cX5_turns 224 = .ok (.if_icmp .ge 112, 3) := by decide +kernel
theorem dX5_turns_227 : decode cX5_turns 227 = .ok (.aload_n 0, 1) := by decide +kernel
theorem dX5_turns_228 : decode cX5_turns 228 = .ok (.getfield 93, 3) := by decide +kernel
theorem dX5_turns_231 : decode cX5_turns 231 = .ok (.aload_n 0, 1) := by decide +kernel
theorem dX5_turns_232 : decode cX5_turns 232 = .ok (.getfield 59, 3) := by decide +kernel
theorem dX5_turns_235 : decode cX5_turns 235 = .ok (.iload 5, 2) := by decide +kernel
theorem dX5_turns_237 : decode cX5_turns 237 = .ok (.iaload, 1) := by decide +kernel
theorem dX5_turns_238 : decode cX5_turns 238 = .ok (.isub, 1) := by decide +kernel
theorem dX5_turns_239 : decode cX5_turns 239 = .ok (.istore 6, 2) := by decide +kernel
theorem dX5_turns_241 : decode cX5_turns 241 = .ok (.iload 4, 2) := by decide +kernel
theorem dX5_turns_243 : decode cX5_turns 243 = .ok (.aload_n 0, 1) := by decide +kernel
theorem dX5_turns_244 : decode cX5_turns 244 = .ok (.getfield 22, 3) := by decide +kernel
theorem dX5_turns_247 : decode cX5_turns 247 = .ok (.iload_n 2, 1) := by decide +kernel
theorem dX5_turns_248 : decode cX5_turns 248 = .ok (.iaload, 1) := by decide +kernel
theorem dX5_turns_249 : decode cX5_turns 249 = .ok (.if_icmp .gt 23, 3) := by decide +kernel
theorem dX5_turns_252 : decode cX5_turns 252 = .ok (.aload_n 0, 1) := by decide +kernel
theorem dX5_turns_253 : decode cX5_turns 253 = .ok (.getfield 25, 3) := by decide +kernel
theorem dX5_turns_256 : decode cX5_turns 256 = .ok (.iload_n 2, 1) := by decide +kernel
theorem dX5_turns_257 : decode cX5_turns 257 = .ok (.iaload, 1) := by decide +kernel
theorem dX5_turns_258 : decode cX5_turns 258 = .ok (.ifCond .le 18, 3) := by decide +kernel
theorem dX5_turns_261 : decode cX5_turns 261 = .ok (.iload 6, 2) := by decide +kernel
theorem dX5_turns_263 : decode cX5_turns 263 = .ok (.aload_n 0, 1) := by decide +kernel
theorem dX5_turns_264 : decode cX5_turns 264 = .ok (.getfield 25, 3) := by decide +kernel
theorem dX5_turns_267 : decode cX5_turns 267 = .ok (.iload_n 2, 1) := by decide +kernel
theorem dX5_turns_268 : decode cX5_turns 268 = .ok (.iaload, 1) := by decide +kernel
theorem dX5_turns_269 : decode cX5_turns 269 = .ok (.if_icmp .le 7, 3) := by decide +kernel
theorem dX5_turns_272 : decode cX5_turns 272 = .ok (.iconst 1, 1) := by decide +kernel
theorem dX5_turns_273 : decode cX5_turns 273 = .ok (.goto 4, 3) := by decide +kernel
theorem dX5_turns_276 : decode cX5_turns 276 = .ok (.iconst 0, 1) := by decide +kernel
theorem dX5_turns_277 : decode cX5_turns 277 = .ok (.istore 7, 2) := by decide +kernel
theorem dX5_turns_279 : decode cX5_turns 279 = .ok (.aload_n 0, 1) := by decide +kernel
theorem dX5_turns_280 : decode cX5_turns 280 = .ok (.getfield 53, 3) := by decide +kernel
theorem dX5_turns_283 : decode cX5_turns 283 = .ok (.iload 5, 2) := by decide +kernel
theorem dX5_turns_285 : decode cX5_turns 285 = .ok (.iaload, 1) := by decide +kernel
theorem dX5_turns_286 : decode cX5_turns 286 = .ok (.iload_n 1, 1) := by decide +kernel
theorem dX5_turns_287 : decode cX5_turns 287 = .ok (.if_icmp .ne 43, 3) := by decide +kernel
theorem dX5_turns_290 : decode cX5_turns 290 = .ok (.aload_n 0, 1) := by decide +kernel
theorem dX5_turns_291 : decode cX5_turns 291 = .ok (.iload 5, 2) := by decide +kernel
theorem dX5_turns_293 : decode cX5_turns 293 = .ok (.invokevirtual 103, 3) := by decide +kernel
theorem dX5_turns_296 : decode cX5_turns 296 = .ok (.ifCond .ne 34, 3) := by decide +kernel
theorem dX5_turns_299 : decode cX5_turns 299 = .ok (.iload 6, 2) := by decide +kernel
theorem dX5_turns_301 : decode cX5_turns 301 = .ok (.aload_n 0, 1) := by decide +kernel
theorem dX5_turns_302 : decode cX5_turns 302 = .ok (.getfield 19, 3) := by decide +kernel
theorem dX5_turns_305 : decode cX5_turns 305 = .ok (.iload_n 2, 1) := by decide +kernel
theorem dX5_turns_306 : decode cX5_turns 306 = .ok (.iaload, 1) := by decide +kernel
theorem dX5_turns_307 : decode cX5_turns 307 = .ok (.if_icmp .lt 23, 3) := by decide +kernel
theorem dX5_turns_310 : decode cX5_turns 310 = .ok (.iload 7, 2) := by decide +kernel
theorem dX5_turns_312 : decode cX5_turns 312 = .ok (.ifCond .eq 18, 3) := by decide +kernel
theorem dX5_turns_315 : decode cX5_turns 315 = .ok (.aload_n 0, 1) := by decide +kernel
theorem dX5_turns_316 : decode cX5_turns 316 = .ok (.iload 5, 2) := by decide +kernel
theorem dX5_turns_318 : decode cX5_turns 318 = .ok (.invokevirtual 110, 3) := by decide +kernel
theorem dX5_turns_321 : decode cX5_turns 321 = .ok (.iinc 4 (-1), 3) := by decide +kernel
theorem dX5_turns_324 : decode cX5_turns 324 = .ok (.iinc 3 1, 3) := by decide +kernel
theorem dX5_turns_327 : decode cX5_turns 327 = .ok (.goto 6, 3) := by decide +kernel
theorem dX5_turns_330 : decode cX5_turns 330 = .ok (.iinc 5 1, 3) := by decide +kernel
theorem dX5_turns_333 : decode cX5_turns 333 = .ok (.goto (-115), 3) := by decide +kernel
theorem dX5_turns_336 : decode cX5_turns 336 = .ok (.iload_n 3, 1) := by decide +kernel
theorem dX5_turns_337 : decode cX5_turns 337 = .ok (.ireturn, 1) := by decide +kernel
theorem dX5_run_0 : decode cX5_run 0 = .ok (.aload_n 0, 1) := by decide +kernel
theorem dX5_run_1 : decode cX5_run 1 = .ok (.iconst 0, 1) := by decide +kernel
theorem dX5_run_2 : decode cX5_run 2 = .ok (.putfield 71, 3) := by decide +kernel
theorem dX5_run_5 : decode cX5_run 5 = .ok (.iconst 0, 1) := by decide +kernel
theorem dX5_run_6 : decode cX5_run 6 = .ok (.istore_n 1, 1) := by decide +kernel
theorem dX5_run_7 : decode cX5_run 7 = .ok (.iconst 0, 1) := by decide +kernel
theorem dX5_run_8 : decode cX5_run 8 = .ok (.istore_n 2, 1) := by decide +kernel
theorem dX5_run_9 : decode cX5_run 9 = .ok (.iload_n 2, 1) := by decide +kernel
theorem dX5_run_10 : decode cX5_run 10 = .ok (.iconst 5, 1) := by decide +kernel
theorem dX5_run_11 : decode cX5_run 11 = .ok (.if_icmp .ge 33, 3) := by decide +kernel
theorem dX5_run_14 : decode cX5_run 14 = .ok (.aload_n 0, 1) := by decide +kernel
theorem dX5_run_15 : decode cX5_run 15 = .ok (.iload_n 2, 1) := by decide +kernel
theorem dX5_run_16 : decode cX5_run 16 = .ok (.aload_n 0, 1) := by decide +kernel
theorem dX5_run_17 : decode cX5_run 17 = .ok (.getfield 93, 3) := by decide +kernel
theorem dX5_run_20 : decode cX5_run 20 = .ok (.invokevirtual 114, 3) := by decide +kernel
theorem dX5_run_23 : decode cX5_run 23 = .ok (.ifCond .eq 15, 3) := by decide +kernel
theorem dX5_run_26 : decode cX5_run 26 = .ok (.iload_n 1, 1) := by decide +kernel
theorem dX5_run_27 : decode cX5_run 27 = .ok (.iconst 1, 1) := by decide +kernel
theorem dX5_run_28 : decode cX5_run 28 = .ok (.iload_n 2, 1) := by decide +kernel
theorem dX5_run_29 : decode cX5_run 29 = .ok (.ishl, 1) := by decide +kernel
theorem dX5_run_30 : decode cX5_run 30 = .ok (.ior, 1) := by decide +kernel
theorem dX5_run_31 : decode cX5_run 31 = .ok (.istore_n 1, 1) := by decide +kernel
theorem dX5_run_32 : decode cX5_run 32 = .ok (.aload_n 0, 1) := by decide +kernel
theorem dX5_run_33 : decode cX5_run 33 = .ok (.iload_n 2, 1) := by decide +kernel
theorem dX5_run_34 : decode cX5_run 34 = .ok (.invokevirtual 118, 3) := by decide +kernel
theorem dX5_run_37 : decode cX5_run 37 = .ok (.istore_n 3, 1) := by decide +kernel
theorem dX5_run_38 : decode cX5_run 38 = .ok (.iinc 2 1, 3) := by decide +kernel
theorem dX5_run_41 : decode cX5_run 41 = .ok (.goto (-32), 3) := by decide +kernel
theorem dX5_run_44 : decode cX5_run 44 = .ok (.iconst 0, 1) := by decide +kernel
theorem dX5_run_45 : decode cX5_run 45 = .ok (.istore_n 2, 1) := by decide +kernel
theorem dX5_run_46 : decode cX5_run 46 = .ok (.iload_n 2, 1) := by decide +kernel
theorem dX5_run_47 : decode cX5_run 47 = .ok (.iconst 3, 1) := by decide +kernel
theorem dX5_run_48 : decode cX5_run 48 = .ok (.if_icmp .ge 157, 3) := by decide +kernel
theorem dX5_run_51 : decode cX5_run 51 = .ok (.iconst 0, 1) := by decide +kernel
theorem dX5_run_52 : decode cX5_run 52 = .ok (.istore_n 3, 1) := by decide +kernel
theorem dX5_run_53 : decode cX5_run 53 = .ok (.iconst 0, 1) := by decide +kernel
theorem dX5_run_54 : decode cX5_run 54 = .ok (.istore 4, 2) := by decide +kernel
theorem dX5_run_56 : decode cX5_run 56 = .ok (.iload 4, 2) := by decide +kernel
theorem dX5_run_58 : decode cX5_run 58 = .ok (.iconst 5, 1) := by decide +kernel
theorem dX5_run_59 : decode cX5_run 59 = .ok (.if_icmp .ge 40, 3) := by decide +kernel
theorem dX5_run_62 : decode cX5_run 62 = .ok (.iload_n 3, 1) := by decide +kernel
theorem dX5_run_63 : decode cX5_run 63 = .ok (.ifCond .ne 24, 3) := by decide +kernel
theorem dX5_run_66 : decode cX5_run 66 = .ok (.aload_n 0, 1) := by decide +kernel
theorem dX5_run_67 : decode cX5_run 67 = .ok (.getfield 38, 3) := by decide +kernel
theorem dX5_run_70 : decode cX5_run 70 = .ok (.iload 4, 2) := by decide +kernel
theorem dX5_run_72 : decode cX5_run 72 = .ok (.iaload, 1) := by decide +kernel
theorem dX5_run_73 : decode cX5_run 73 = .ok (.iload_n 2, 1) := by decide +kernel
theorem dX5_run_74 : decode cX5_run 74 = .ok (.if_icmp .ne 17, 3) := by decide +kernel
theorem dX5_run_77 : decode cX5_run 77 = .ok (.iload_n 1, 1) := by decide +kernel
theorem dX5_run_78 : decode cX5_run 78 = .ok (.iload 4, 2) := by decide +kernel
theorem dX5_run_80 : decode cX5_run 80 = .ok (.ishr, 1) := by decide +kernel
theorem dX5_run_81 : decode cX5_run 81 = .ok (.iconst 1, 1) := by decide +kernel
theorem dX5_run_82 : decode cX5_run 82 = .ok (.iand, 1) := by decide +kernel
theorem dX5_run_83 : decode cX5_run 83 = .ok (.iconst 1, 1) := by decide +kernel
theorem dX5_run_84 : decode cX5_run 84 = .ok (.if_icmp .ne 7, 3) := by decide +kernel
theorem dX5_run_87 : decode cX5_run 87 = .ok (.iconst 1, 1) := by decide +kernel
theorem dX5_run_88 : decode cX5_run 88 = .ok (.goto 4, 3) := by decide +kernel
theorem dX5_run_91 : decode cX5_run 91 = .ok (.iconst 0, 1) := by decide +kernel
theorem dX5_run_92 : decode cX5_run 92 = .ok (.istore_n 3, 1) := by decide +kernel
theorem dX5_run_93 : decode cX5_run 93 = .ok (.iinc 4 1, 3) := by decide +kernel
theorem dX5_run_96 : decode cX5_run 96 = .ok (.goto (-40), 3) := by decide +kernel
theorem dX5_run_99 : decode cX5_run 99 = .ok (.iconst 0, 1) := by decide +kernel
theorem dX5_run_100 : decode cX5_run 100 = .ok (.istore 4, 2) := by decide +kernel
theorem dX5_run_102 : decode cX5_run 102 = .ok (.iload 4, 2) := by decide +kernel
theorem dX5_run_104 : decode cX5_run 104 = .ok (.iconst 4, 1) := by decide +kernel
theorem dX5_run_105 : decode cX5_run 105 = .ok (.if_icmp .ge 94, 3) := by decide +kernel
theorem dX5_run_108 : decode cX5_run 108 = .ok (.iload_n 3, 1) := by decide +kernel
theorem dX5_run_109 : decode cX5_run 109 = .ok (.ifCond .eq 58, 3) := by decide +kernel
theorem dX5_run_112 : decode cX5_run 112 = .ok (.aload_n 0, 1) := by decide +kernel
theorem dX5_run_113 : decode cX5_run 113 = .ok (.getfield 35, 3) := by decide +kernel
theorem dX5_run_116 : decode cX5_run 116 = .ok (.iload_n 2, 1) := by decide +kernel
theorem dX5_run_117 : decode cX5_run 117 = .ok (.baload, 1) := by decide +kernel
theorem dX5_run_118 : decode cX5_run 118 = .ok (.ifCond .eq 49, 3) := by decide +kernel
theorem dX5_run_121 : decode cX5_run 121 = .ok (.aload_n 0, 1) := by decide +kernel
theorem dX5_run_122 : decode cX5_run 122 = .ok (.getfield 65, 3) := by decide +kernel
theorem dX5_run_125 : decode cX5_run 125 = .ok (.iload 4, 2) := by decide +kernel
theorem dX5_run_127 : decode cX5_run 127 = .ok (.iaload, 1) := by decide +kernel
theorem dX5_run_128 : decode cX5_run 128 = .ok (.iconst (-1), 1) := by decide +kernel
theorem dX5_run_129 : decode cX5_run 129 = .ok (.if_icmp .eq 38, 3) := by decide +kernel
theorem dX5_run_132 : decode cX5_run 132 = .ok (.aload_n 0, 1) := by decide +kernel
theorem dX5_run_133 : decode cX5_run 133 = .ok (.getfield 38, 3) := by decide +kernel
theorem dX5_run_136 : decode cX5_run 136 = .ok (.aload_n 0, 1) := by decide +kernel
theorem dX5_run_137 : decode cX5_run 137 = .ok (.getfield 65, 3) := by decide +kernel
theorem dX5_run_140 : decode cX5_run 140 = .ok (.iload 4, 2) := by decide +kernel
theorem dX5_run_142 : decode cX5_run 142 = .ok (.iaload, 1) := by decide +kernel
theorem dX5_run_143 : decode cX5_run 143 = .ok (.iconst (-1), 1) := by decide +kernel
theorem dX5_run_144 : decode cX5_run 144 = .ok (.if_icmp .ne 7, 3) := by decide +kernel
theorem dX5_run_147 : decode cX5_run 147 = .ok (.iconst 0, 1) := by decide +kernel
theorem dX5_run_148 : decode cX5_run 148 = .ok (.goto 10, 3) := by decide +kernel
theorem dX5_run_151 : decode cX5_run 151 = .ok (.aload_n 0, 1) := by decide +kernel
theorem dX5_run_152 : decode cX5_run 152 = .ok (.getfield 65, 3) := by decide +kernel
theorem dX5_run_155 : decode cX5_run 155 = .ok (.iload 4, 2) := by decide +kernel
theorem dX5_run_157 : decode cX5_run 157 = .ok (.iaload, 1) := by decide +kernel
theorem dX5_run_158 : decode cX5_run 158 = .ok (.iaload, 1) := by decide +kernel
theorem dX5_run_159 : decode cX5_run 159 = .ok (.iload_n 2, 1) := by decide +kernel
theorem dX5_run_160 : decode cX5_run 160 = .ok (.if_icmp .ne 7, 3) := by decide +kernel
theorem dX5_run_163 : decode cX5_run 163 = .ok (.iconst 1, 1) := by decide +kernel
theorem dX5_run_164 : decode cX5_run 164 = .ok (.goto 4, 3) := by decide +kernel
theorem dX5_run_167 : decode cX5_run 167 = .ok (.iconst 0, 1) := by decide +kernel
theorem dX5_run_168 : decode cX5_run 168 = .ok (.istore 5, 2) := by decide +kernel
theorem dX5_run_170 : decode cX5_run 170 = .ok (.aload_n 0, 1) := by decide +kernel
theorem dX5_run_171 : decode cX5_run 171 = .ok (.getfield 68, 3) := by decide +kernel
theorem dX5_run_174 : decode cX5_run 174 = .ok (.iload 4, 2) := by decide +kernel
theorem dX5_run_176 : decode cX5_run 176 = .ok (.iload 5, 2) := by decide +kernel
theorem dX5_run_178 : decode cX5_run 178 = .ok (.ifCond .eq 7, 3) := by decide +kernel
theorem dX5_run_181 : decode cX5_run 181 = .ok (.iconst (-1), 1) := by decide +kernel
theorem dX5_run_182 : decode cX5_run 182 = .ok (.goto 10, 3) := by decide +kernel
theorem dX5_run_185 : decode cX5_run 185 = .ok (.aload_n 0, 1) := by decide +kernel
theorem dX5_run_186 : decode cX5_run 186 = .ok (.getfield 68, 3) := by decide +kernel
theorem dX5_run_189 : decode cX5_run 189 = .ok (.iload 4, 2) := by decide +kernel
theorem dX5_run_191 : decode cX5_run 191 = .ok (.iaload, 1) := by decide +kernel
theorem dX5_run_192 : decode cX5_run 192 = .ok (.iastore, 1) := by decide +kernel
theorem dX5_run_193 : decode cX5_run 193 = .ok (.iinc 4 1, 3) := by decide +kernel
theorem dX5_run_196 : decode cX5_run 196 = .ok (.goto (-94), 3) := by decide +kernel
theorem dX5_run_199 : decode cX5_run 199 = .ok (.iinc 2 1, 3) := by decide +kernel
theorem dX5_run_202 : decode cX5_run 202 = .ok (.goto (-156), 3) := by decide +kernel
theorem dX5_run_205 : decode cX5_run 205 = .ok (.iload_n 1, 1) := by decide +kernel
theorem dX5_run_206 : decode cX5_run 206 = .ok (.ireturn, 1) := by decide +kernel
theorem dX5_turn_0 : decode cX5_turn 0 = .ok (.aload_n 0, 1) := by decide +kernel
theorem dX5_turn_1 : decode cX5_turn 1 = .ok (.iload_n 1, 1) := by decide +kernel
theorem dX5_turn_2 : decode cX5_turn 2 = .ok (.invokestatic 87, 3) := by decide +kernel
theorem dX5_turn_5 : decode cX5_turn 5 = .ok (.iconst 1, 1) := by decide +kernel
theorem dX5_turn_6 : decode cX5_turn 6 = .ok (.iconst 1, 1) := by decide +kernel
theorem dX5_turn_7 : decode cX5_turn 7 = .ok (.invokevirtual 83, 3) := by decide +kernel
theorem dX5_turn_10 : decode cX5_turn 10 = .ok (.ifCond .eq 11, 3) := by decide +kernel
theorem dX5_turn_13 : decode cX5_turn 13 = .ok (.aload_n 0, 1) := by decide +kernel
theorem dX5_turn_14 : decode cX5_turn 14 = .ok (.iload_n 1, 1) := by decide +kernel
theorem dX5_turn_15 : decode cX5_turn 15 = .ok (.invokevirtual 118, 3) := by decide +kernel
theorem dX5_turn_18 : decode cX5_turn 18 = .ok (.goto 4, 3) := by decide +kernel
theorem dX5_turn_21 : decode cX5_turn 21 = .ok (.iconst 0, 1) := by decide +kernel
theorem dX5_turn_22 : decode cX5_turn 22 = .ok (.ireturn, 1) := by decide +kernel
theorem dX5_lose_0 : decode cX5_lose 0 = .ok (.aload_n 0, 1) := by decide +kernel
theorem dX5_lose_1 : decode cX5_lose 1 = .ok (.iload_n 1, 1) := by decide +kernel
theorem dX5_lose_2 : decode cX5_lose 2 = .ok (.invokestatic 87, 3) := by decide +kernel
theorem dX5_lose_5 : decode cX5_lose 5 = .ok (.iconst 1, 1) := by decide +kernel
theorem dX5_lose_6 : decode cX5_lose 6 = .ok (.iconst 1, 1) := by decide +kernel
theorem dX5_lose_7 : decode cX5_lose 7 = .ok (.invokevirtual 83, 3) := by decide +kernel
theorem dX5_lose_10 : decode cX5_lose 10 = .ok (.ifCond .ne 5, 3) := by decide +kernel
theorem dX5_lose_13 : decode cX5_lose 13 = .ok (.iconst 0, 1) := by decide +kernel
theorem dX5_lose_14 : decode cX5_lose 14 = .ok (.ireturn, 1) := by decide +kernel
theorem dX5_lose_15 : decode cX5_lose 15 = .ok (.aload_n 0, 1) := by decide +kernel
theorem dX5_lose_16 : decode cX5_lose 16 = .ok (.getfield 44, 3) := by decide +kernel
theorem dX5_lose_19 : decode cX5_lose 19 = .ok (.iload_n 1, 1) := by decide +kernel
theorem dX5_lose_20 : decode cX5_lose 20 = .ok (.iaload, 1) := by decide +kernel
theorem dX5_lose_21 : decode cX5_lose 21 = .ok (.istore_n 2, 1) := by decide +kernel
theorem dX5_lose_22 : decode cX5_lose 22 = .ok (.aload_n 0, 1) := by decide +kernel
theorem dX5_lose_23 : decode cX5_lose 23 = .ok (.getfield 44, 3) := by decide +kernel
theorem dX5_lose_26 : decode cX5_lose 26 = .ok (.iload_n 1, 1) := by decide +kernel
theorem dX5_lose_27 : decode cX5_lose 27 = .ok (.aload_n 0, 1) := by decide +kernel
theorem dX5_lose_28 : decode cX5_lose 28 = .ok (.getfield 93, 3) := by decide +kernel
theorem dX5_lose_31 : decode cX5_lose 31 = .ok (.iastore, 1) := by decide +kernel
theorem dX5_lose_32 : decode cX5_lose 32 = .ok (.aload_n 0, 1) := by decide +kernel
theorem dX5_lose_33 : decode cX5_lose 33 = .ok (.getfield 47, 3) := by decide +kernel
theorem dX5_lose_36 : decode cX5_lose 36 = .ok (.iload_n 1, 1) := by decide +kernel
theorem dX5_lose_37 : decode cX5_lose 37 = .ok (.iconst 1, 1) := by decide +kernel
theorem dX5_lose_38 : decode cX5_lose 38 = .ok (.bastore, 1) := by decide +kernel
theorem dX5_lose_39 : decode cX5_lose 39 = .ok (.iload_n 2, 1) := by decide +kernel
theorem dX5_lose_40 : decode cX5_lose 40 = .ok (.ireturn, 1) := by decide +kernel
theorem dX5_day_0 : decode cX5_day 0 = .ok (.aload_n 0, 1) := by decide +kernel
theorem dX5_day_1 : decode cX5_day 1 = .ok (.iconst 0, 1) := by decide +kernel
theorem dX5_day_2 : decode cX5_day 2 = .ok (.putfield 71, 3) := by decide +kernel
theorem dX5_day_5 : decode cX5_day 5 = .ok (.aload_n 0, 1) := by decide +kernel
theorem dX5_day_6 : decode cX5_day 6 = .ok (.getfield 93, 3) := by decide +kernel
theorem dX5_day_9 : decode cX5_day 9 = .ok (.ireturn, 1) := by decide +kernel
theorem dX5_isDue_0 : decode cX5_isDue 0 = .ok (.aload_n 0, 1) := by decide +kernel
theorem dX5_isDue_1 : decode cX5_isDue 1 = .ok (.iload_n 1, 1) := by decide +kernel
theorem dX5_isDue_2 : decode cX5_isDue 2 = .ok (.invokestatic 87, 3) := by decide +kernel
theorem dX5_isDue_5 : decode cX5_isDue 5 = .ok (.iconst 1, 1) := by decide +kernel
theorem dX5_isDue_6 : decode cX5_isDue 6 = .ok (.iconst 1, 1) := by decide +kernel
theorem dX5_isDue_7 : decode cX5_isDue 7 = .ok (.invokevirtual 83, 3) := by decide +kernel
theorem dX5_isDue_10 : decode cX5_isDue 10 = .ok (.ifCond .eq 19, 3) := by decide +kernel
theorem dX5_isDue_13 : decode cX5_isDue 13 = .ok (.aload_n 0, 1) := by decide +kernel
theorem dX5_isDue_14 : decode cX5_isDue 14 = .ok (.iload_n 1, 1) := by decide +kernel
theorem dX5_isDue_15 : decode cX5_isDue 15 = .ok (.aload_n 0, 1) := by decide +kernel
theorem dX5_isDue_16 : decode cX5_isDue 16 = .ok (.getfield 93, 3) := by decide +kernel
theorem dX5_isDue_19 : decode cX5_isDue 19 = .ok (.invokevirtual 114, 3) := by decide +kernel
theorem dX5_isDue_22 : decode cX5_isDue 22 = .ok (.ifCond .eq 7, 3) := by decide +kernel
theorem dX5_isDue_25 : decode cX5_isDue 25 = .ok (.iconst 1, 1) := by decide +kernel
theorem dX5_isDue_26 : decode cX5_isDue 26 = .ok (.goto 4, 3) := by decide +kernel
theorem dX5_isDue_29 : decode cX5_isDue 29 = .ok (.iconst 0, 1) := by decide +kernel
theorem dX5_isDue_30 : decode cX5_isDue 30 = .ok (.ireturn, 1) := by decide +kernel
theorem dX5_nextDue_0 : decode cX5_nextDue 0 = .ok (.aload_n 0, 1) := by decide +kernel
theorem dX5_nextDue_1 : decode cX5_nextDue 1 = .ok (.iload_n 1, 1) := by decide +kernel
theorem dX5_nextDue_2 : decode cX5_nextDue 2 = .ok (.invokestatic 87, 3) := by decide +kernel
theorem dX5_nextDue_5 : decode cX5_nextDue 5 = .ok (.iconst 1, 1) := by decide +kernel
theorem dX5_nextDue_6 : decode cX5_nextDue 6 = .ok (.iconst 1, 1) := by decide +kernel
theorem dX5_nextDue_7 : decode cX5_nextDue 7 = .ok (.invokevirtual 83, 3) := by decide +kernel
theorem dX5_nextDue_10 : decode cX5_nextDue 10 = .ok (.ifCond .ne 5, 3) := by decide +kernel
theorem dX5_nextDue_13 : decode cX5_nextDue 13 = .ok (.iconst 0, 1) := by decide +kernel
theorem dX5_nextDue_14 : decode cX5_nextDue 14 = .ok (.ireturn, 1) := by decide +kernel
theorem dX5_nextDue_15 : decode cX5_nextDue 15 = .ok (.aload_n 0, 1) := by decide +kernel
theorem dX5_nextDue_16 : decode cX5_nextDue 16 = .ok (.getfield 93, 3) := by decide +kernel
theorem dX5_nextDue_19 : decode cX5_nextDue 19 = .ok (.istore_n 2, 1) := by decide +kernel
theorem dX5_nextDue_20 : decode cX5_nextDue 20 = .ok (.iload_n 2, 1) := by decide +kernel
theorem dX5_nextDue_21 : decode cX5_nextDue 21 = .ok (.aload_n 0, 1) := by decide +kernel
theorem dX5_nextDue_22 : decode cX5_nextDue 22 = .ok (.getfield 93, 3) := by decide +kernel
theorem dX5_nextDue_25 : decode cX5_nextDue 25 = .ok (.sipush 200, 3) := by decide +kernel
theorem dX5_nextDue_28 : decode cX5_nextDue 28 = .ok (.iadd, 1) := by decide +kernel
theorem dX5_nextDue_29 : decode cX5_nextDue 29 = .ok (.if_icmp .gt 20, 3) := by decide +kernel
theorem dX5_nextDue_32 : decode cX5_nextDue 32 = .ok (.aload_n 0, 1) := by decide +kernel
theorem dX5_nextDue_33 : decode cX5_nextDue 33 = .ok (.iload_n 1, 1) := by decide +kernel
theorem dX5_nextDue_34 : decode cX5_nextDue 34 = .ok (.iload_n 2, 1) := by decide +kernel
theorem dX5_nextDue_35 : decode cX5_nextDue 35 = .ok (.invokevirtual 114, 3) := by decide +kernel
theorem dX5_nextDue_38 : decode cX5_nextDue 38 = .ok (.ifCond .eq 5, 3) := by decide +kernel
theorem dX5_nextDue_41 : decode cX5_nextDue 41 = .ok (.iload_n 2, 1) := by decide +kernel
theorem dX5_nextDue_42 : decode cX5_nextDue 42 = .ok (.ireturn, 1) := by decide +kernel
theorem dX5_nextDue_43 : decode cX5_nextDue 43 = .ok (.iinc 2 1, 3) := by decide +kernel
theorem dX5_nextDue_46 : decode cX5_nextDue 46 = .ok (.goto (-26), 3) := by decide +kernel
theorem dX5_nextDue_49 : decode cX5_nextDue 49 = .ok (.iconst (-1), 1) := by decide +kernel
theorem dX5_nextDue_50 : decode cX5_nextDue 50 = .ok (.ireturn, 1) := by decide +kernel
theorem dX5_live_0 : decode cX5_live 0 = .ok (.aload_n 0, 1) := by decide +kernel
theorem dX5_live_1 : decode cX5_live 1 = .ok (.iload_n 1, 1) := by decide +kernel
theorem dX5_live_2 : decode cX5_live 2 = .ok (.invokestatic 87, 3) := by decide +kernel
theorem dX5_live_5 : decode cX5_live 5 = .ok (.iconst 1, 1) := by decide +kernel
theorem dX5_live_6 : decode cX5_live 6 = .ok (.iconst 1, 1) := by decide +kernel
theorem dX5_live_7 : decode cX5_live 7 = .ok (.invokevirtual 83, 3) := by decide +kernel
theorem dX5_live_10 : decode cX5_live 10 = .ok (.ifCond .eq 12, 3) := by decide +kernel
theorem dX5_live_13 : decode cX5_live 13 = .ok (.aload_n 0, 1) := by decide +kernel
theorem dX5_live_14 : decode cX5_live 14 = .ok (.getfield 41, 3) := by decide +kernel
theorem dX5_live_17 : decode cX5_live 17 = .ok (.iload_n 1, 1) := by decide +kernel
theorem dX5_live_18 : decode cX5_live 18 = .ok (.iaload, 1) := by decide +kernel
theorem dX5_live_19 : decode cX5_live 19 = .ok (.goto 4, 3) := by decide +kernel
theorem dX5_live_22 : decode cX5_live 22 = .ok (.iconst 0, 1) := by decide +kernel
theorem dX5_live_23 : decode cX5_live 23 = .ok (.ireturn, 1) := by decide +kernel
theorem dX5_olds_0 : decode cX5_olds 0 = .ok (.aload_n 0, 1) := by decide +kernel
theorem dX5_olds_1 : decode cX5_olds 1 = .ok (.iload_n 1, 1) := by decide +kernel
theorem dX5_olds_2 : decode cX5_olds 2 = .ok (.invokestatic 87, 3) := by decide +kernel
theorem dX5_olds_5 : decode cX5_olds 5 = .ok (.iconst 1, 1) := by decide +kernel
theorem dX5_olds_6 : decode cX5_olds 6 = .ok (.iconst 1, 1) := by decide +kernel
theorem dX5_olds_7 : decode cX5_olds 7 = .ok (.invokevirtual 83, 3) := by decide +kernel
theorem dX5_olds_10 : decode cX5_olds 10 = .ok (.ifCond .eq 11, 3) := by decide +kernel
theorem dX5_olds_13 : decode cX5_olds 13 = .ok (.aload_n 0, 1) := by decide +kernel
theorem dX5_olds_14 : decode cX5_olds 14 = .ok (.iload_n 1, 1) := by decide +kernel
theorem dX5_olds_15 : decode cX5_olds 15 = .ok (.invokevirtual 106, 3) := by decide +kernel
theorem dX5_olds_18 : decode cX5_olds 18 = .ok (.goto 4, 3) := by decide +kernel
theorem dX5_olds_21 : decode cX5_olds 21 = .ok (.iconst 0, 1) := by decide +kernel
theorem dX5_olds_22 : decode cX5_olds 22 = .ok (.ireturn, 1) := by decide +kernel
theorem dX5_placeOf_0 : decode cX5_placeOf 0 = .ok (.iconst (-1), 1) := by decide +kernel
theorem dX5_placeOf_1 : decode cX5_placeOf 1 = .ok (.istore_n 3, 1) := by decide +kernel
theorem dX5_placeOf_2 : decode cX5_placeOf 2 = .ok (.iload_n 2, 1) := by decide +kernel
theorem dX5_placeOf_3 : decode cX5_placeOf 3 = .ok (.istore 4, 2) := by decide +kernel
theorem dX5_placeOf_5 : decode cX5_placeOf 5 = .ok (.iconst 0, 1) := by decide +kernel
theorem dX5_placeOf_6 : decode cX5_placeOf 6 = .ok (.istore 5, 2) := by decide +kernel
theorem dX5_placeOf_8 : decode cX5_placeOf 8 = .ok (.iload 5, 2) := by decide +kernel
theorem dX5_placeOf_10 : decode cX5_placeOf 10 = .ok (.aload_n 0, 1) := by decide +kernel
theorem dX5_placeOf_11 : decode cX5_placeOf 11 = .ok (.getfield 100, 3) := by decide +kernel
theorem dX5_placeOf_14 : decode cX5_placeOf 14 = .ok (.if_icmp .ge 35, 3) := by decide +kernel
theorem dX5_placeOf_17 : decode cX5_placeOf 17 = .ok (.aload_n 0, 1) := by decide +kernel
theorem dX5_placeOf_18 : decode cX5_placeOf 18 = .ok (.getfield 53, 3) := by decide +kernel
theorem dX5_placeOf_21 : decode cX5_placeOf 21 = .ok (.iload 5, 2) := by decide +kernel
theorem dX5_placeOf_23 : decode cX5_placeOf 23 = .ok (.iaload, 1) := by decide +kernel
theorem dX5_placeOf_24 : decode cX5_placeOf 24 = .ok (.iload_n 1, 1) := by decide +kernel
theorem dX5_placeOf_25 : decode cX5_placeOf 25 = .ok (.if_icmp .ne 18, 3) := by decide +kernel
theorem dX5_placeOf_28 : decode cX5_placeOf 28 = .ok (.iload 4, 2) := by decide +kernel
theorem dX5_placeOf_30 : decode cX5_placeOf 30 = .ok (.ifCond .ne 8, 3) := by decide +kernel
theorem dX5_placeOf_33 : decode cX5_placeOf 33 = .ok (.iload 5, 2) := by decide +kernel
theorem dX5_placeOf_35 : decode cX5_placeOf 35 = .ok (.goto 4, 3) := by decide +kernel
theorem dX5_placeOf_38 : decode cX5_placeOf 38 = .ok (.iload_n 3, 1) := by decide +kernel
theorem dX5_placeOf_39 : decode cX5_placeOf 39 = .ok (.istore_n 3, 1) := by decide +kernel
theorem dX5_placeOf_40 : decode cX5_placeOf 40 = .ok (.iinc 4 (-1), 3) := by decide +kernel
theorem dX5_placeOf_43 : decode cX5_placeOf 43 = .ok (.iinc 5 1, 3) := by decide +kernel
theorem dX5_placeOf_46 : decode cX5_placeOf 46 = .ok (.goto (-38), 3) := by decide +kernel
theorem dX5_placeOf_49 : decode cX5_placeOf 49 = .ok (.iload_n 3, 1) := by decide +kernel
theorem dX5_placeOf_50 : decode cX5_placeOf 50 = .ok (.ireturn, 1) := by decide +kernel
theorem dX5_lines_0 : decode cX5_lines 0 = .ok (.aload_n 0, 1) := by decide +kernel
theorem dX5_lines_1 : decode cX5_lines 1 = .ok (.iload_n 1, 1) := by decide +kernel
theorem dX5_lines_2 : decode cX5_lines 2 = .ok (.iload_n 2, 1) := by decide +kernel
theorem dX5_lines_3 : decode cX5_lines 3 = .ok (.invokevirtual 121, 3) := by decide +kernel
theorem dX5_lines_6 : decode cX5_lines 6 = .ok (.istore_n 3, 1) := by decide +kernel
theorem dX5_lines_7 : decode cX5_lines 7 = .ok (.aload_n 0, 1) := by decide +kernel
theorem dX5_lines_8 : decode cX5_lines 8 = .ok (.iload_n 3, 1) := by decide +kernel
theorem dX5_lines_9 : decode cX5_lines 9 = .ok (.iconst (-1), 1) := by decide +kernel
theorem dX5_lines_10 : decode cX5_lines 10 = .ok (.if_icmp .eq 7, 3) := by decide +kernel
theorem dX5_lines_13 : decode cX5_lines 13 = .ok (.iconst 1, 1) := by decide +kernel
theorem dX5_lines_14 : decode cX5_lines 14 = .ok (.goto 4, 3) := by decide +kernel
theorem dX5_lines_17 : decode cX5_lines 17 = .ok (.iconst 0, 1) := by decide +kernel
theorem dX5_lines_18 : decode cX5_lines 18 = .ok (.iconst 1, 1) := by decide +kernel
theorem dX5_lines_19 : decode cX5_lines 19 = .ok (.iconst 1, 1) := by decide +kernel
theorem dX5_lines_20 : decode cX5_lines 20 = .ok (.invokevirtual 83, 3) := by decide +kernel
theorem dX5_lines_23 : decode cX5_lines 23 = .ok (.ifCond .eq 12, 3) := by decide +kernel
theorem dX5_lines_26 : decode cX5_lines 26 = .ok (.aload_n 0, 1) := by decide +kernel
theorem dX5_lines_27 : decode cX5_lines 27 = .ok (.getfield 56, 3) := by decide +kernel
theorem dX5_lines_30 : decode cX5_lines 30 = .ok (.iload_n 3, 1) := by decide +kernel
theorem dX5_lines_31 : decode cX5_lines 31 = .ok (.iaload, 1) := by decide +kernel
theorem dX5_lines_32 : decode cX5_lines 32 = .ok (.goto 4, 3) := by decide +kernel
theorem dX5_lines_35 : decode cX5_lines 35 = .ok (.iconst 0, 1) := by decide +kernel
theorem dX5_lines_36 : decode cX5_lines 36 = .ok (.ireturn, 1) := by decide +kernel
theorem dX5_name_0 : decode cX5_name 0 = .ok (.aload_n 0, 1) := by decide +kernel
theorem dX5_name_1 : decode cX5_name 1 = .ok (.iload_n 1, 1) := by decide +kernel
theorem dX5_name_2 : decode cX5_name 2 = .ok (.iload_n 2, 1) := by decide +kernel
theorem dX5_name_3 : decode cX5_name 3 = .ok (.invokevirtual 121, 3) := by decide +kernel
theorem dX5_name_6 : decode cX5_name 6 = .ok (.istore_n 3, 1) := by decide +kernel
theorem dX5_name_7 : decode cX5_name 7 = .ok (.aload_n 0, 1) := by decide +kernel
theorem dX5_name_8 : decode cX5_name 8 = .ok (.iload_n 3, 1) := by decide +kernel
theorem dX5_name_9 : decode cX5_name 9 = .ok (.iconst (-1), 1) := by decide +kernel
theorem dX5_name_10 : decode cX5_name 10 = .ok (.if_icmp .eq 7, 3) := by decide +kernel
theorem dX5_name_13 : decode cX5_name 13 = .ok (.iconst 1, 1) := by decide +kernel
theorem dX5_name_14 : decode cX5_name 14 = .ok (.goto 4, 3) := by decide +kernel
theorem dX5_name_17 : decode cX5_name 17 = .ok (.iconst 0, 1) := by decide +kernel
theorem dX5_name_18 : decode cX5_name 18 = .ok (.iconst 1, 1) := by decide +kernel
theorem dX5_name_19 : decode cX5_name 19 = .ok (.iconst 1, 1) := by decide +kernel
theorem dX5_name_20 : decode cX5_name 20 = .ok (.invokevirtual 83, 3) := by decide +kernel
theorem dX5_name_23 : decode cX5_name 23 = .ok (.ifCond .ne 5, 3) := by decide +kernel
theorem dX5_name_26 : decode cX5_name 26 = .ok (.iconst 0, 1) := by decide +kernel
theorem dX5_name_27 : decode cX5_name 27 = .ok (.ireturn, 1) := by decide +kernel
theorem dX5_name_28 : decode cX5_name 28 = .ok (.aload_n 0, 1) := by decide +kernel
theorem dX5_name_29 : decode cX5_name 29 = .ok (.getfield 32, 3) := by decide +kernel
theorem dX5_name_32 : decode cX5_name 32 = .ok (.aload_n 0, 1) := by decide +kernel
theorem dX5_name_33 : decode cX5_name 33 = .ok (.getfield 38, 3) := by decide +kernel
theorem dX5_name_36 : decode cX5_name 36 = .ok (.iload_n 1, 1) := by decide +kernel
theorem dX5_name_37 : decode cX5_name 37 = .ok (.iaload, 1) := by decide +kernel
theorem dX5_name_38 : decode cX5_name 38 = .ok (.baload, 1) := by decide +kernel
theorem dX5_name_39 : decode cX5_name 39 = .ok (.ifCond .ne 11, 3) := by decide +kernel
theorem dX5_name_42 : decode cX5_name 42 = .ok (.aload_n 0, 1) := by decide +kernel
theorem dX5_name_43 : decode cX5_name 43 = .ok (.iload_n 1, 1) := by decide +kernel
theorem dX5_name_44 : decode cX5_name 44 = .ok (.invokevirtual 106, 3) := by decide +kernel
theorem dX5_name_47 : decode cX5_name 47 = .ok (.iload_n 2, 1) := by decide +kernel
theorem dX5_name_48 : decode cX5_name 48 = .ok (.isub, 1) := by decide +kernel
theorem dX5_name_49 : decode cX5_name 49 = .ok (.ireturn, 1) := by decide +kernel
theorem dX5_name_50 : decode cX5_name 50 = .ok (.iconst 0, 1) := by decide +kernel
theorem dX5_name_51 : decode cX5_name 51 = .ok (.istore 4, 2) := by decide +kernel
theorem dX5_name_53 : decode cX5_name 53 = .ok (.iconst 0, 1) := by decide +kernel
theorem dX5_name_54 : decode cX5_name 54 = .ok (.istore 5, 2) := by decide +kernel
theorem dX5_name_56 : decode cX5_name 56 = .ok (.iload 5, 2) := by decide +kernel
theorem dX5_name_58 : decode cX5_name 58 = .ok (.iload_n 3, 1) := by decide +kernel
theorem dX5_name_59 : decode cX5_name 59 = .ok (.if_icmp .ge 46, 3) := by decide +kernel
theorem dX5_name_62 : decode cX5_name 62 = .ok (.iload 4, 2) := by decide +kernel
theorem dX5_name_64 : decode cX5_name 64 = .ok (.aload_n 0, 1) := by decide +kernel
theorem dX5_name_65 : decode cX5_name 65 = .ok (.getfield 53, 3) := by decide +kernel
theorem dX5_name_68 : decode cX5_name 68 = .ok (.iload 5, 2) := by decide +kernel
theorem dX5_name_70 : decode cX5_name 70 = .ok (.iaload, 1) := by decide +kernel
theorem dX5_name_71 : decode cX5_name 71 = .ok (.iload_n 1, 1) := by decide +kernel
theorem dX5_name_72 : decode cX5_name 72 = .ok (.if_icmp .ne 23, 3) := by decide +kernel
theorem dX5_name_75 : decode cX5_name 75 = .ok (.aload_n 0, 1) := by decide +kernel
theorem dX5_name_76 : decode cX5_name 76 = .ok (.getfield 59, 3) := by decide +kernel
theorem dX5_name_79 : decode cX5_name 79 = .ok (.iload 5, 2) := by decide +kernel
theorem dX5_name_81 : decode cX5_name 81 = .ok (.iaload, 1) := by decide +kernel
theorem dX5_name_82 : decode cX5_name 82 = .ok (.aload_n 0, 1) := by decide +kernel
theorem dX5_name_83 : decode cX5_name 83 = .ok (.getfield 59, 3) := by decide +kernel
theorem dX5_name_86 : decode cX5_name 86 = .ok (.iload_n 3, 1) := by decide +kernel
theorem dX5_name_87 : decode cX5_name 87 = .ok (.iaload, 1) := by decide +kernel
theorem dX5_name_88 : decode cX5_name 88 = .ok (.if_icmp .ne 7, 3) := by decide +kernel
theorem dX5_name_91 : decode cX5_name 91 = .ok (.iconst 1, 1) := by decide +kernel
theorem dX5_name_92 : decode cX5_name 92 = .ok (.goto 4, 3) := by decide +kernel
theorem dX5_name_95 : decode cX5_name 95 = .ok (.iconst 0, 1) := by decide +kernel
theorem dX5_name_96 : decode cX5_name 96 = .ok (.iadd, 1) := by decide +kernel
theorem dX5_name_97 : decode cX5_name 97 = .ok (.istore 4, 2) := by decide +kernel
theorem dX5_name_99 : decode cX5_name 99 = .ok (.iinc 5 1, 3) := by decide +kernel
theorem dX5_name_102 : decode cX5_name 102 = .ok (.goto (-46), 3) := by decide +kernel
theorem dX5_name_105 : decode cX5_name 105 = .ok (.sipush 1000, 3) := by decide +kernel
theorem dX5_name_108 : decode cX5_name 108 = .ok (.aload_n 0, 1) := by decide +kernel
theorem dX5_name_109 : decode cX5_name 109 = .ok (.getfield 59, 3) := by decide +kernel
theorem dX5_name_112 : decode cX5_name 112 = .ok (.iload_n 3, 1) := by decide +kernel
theorem dX5_name_113 : decode cX5_name 113 = .ok (.iaload, 1) := by decide +kernel
theorem dX5_name_114 : decode cX5_name 114 = .ok (.imul, 1) := by decide +kernel
theorem dX5_name_115 : decode cX5_name 115 = .ok (.iload 4, 2) := by decide +kernel
theorem dX5_name_117 : decode cX5_name 117 = .ok (.iadd, 1) := by decide +kernel
theorem dX5_name_118 : decode cX5_name 118 = .ok (.ireturn, 1) := by decide +kernel
theorem dX5_isSqueezed_0 : decode cX5_isSqueezed 0 = .ok (.aload_n 0, 1) := by decide +kernel
theorem dX5_isSqueezed_1 : decode cX5_isSqueezed 1 = .ok (.iload_n 1, 1) := by decide +kernel
theorem dX5_isSqueezed_2 : decode cX5_isSqueezed 2 = .ok (.iload_n 2, 1) := by decide +kernel
theorem dX5_isSqueezed_3 : decode cX5_isSqueezed 3 = .ok (.invokevirtual 121, 3) := by decide +kernel
theorem dX5_isSqueezed_6 : decode cX5_isSqueezed 6 = .ok (.istore_n 3, 1) := by decide +kernel
theorem dX5_isSqueezed_7 : decode cX5_isSqueezed 7 = .ok (.aload_n 0, 1) := by decide +kernel
theorem dX5_isSqueezed_8 : decode cX5_isSqueezed 8 = .ok (.iload_n 3, 1) := by decide +kernel
theorem dX5_isSqueezed_9 : decode cX5_isSqueezed 9 = .ok (.iconst (-1), 1) := by decide +kernel
theorem dX5_isSqueezed_10 : decode cX5_isSqueezed 10 = .ok (.if_icmp .eq 7, 3) := by decide +kernel
theorem dX5_isSqueezed_13 : decode cX5_isSqueezed 13 = .ok (.iconst 1, 1) := by decide +kernel
theorem dX5_isSqueezed_14 : decode cX5_isSqueezed 14 = .ok (.goto 4, 3) := by decide +kernel
theorem dX5_isSqueezed_17 : decode cX5_isSqueezed 17 = .ok (.iconst 0, 1) := by decide +kernel
theorem dX5_isSqueezed_18 : decode cX5_isSqueezed 18 = .ok (.iconst 1, 1) := by decide +kernel
theorem dX5_isSqueezed_19 : decode cX5_isSqueezed 19 = .ok (.iconst 1, 1) := by decide +kernel
theorem dX5_isSqueezed_20 : decode cX5_isSqueezed 20 = .ok (.invokevirtual 83, 3) := by decide +kernel
theorem dX5_isSqueezed_23 : decode cX5_isSqueezed 23 = .ok (.ifCond .eq 16, 3) := by decide +kernel
theorem dX5_isSqueezed_26 : decode cX5_isSqueezed 26 = .ok (.aload_n 0, 1) := by decide +kernel
theorem dX5_isSqueezed_27 : decode cX5_isSqueezed 27 = .ok (.getfield 62, 3) := by decide +kernel
theorem dX5_isSqueezed_30 : decode cX5_isSqueezed 30 = .ok (.iload_n 3, 1) := by decide +kernel
theorem dX5_isSqueezed_31 : decode cX5_isSqueezed 31 = .ok (.baload, 1) := by decide +kernel
theorem dX5_isSqueezed_32 : decode cX5_isSqueezed 32 = .ok (.ifCond .eq 7, 3) := by decide +kernel
theorem dX5_isSqueezed_35 : decode cX5_isSqueezed 35 = .ok (.iconst 1, 1) := by decide +kernel
theorem dX5_isSqueezed_36 : decode cX5_isSqueezed 36 = .ok (.goto 4, 3) := by decide +kernel
theorem dX5_isSqueezed_39 : decode cX5_isSqueezed 39 = .ok (.iconst 0, 1) := by decide +kernel
theorem dX5_isSqueezed_40 : decode cX5_isSqueezed 40 = .ok (.ireturn, 1) := by decide +kernel
theorem dX5_thrown__0 : decode cX5_thrown_ 0 = .ok (.aload_n 0, 1) := by decide +kernel
theorem dX5_thrown__1 : decode cX5_thrown_ 1 = .ok (.iload_n 1, 1) := by decide +kernel
theorem dX5_thrown__2 : decode cX5_thrown_ 2 = .ok (.invokestatic 87, 3) := by decide +kernel
theorem dX5_thrown__5 : decode cX5_thrown_ 5 = .ok (.iconst 1, 1) := by decide +kernel
theorem dX5_thrown__6 : decode cX5_thrown_ 6 = .ok (.iconst 1, 1) := by decide +kernel
theorem dX5_thrown__7 : decode cX5_thrown_ 7 = .ok (.invokevirtual 83, 3) := by decide +kernel
theorem dX5_thrown__10 : decode cX5_thrown_ 10 = .ok (.ifCond .eq 12, 3) := by decide +kernel
theorem dX5_thrown__13 : decode cX5_thrown_ 13 = .ok (.aload_n 0, 1) := by decide +kernel
theorem dX5_thrown__14 : decode cX5_thrown_ 14 = .ok (.getfield 50, 3) := by decide +kernel
theorem dX5_thrown__17 : decode cX5_thrown_ 17 = .ok (.iload_n 1, 1) := by decide +kernel
theorem dX5_thrown__18 : decode cX5_thrown_ 18 = .ok (.iaload, 1) := by decide +kernel
theorem dX5_thrown__19 : decode cX5_thrown_ 19 = .ok (.goto 4, 3) := by decide +kernel
theorem dX5_thrown__22 : decode cX5_thrown_ 22 = .ok (.iconst 0, 1) := by decide +kernel
theorem dX5_thrown__23 : decode cX5_thrown_ 23 = .ok (.ireturn, 1) := by decide +kernel
theorem dX5_holds_0 : decode cX5_holds 0 = .ok (.aload_n 0, 1) := by decide +kernel
theorem dX5_holds_1 : decode cX5_holds 1 = .ok (.iload_n 1, 1) := by decide +kernel
theorem dX5_holds_2 : decode cX5_holds 2 = .ok (.invokestatic 90, 3) := by decide +kernel
theorem dX5_holds_5 : decode cX5_holds 5 = .ok (.iconst 1, 1) := by decide +kernel
theorem dX5_holds_6 : decode cX5_holds 6 = .ok (.iconst 1, 1) := by decide +kernel
theorem dX5_holds_7 : decode cX5_holds 7 = .ok (.invokevirtual 83, 3) := by decide +kernel
theorem dX5_holds_10 : decode cX5_holds 10 = .ok (.ifCond .eq 13, 3) := by decide +kernel
theorem dX5_holds_13 : decode cX5_holds 13 = .ok (.aload_n 0, 1) := by decide +kernel
theorem dX5_holds_14 : decode cX5_holds 14 = .ok (.getfield 65, 3) := by decide +kernel
theorem dX5_holds_17 : decode cX5_holds 17 = .ok (.iload_n 1, 1) := by decide +kernel
theorem dX5_holds_18 : decode cX5_holds 18 = .ok (.iaload, 1) := by decide +kernel
theorem dX5_holds_19 : decode cX5_holds 19 = .ok (.iconst (-1), 1) := by decide +kernel
theorem dX5_holds_20 : decode cX5_holds 20 = .ok (.if_icmp .ne 16, 3) := by decide +kernel
theorem dX5_holds_23 : decode cX5_holds 23 = .ok (.aload_n 0, 1) := by decide +kernel
theorem dX5_holds_24 : decode cX5_holds 24 = .ok (.getfield 71, 3) := by decide +kernel
theorem dX5_holds_27 : decode cX5_holds 27 = .ok (.ifCond .ne 7, 3) := by decide +kernel
theorem dX5_holds_30 : decode cX5_holds 30 = .ok (.iconst (-1), 1) := by decide +kernel
theorem dX5_holds_31 : decode cX5_holds 31 = .ok (.goto 4, 3) := by decide +kernel
theorem dX5_holds_34 : decode cX5_holds 34 = .ok (.iconst 0, 1) := by decide +kernel
theorem dX5_holds_35 : decode cX5_holds 35 = .ok (.ireturn, 1) := by decide +kernel
theorem dX5_holds_36 : decode cX5_holds 36 = .ok (.iconst 0, 1) := by decide +kernel
theorem dX5_holds_37 : decode cX5_holds 37 = .ok (.istore_n 2, 1) := by decide +kernel
theorem dX5_holds_38 : decode cX5_holds 38 = .ok (.iconst 0, 1) := by decide +kernel
theorem dX5_holds_39 : decode cX5_holds 39 = .ok (.istore_n 3, 1) := by decide +kernel
theorem dX5_holds_40 : decode cX5_holds 40 = .ok (.iload_n 3, 1) := by decide +kernel
theorem dX5_holds_41 : decode cX5_holds 41 = .ok (.aload_n 0, 1) := by decide +kernel
theorem dX5_holds_42 : decode cX5_holds 42 = .ok (.getfield 68, 3) := by decide +kernel
theorem dX5_holds_45 : decode cX5_holds 45 = .ok (.iload_n 1, 1) := by decide +kernel
theorem dX5_holds_46 : decode cX5_holds 46 = .ok (.iaload, 1) := by decide +kernel
theorem dX5_holds_47 : decode cX5_holds 47 = .ok (.if_icmp .ge 32, 3) := by decide +kernel
theorem dX5_holds_50 : decode cX5_holds 50 = .ok (.iload_n 2, 1) := by decide +kernel
theorem dX5_holds_51 : decode cX5_holds 51 = .ok (.aload_n 0, 1) := by decide +kernel
theorem dX5_holds_52 : decode cX5_holds 52 = .ok (.getfield 53, 3) := by decide +kernel
theorem dX5_holds_55 : decode cX5_holds 55 = .ok (.iload_n 3, 1) := by decide +kernel
theorem dX5_holds_56 : decode cX5_holds 56 = .ok (.iaload, 1) := by decide +kernel
theorem dX5_holds_57 : decode cX5_holds 57 = .ok (.aload_n 0, 1) := by decide +kernel
theorem dX5_holds_58 : decode cX5_holds 58 = .ok (.getfield 65, 3) := by decide +kernel
theorem dX5_holds_61 : decode cX5_holds 61 = .ok (.iload_n 1, 1) := by decide +kernel
theorem dX5_holds_62 : decode cX5_holds 62 = .ok (.iaload, 1) := by decide +kernel
theorem dX5_holds_63 : decode cX5_holds 63 = .ok (.if_icmp .ne 7, 3) := by decide +kernel
theorem dX5_holds_66 : decode cX5_holds 66 = .ok (.iconst 1, 1) := by decide +kernel
theorem dX5_holds_67 : decode cX5_holds 67 = .ok (.goto 4, 3) := by decide +kernel
theorem dX5_holds_70 : decode cX5_holds 70 = .ok (.iconst 0, 1) := by decide +kernel
theorem dX5_holds_71 : decode cX5_holds 71 = .ok (.iadd, 1) := by decide +kernel
theorem dX5_holds_72 : decode cX5_holds 72 = .ok (.istore_n 2, 1) := by decide +kernel
theorem dX5_holds_73 : decode cX5_holds 73 = .ok (.iinc 3 1, 3) := by decide +kernel
theorem dX5_holds_76 : decode cX5_holds 76 = .ok (.goto (-36), 3) := by decide +kernel
theorem dX5_holds_79 : decode cX5_holds 79 = .ok (.bipush 100, 2) := by decide +kernel
theorem dX5_holds_81 : decode cX5_holds 81 = .ok (.aload_n 0, 1) := by decide +kernel
theorem dX5_holds_82 : decode cX5_holds 82 = .ok (.getfield 65, 3) := by decide +kernel
theorem dX5_holds_85 : decode cX5_holds 85 = .ok (.iload_n 1, 1) := by decide +kernel
theorem dX5_holds_86 : decode cX5_holds 86 = .ok (.iaload, 1) := by decide +kernel
theorem dX5_holds_87 : decode cX5_holds 87 = .ok (.imul, 1) := by decide +kernel
theorem dX5_holds_88 : decode cX5_holds 88 = .ok (.aload_n 0, 1) := by decide +kernel
theorem dX5_holds_89 : decode cX5_holds 89 = .ok (.getfield 68, 3) := by decide +kernel
theorem dX5_holds_92 : decode cX5_holds 92 = .ok (.iload_n 1, 1) := by decide +kernel
theorem dX5_holds_93 : decode cX5_holds 93 = .ok (.iaload, 1) := by decide +kernel
theorem dX5_holds_94 : decode cX5_holds 94 = .ok (.iconst (-1), 1) := by decide +kernel
theorem dX5_holds_95 : decode cX5_holds 95 = .ok (.if_icmp .ne 7, 3) := by decide +kernel
theorem dX5_holds_98 : decode cX5_holds 98 = .ok (.iconst 0, 1) := by decide +kernel
theorem dX5_holds_99 : decode cX5_holds 99 = .ok (.goto 6, 3) := by decide +kernel
theorem dX5_holds_102 : decode cX5_holds 102 = .ok (.iconst 1, 1) := by decide +kernel
theorem dX5_holds_103 : decode cX5_holds 103 = .ok (.iload_n 2, 1) := by decide +kernel
theorem dX5_holds_104 : decode cX5_holds 104 = .ok (.iadd, 1) := by decide +kernel
theorem dX5_holds_105 : decode cX5_holds 105 = .ok (.iadd, 1) := by decide +kernel
theorem dX5_holds_106 : decode cX5_holds 106 = .ok (.ireturn, 1) := by decide +kernel
end
section
theorem dL_setDue_0 : decode cL_setDue 0 = .ok (.aload_n 0, 1) := by decide +kernel
theorem dL_setDue_1 : decode cL_setDue 1 = .ok (.iload_n 1, 1) := by decide +kernel
theorem dL_setDue_2 : decode cL_setDue 2 = .ok (.iload_n 2, 1) := by decide +kernel
theorem dL_setDue_3 : decode cL_setDue 3 = .ok (.iload_n 3, 1) := by decide +kernel
theorem dL_setDue_4 : decode cL_setDue 4 = .ok (.iload 4, 2) := by decide +kernel
theorem dL_setDue_6 : decode cL_setDue 6 = .ok (.iload 5, 2) := by decide +kernel
theorem dL_setDue_8 : decode cL_setDue 8 = .ok (.invokevirtual 7, 3) := by decide +kernel
theorem dL_setDue_11 : decode cL_setDue 11 = .ok (.goto 11, 3) := by decide +kernel
theorem dL_setDue_14 : decode cL_setDue 14 = .ok (.astore 6, 2) := by decide +kernel
theorem dL_setDue_16 : decode cL_setDue 16 = .ok (.iconst 1, 1) := by decide +kernel
theorem dL_setDue_17 : decode cL_setDue 17 = .ok (.ireturn, 1) := by decide +kernel
theorem dL_setDue_18 : decode cL_setDue 18 = .ok (.astore 6, 2) := by decide +kernel
theorem dL_setDue_20 : decode cL_setDue 20 = .ok (.iconst 2, 1) := by decide +kernel
theorem dL_setDue_21 : decode cL_setDue 21 = .ok (.ireturn, 1) := by decide +kernel
theorem dL_setDue_22 : decode cL_setDue 22 = .ok (.iconst 0, 1) := by decide +kernel
theorem dL_setDue_23 : decode cL_setDue 23 = .ok (.ireturn, 1) := by decide +kernel
theorem dL_setOld_0 : decode cL_setOld 0 = .ok (.aload_n 0, 1) := by decide +kernel
theorem dL_setOld_1 : decode cL_setOld 1 = .ok (.iload_n 1, 1) := by decide +kernel
theorem dL_setOld_2 : decode cL_setOld 2 = .ok (.iload_n 2, 1) := by decide +kernel
theorem dL_setOld_3 : decode cL_setOld 3 = .ok (.iload_n 3, 1) := by decide +kernel
theorem dL_setOld_4 : decode cL_setOld 4 = .ok (.iload 4, 2) := by decide +kernel
theorem dL_setOld_6 : decode cL_setOld 6 = .ok (.iload 5, 2) := by decide +kernel
theorem dL_setOld_8 : decode cL_setOld 8 = .ok (.iload 6, 2) := by decide +kernel
theorem dL_setOld_10 : decode cL_setOld 10 = .ok (.invokevirtual 17, 3) := by decide +kernel
theorem dL_setOld_13 : decode cL_setOld 13 = .ok (.goto 11, 3) := by decide +kernel
theorem dL_setOld_16 : decode cL_setOld 16 = .ok (.astore 7, 2) := by decide +kernel
theorem dL_setOld_18 : decode cL_setOld 18 = .ok (.iconst 1, 1) := by decide +kernel
theorem dL_setOld_19 : decode cL_setOld 19 = .ok (.ireturn, 1) := by decide +kernel
theorem dL_setOld_20 : decode cL_setOld 20 = .ok (.astore 7, 2) := by decide +kernel
theorem dL_setOld_22 : decode cL_setOld 22 = .ok (.iconst 2, 1) := by decide +kernel
theorem dL_setOld_23 : decode cL_setOld 23 = .ok (.ireturn, 1) := by decide +kernel
theorem dL_setOld_24 : decode cL_setOld 24 = .ok (.iconst 0, 1) := by decide +kernel
theorem dL_setOld_25 : decode cL_setOld 25 = .ok (.ireturn, 1) := by decide +kernel
theorem dL_give_0 : decode cL_give 0 = .ok (.aload_n 3, 1) := by decide +kernel
theorem dL_give_1 : decode cL_give 1 = .ok (.iconst 0, 1) := by decide +kernel
theorem dL_give_2 : decode cL_give 2 = .ok (.aload_n 0, 1) := by decide +kernel
theorem dL_give_3 : decode cL_give 3 = .ok (.iload_n 1, 1) := by decide +kernel
theorem dL_give_4 : decode cL_give 4 = .ok (.iload_n 2, 1) := by decide +kernel
theorem dL_give_5 : decode cL_give 5 = .ok (.invokevirtual 21, 3) := by decide +kernel
theorem dL_give_8 : decode cL_give 8 = .ok (.i2l, 1) := by decide +kernel
theorem dL_give_9 : decode cL_give 9 = .ok (.lastore, 1) := by decide +kernel
theorem dL_give_10 : decode cL_give 10 = .ok (.goto 7, 3) := by decide +kernel
theorem dL_give_13 : decode cL_give 13 = .ok (.astore 4, 2) := by decide +kernel
theorem dL_give_15 : decode cL_give 15 = .ok (.iconst 1, 1) := by decide +kernel
theorem dL_give_16 : decode cL_give 16 = .ok (.ireturn, 1) := by decide +kernel
theorem dL_give_17 : decode cL_give 17 = .ok (.iconst 0, 1) := by decide +kernel
theorem dL_give_18 : decode cL_give 18 = .ok (.ireturn, 1) := by decide +kernel
theorem dL_open_0 : decode cL_open 0 = .ok (.aload_n 0, 1) := by decide +kernel
theorem dL_open_1 : decode cL_open 1 = .ok (.iload_n 1, 1) := by decide +kernel
theorem dL_open_2 : decode cL_open 2 = .ok (.iload_n 2, 1) := by decide +kernel
theorem dL_open_3 : decode cL_open 3 = .ok (.invokevirtual 25, 3) := by decide +kernel
theorem dL_open_6 : decode cL_open 6 = .ok (.goto 6, 3) := by decide +kernel
theorem dL_open_9 : decode cL_open 9 = .ok (.astore_n 3, 1) := by decide +kernel
theorem dL_open_10 : decode cL_open 10 = .ok (.iconst 1, 1) := by decide +kernel
theorem dL_open_11 : decode cL_open 11 = .ok (.ireturn, 1) := by decide +kernel
theorem dL_open_12 : decode cL_open 12 = .ok (.iconst 0, 1) := by decide +kernel
theorem dL_open_13 : decode cL_open 13 = .ok (.ireturn, 1) := by decide +kernel
theorem dL_shut_0 : decode cL_shut 0 = .ok (.aload_n 2, 1) := by decide +kernel
theorem dL_shut_1 : decode cL_shut 1 = .ok (.iconst 0, 1) := by decide +kernel
theorem dL_shut_2 : decode cL_shut 2 = .ok (.aload_n 0, 1) := by decide +kernel
theorem dL_shut_3 : decode cL_shut 3 = .ok (.iload_n 1, 1) := by decide +kernel
theorem dL_shut_4 : decode cL_shut 4 = .ok (.invokevirtual 29, 3) := by decide +kernel
theorem dL_shut_7 : decode cL_shut 7 = .ok (.ifCond .eq 7, 3) := by decide +kernel
theorem dL_shut_10 : decode cL_shut 10 = .ok (.lconst 1, 1) := by decide +kernel
theorem dL_shut_11 : decode cL_shut 11 = .ok (.goto 4, 3) := by decide +kernel
theorem dL_shut_14 : decode cL_shut 14 = .ok (.lconst 0, 1) := by decide +kernel
theorem dL_shut_15 : decode cL_shut 15 = .ok (.lastore, 1) := by decide +kernel
theorem dL_shut_16 : decode cL_shut 16 = .ok (.goto 6, 3) := by decide +kernel
theorem dL_shut_19 : decode cL_shut 19 = .ok (.astore_n 3, 1) := by decide +kernel
theorem dL_shut_20 : decode cL_shut 20 = .ok (.iconst 1, 1) := by decide +kernel
theorem dL_shut_21 : decode cL_shut 21 = .ok (.ireturn, 1) := by decide +kernel
theorem dL_shut_22 : decode cL_shut 22 = .ok (.iconst 0, 1) := by decide +kernel
theorem dL_shut_23 : decode cL_shut 23 = .ok (.ireturn, 1) := by decide +kernel
theorem dL_tell_0 : decode cL_tell 0 = .ok (.aload_n 2, 1) := by decide +kernel
theorem dL_tell_1 : decode cL_tell 1 = .ok (.iconst 0, 1) := by decide +kernel
theorem dL_tell_2 : decode cL_tell 2 = .ok (.aload_n 0, 1) := by decide +kernel
theorem dL_tell_3 : decode cL_tell 3 = .ok (.iload_n 1, 1) := by decide +kernel
theorem dL_tell_4 : decode cL_tell 4 = .ok (.invokevirtual 33, 3) := by decide +kernel
theorem dL_tell_7 : decode cL_tell 7 = .ok (.ifCond .eq 7, 3) := by decide +kernel
theorem dL_tell_10 : decode cL_tell 10 = .ok (.lconst 1, 1) := by decide +kernel
theorem dL_tell_11 : decode cL_tell 11 = .ok (.goto 4, 3) := by decide +kernel
theorem dL_tell_14 : decode cL_tell 14 = .ok (.lconst 0, 1) := by decide +kernel
theorem dL_tell_15 : decode cL_tell 15 = .ok (.lastore, 1) := by decide +kernel
theorem dL_tell_16 : decode cL_tell 16 = .ok (.goto 9, 3) := by decide +kernel
theorem dL_tell_19 : decode cL_tell 19 = .ok (.astore_n 3, 1) := by decide +kernel
theorem dL_tell_20 : decode cL_tell 20 = .ok (.iconst 1, 1) := by decide +kernel
theorem dL_tell_21 : decode cL_tell 21 = .ok (.ireturn, 1) := by decide +kernel
theorem dL_tell_22 : decode cL_tell 22 = .ok (.astore_n 3, 1) := by decide +kernel
theorem dL_tell_23 : decode cL_tell 23 = .ok (.iconst 2, 1) := by decide +kernel
theorem dL_tell_24 : decode cL_tell 24 = .ok (.ireturn, 1) := by decide +kernel
theorem dL_tell_25 : decode cL_tell 25 = .ok (.iconst 0, 1) := by decide +kernel
theorem dL_tell_26 : decode cL_tell 26 = .ok (.ireturn, 1) := by decide +kernel
theorem dL_write_0 : decode cL_write 0 = .ok (.aload_n 3, 1) := by decide +kernel
theorem dL_write_1 : decode cL_write 1 = .ok (.iconst 0, 1) := by decide +kernel
theorem dL_write_2 : decode cL_write 2 = .ok (.aload_n 0, 1) := by decide +kernel
theorem dL_write_3 : decode cL_write 3 = .ok (.iload_n 1, 1) := by decide +kernel
theorem dL_write_4 : decode cL_write 4 = .ok (.iload_n 2, 1) := by decide +kernel
theorem dL_write_5 : decode cL_write 5 = .ok (.invokevirtual 38, 3) := by decide +kernel
theorem dL_write_8 : decode cL_write 8 = .ok (.i2l, 1) := by decide +kernel
theorem dL_write_9 : decode cL_write 9 = .ok (.lastore, 1) := by decide +kernel
theorem dL_write_10 : decode cL_write 10 = .ok (.goto 15, 3) := by decide +kernel
theorem dL_write_13 : decode cL_write 13 = .ok (.astore 4, 2) := by decide +kernel
theorem dL_write_15 : decode cL_write 15 = .ok (.iconst 1, 1) := by decide +kernel
theorem dL_write_16 : decode cL_write 16 = .ok (.ireturn, 1) := by decide +kernel
theorem dL_write_17 : decode cL_write 17 = .ok (.astore 4, 2) := by decide +kernel
theorem dL_write_19 : decode cL_write 19 = .ok (.iconst 2, 1) := by decide +kernel
theorem dL_write_20 : decode cL_write 20 = .ok (.ireturn, 1) := by decide +kernel
theorem dL_write_21 : decode cL_write 21 = .ok (.astore 4, 2) := by decide +kernel
theorem dL_write_23 : decode cL_write 23 = .ok (.iconst 3, 1) := by decide +kernel
theorem dL_write_24 : decode cL_write 24 = .ok (.ireturn, 1) := by decide +kernel
theorem dL_write_25 : decode cL_write 25 = .ok (.iconst 0, 1) := by decide +kernel
theorem dL_write_26 : decode cL_write 26 = .ok (.ireturn, 1) := by decide +kernel
theorem dL_advance_0 : decode cL_advance 0 = .ok (.aload_n 2, 1) := by decide +kernel
theorem dL_advance_1 : decode cL_advance 1 = .ok (.iconst 0, 1) := by decide +kernel
theorem dL_advance_2 : decode cL_advance 2 = .ok (.aload_n 0, 1) := by decide +kernel
theorem dL_advance_3 : decode cL_advance 3 = .ok (.iload_n 1, 1) := by decide +kernel
theorem dL_advance_4 : decode cL_advance 4 = .ok (.invokevirtual 41, 3) := by decide +kernel
theorem dL_advance_7 : decode cL_advance 7 = .ok (.i2l, 1) := by decide +kernel
theorem dL_advance_8 : decode cL_advance 8 = .ok (.lastore, 1) := by decide +kernel
theorem dL_advance_9 : decode cL_advance 9 = .ok (.goto 9, 3) := by decide +kernel
theorem dL_advance_12 : decode cL_advance 12 = .ok (.astore_n 3, 1) := by decide +kernel
theorem dL_advance_13 : decode cL_advance 13 = .ok (.iconst 1, 1) := by decide +kernel
theorem dL_advance_14 : decode cL_advance 14 = .ok (.ireturn, 1) := by decide +kernel
theorem dL_advance_15 : decode cL_advance 15 = .ok (.astore_n 3, 1) := by decide +kernel
theorem dL_advance_16 : decode cL_advance 16 = .ok (.iconst 2, 1) := by decide +kernel
theorem dL_advance_17 : decode cL_advance 17 = .ok (.ireturn, 1) := by decide +kernel
theorem dL_advance_18 : decode cL_advance 18 = .ok (.iconst 0, 1) := by decide +kernel
theorem dL_advance_19 : decode cL_advance 19 = .ok (.ireturn, 1) := by decide +kernel
theorem dL_turn_0 : decode cL_turn 0 = .ok (.aload_n 2, 1) := by decide +kernel
theorem dL_turn_1 : decode cL_turn 1 = .ok (.iconst 0, 1) := by decide +kernel
theorem dL_turn_2 : decode cL_turn 2 = .ok (.aload_n 0, 1) := by decide +kernel
theorem dL_turn_3 : decode cL_turn 3 = .ok (.iload_n 1, 1) := by decide +kernel
theorem dL_turn_4 : decode cL_turn 4 = .ok (.invokevirtual 45, 3) := by decide +kernel
theorem dL_turn_7 : decode cL_turn 7 = .ok (.i2l, 1) := by decide +kernel
theorem dL_turn_8 : decode cL_turn 8 = .ok (.lastore, 1) := by decide +kernel
theorem dL_turn_9 : decode cL_turn 9 = .ok (.goto 6, 3) := by decide +kernel
theorem dL_turn_12 : decode cL_turn 12 = .ok (.astore_n 3, 1) := by decide +kernel
theorem dL_turn_13 : decode cL_turn 13 = .ok (.iconst 1, 1) := by decide +kernel
theorem dL_turn_14 : decode cL_turn 14 = .ok (.ireturn, 1) := by decide +kernel
theorem dL_turn_15 : decode cL_turn 15 = .ok (.iconst 0, 1) := by decide +kernel
theorem dL_turn_16 : decode cL_turn 16 = .ok (.ireturn, 1) := by decide +kernel
theorem dL_lose_0 : decode cL_lose 0 = .ok (.aload_n 2, 1) := by decide +kernel
theorem dL_lose_1 : decode cL_lose 1 = .ok (.iconst 0, 1) := by decide +kernel
theorem dL_lose_2 : decode cL_lose 2 = .ok (.aload_n 0, 1) := by decide +kernel
theorem dL_lose_3 : decode cL_lose 3 = .ok (.iload_n 1, 1) := by decide +kernel
theorem dL_lose_4 : decode cL_lose 4 = .ok (.invokevirtual 48, 3) := by decide +kernel
theorem dL_lose_7 : decode cL_lose 7 = .ok (.i2l, 1) := by decide +kernel
theorem dL_lose_8 : decode cL_lose 8 = .ok (.lastore, 1) := by decide +kernel
theorem dL_lose_9 : decode cL_lose 9 = .ok (.goto 6, 3) := by decide +kernel
theorem dL_lose_12 : decode cL_lose 12 = .ok (.astore_n 3, 1) := by decide +kernel
theorem dL_lose_13 : decode cL_lose 13 = .ok (.iconst 1, 1) := by decide +kernel
theorem dL_lose_14 : decode cL_lose 14 = .ok (.ireturn, 1) := by decide +kernel
theorem dL_lose_15 : decode cL_lose 15 = .ok (.iconst 0, 1) := by decide +kernel
theorem dL_lose_16 : decode cL_lose 16 = .ok (.ireturn, 1) := by decide +kernel
theorem dL_isDue_0 : decode cL_isDue 0 = .ok (.aload_n 2, 1) := by decide +kernel
theorem dL_isDue_1 : decode cL_isDue 1 = .ok (.iconst 0, 1) := by decide +kernel
theorem dL_isDue_2 : decode cL_isDue 2 = .ok (.aload_n 0, 1) := by decide +kernel
theorem dL_isDue_3 : decode cL_isDue 3 = .ok (.iload_n 1, 1) := by decide +kernel
theorem dL_isDue_4 : decode cL_isDue 4 = .ok (.invokevirtual 51, 3) := by decide +kernel
theorem dL_isDue_7 : decode cL_isDue 7 = .ok (.ifCond .eq 7, 3) := by decide +kernel
theorem dL_isDue_10 : decode cL_isDue 10 = .ok (.lconst 1, 1) := by decide +kernel
theorem dL_isDue_11 : decode cL_isDue 11 = .ok (.goto 4, 3) := by decide +kernel
theorem dL_isDue_14 : decode cL_isDue 14 = .ok (.lconst 0, 1) := by decide +kernel
theorem dL_isDue_15 : decode cL_isDue 15 = .ok (.lastore, 1) := by decide +kernel
theorem dL_isDue_16 : decode cL_isDue 16 = .ok (.goto 6, 3) := by decide +kernel
theorem dL_isDue_19 : decode cL_isDue 19 = .ok (.astore_n 3, 1) := by decide +kernel
theorem dL_isDue_20 : decode cL_isDue 20 = .ok (.iconst 1, 1) := by decide +kernel
theorem dL_isDue_21 : decode cL_isDue 21 = .ok (.ireturn, 1) := by decide +kernel
theorem dL_isDue_22 : decode cL_isDue 22 = .ok (.iconst 0, 1) := by decide +kernel
theorem dL_isDue_23 : decode cL_isDue 23 = .ok (.ireturn, 1) := by decide +kernel
theorem dL_nextDue_0 : decode cL_nextDue 0 = .ok (.aload_n 2, 1) := by decide +kernel
theorem dL_nextDue_1 : decode cL_nextDue 1 = .ok (.iconst 0, 1) := by decide +kernel
theorem dL_nextDue_2 : decode cL_nextDue 2 = .ok (.aload_n 0, 1) := by decide +kernel
theorem dL_nextDue_3 : decode cL_nextDue 3 = .ok (.iload_n 1, 1) := by decide +kernel
theorem dL_nextDue_4 : decode cL_nextDue 4 = .ok (.invokevirtual 54, 3) := by decide +kernel
theorem dL_nextDue_7 : decode cL_nextDue 7 = .ok (.i2l, 1) := by decide +kernel
theorem dL_nextDue_8 : decode cL_nextDue 8 = .ok (.lastore, 1) := by decide +kernel
theorem dL_nextDue_9 : decode cL_nextDue 9 = .ok (.goto 6, 3) := by decide +kernel
theorem dL_nextDue_12 : decode cL_nextDue 12 = .ok (.astore_n 3, 1) := by decide +kernel
theorem dL_nextDue_13 : decode cL_nextDue 13 = .ok (.iconst 1, 1) := by decide +kernel
theorem dL_nextDue_14 : decode cL_nextDue 14 = .ok (.ireturn, 1) := by decide +kernel
theorem dL_nextDue_15 : decode cL_nextDue 15 = .ok (.iconst 0, 1) := by decide +kernel
theorem dL_nextDue_16 : decode cL_nextDue 16 = .ok (.ireturn, 1) := by decide +kernel
theorem dL_live_0 : decode cL_live 0 = .ok (.aload_n 2, 1) := by decide +kernel
theorem dL_live_1 : decode cL_live 1 = .ok (.iconst 0, 1) := by decide +kernel
theorem dL_live_2 : decode cL_live 2 = .ok (.aload_n 0, 1) := by decide +kernel
theorem dL_live_3 : decode cL_live 3 = .ok (.iload_n 1, 1) := by decide +kernel
theorem dL_live_4 : decode cL_live 4 = .ok (.invokevirtual 57, 3) := by decide +kernel
theorem dL_live_7 : decode cL_live 7 = .ok (.i2l, 1) := by decide +kernel
theorem dL_live_8 : decode cL_live 8 = .ok (.lastore, 1) := by decide +kernel
theorem dL_live_9 : decode cL_live 9 = .ok (.goto 6, 3) := by decide +kernel
theorem dL_live_12 : decode cL_live 12 = .ok (.astore_n 3, 1) := by decide +kernel
theorem dL_live_13 : decode cL_live 13 = .ok (.iconst 1, 1) := by decide +kernel
theorem dL_live_14 : decode cL_live 14 = .ok (.ireturn, 1) := by decide +kernel
theorem dL_live_15 : decode cL_live 15 = .ok (.iconst 0, 1) := by decide +kernel
theorem dL_live_16 : decode cL_live 16 = .ok (.ireturn, 1) := by decide +kernel
theorem dL_olds_0 : decode cL_olds 0 = .ok (.aload_n 2, 1) := by decide +kernel
theorem dL_olds_1 : decode cL_olds 1 = .ok (.iconst 0, 1) := by decide +kernel
theorem dL_olds_2 : decode cL_olds 2 = .ok (.aload_n 0, 1) := by decide +kernel
theorem dL_olds_3 : decode cL_olds 3 = .ok (.iload_n 1, 1) := by decide +kernel
theorem dL_olds_4 : decode cL_olds 4 = .ok (.invokevirtual 60, 3) := by decide +kernel
theorem dL_olds_7 : decode cL_olds 7 = .ok (.i2l, 1) := by decide +kernel
theorem dL_olds_8 : decode cL_olds 8 = .ok (.lastore, 1) := by decide +kernel
theorem dL_olds_9 : decode cL_olds 9 = .ok (.goto 6, 3) := by decide +kernel
theorem dL_olds_12 : decode cL_olds 12 = .ok (.astore_n 3, 1) := by decide +kernel
theorem dL_olds_13 : decode cL_olds 13 = .ok (.iconst 1, 1) := by decide +kernel
theorem dL_olds_14 : decode cL_olds 14 = .ok (.ireturn, 1) := by decide +kernel
theorem dL_olds_15 : decode cL_olds 15 = .ok (.iconst 0, 1) := by decide +kernel
theorem dL_olds_16 : decode cL_olds 16 = .ok (.ireturn, 1) := by decide +kernel
theorem dL_lines_0 : decode cL_lines 0 = .ok (.aload_n 3, 1) := by decide +kernel
theorem dL_lines_1 : decode cL_lines 1 = .ok (.iconst 0, 1) := by decide +kernel
theorem dL_lines_2 : decode cL_lines 2 = .ok (.aload_n 0, 1) := by decide +kernel
theorem dL_lines_3 : decode cL_lines 3 = .ok (.iload_n 1, 1) := by decide +kernel
theorem dL_lines_4 : decode cL_lines 4 = .ok (.iload_n 2, 1) := by decide +kernel
theorem dL_lines_5 : decode cL_lines 5 = .ok (.invokevirtual 63, 3) := by decide +kernel
theorem dL_lines_8 : decode cL_lines 8 = .ok (.i2l, 1) := by decide +kernel
theorem dL_lines_9 : decode cL_lines 9 = .ok (.lastore, 1) := by decide +kernel
theorem dL_lines_10 : decode cL_lines 10 = .ok (.goto 7, 3) := by decide +kernel
theorem dL_lines_13 : decode cL_lines 13 = .ok (.astore 4, 2) := by decide +kernel
theorem dL_lines_15 : decode cL_lines 15 = .ok (.iconst 1, 1) := by decide +kernel
theorem dL_lines_16 : decode cL_lines 16 = .ok (.ireturn, 1) := by decide +kernel
theorem dL_lines_17 : decode cL_lines 17 = .ok (.iconst 0, 1) := by decide +kernel
theorem dL_lines_18 : decode cL_lines 18 = .ok (.ireturn, 1) := by decide +kernel
theorem dL_name_0 : decode cL_name 0 = .ok (.aload_n 3, 1) := by decide +kernel
theorem dL_name_1 : decode cL_name 1 = .ok (.iconst 0, 1) := by decide +kernel
theorem dL_name_2 : decode cL_name 2 = .ok (.aload_n 0, 1) := by decide +kernel
theorem dL_name_3 : decode cL_name 3 = .ok (.iload_n 1, 1) := by decide +kernel
theorem dL_name_4 : decode cL_name 4 = .ok (.iload_n 2, 1) := by decide +kernel
theorem dL_name_5 : decode cL_name 5 = .ok (.invokevirtual 66, 3) := by decide +kernel
theorem dL_name_8 : decode cL_name 8 = .ok (.i2l, 1) := by decide +kernel
theorem dL_name_9 : decode cL_name 9 = .ok (.lastore, 1) := by decide +kernel
theorem dL_name_10 : decode cL_name 10 = .ok (.goto 7, 3) := by decide +kernel
theorem dL_name_13 : decode cL_name 13 = .ok (.astore 4, 2) := by decide +kernel
theorem dL_name_15 : decode cL_name 15 = .ok (.iconst 1, 1) := by decide +kernel
theorem dL_name_16 : decode cL_name 16 = .ok (.ireturn, 1) := by decide +kernel
theorem dL_name_17 : decode cL_name 17 = .ok (.iconst 0, 1) := by decide +kernel
theorem dL_name_18 : decode cL_name 18 = .ok (.ireturn, 1) := by decide +kernel
theorem dL_isSqueezed_0 : decode cL_isSqueezed 0 = .ok (.aload_n 3, 1) := by decide +kernel
theorem dL_isSqueezed_1 : decode cL_isSqueezed 1 = .ok (.iconst 0, 1) := by decide +kernel
theorem dL_isSqueezed_2 : decode cL_isSqueezed 2 = .ok (.aload_n 0, 1) := by decide +kernel
theorem dL_isSqueezed_3 : decode cL_isSqueezed 3 = .ok (.iload_n 1, 1) := by decide +kernel
theorem dL_isSqueezed_4 : decode cL_isSqueezed 4 = .ok (.iload_n 2, 1) := by decide +kernel
theorem dL_isSqueezed_5 : decode cL_isSqueezed 5 = .ok (.invokevirtual 69, 3) := by decide +kernel
theorem dL_isSqueezed_8 : decode cL_isSqueezed 8 = .ok (.ifCond .eq 7, 3) := by decide +kernel
theorem dL_isSqueezed_11 : decode cL_isSqueezed 11 = .ok (.lconst 1, 1) := by decide +kernel
theorem dL_isSqueezed_12 : decode cL_isSqueezed 12 = .ok (.goto 4, 3) := by decide +kernel
theorem dL_isSqueezed_15 : decode cL_isSqueezed 15 = .ok (.lconst 0, 1) := by decide +kernel
theorem dL_isSqueezed_16 : decode cL_isSqueezed 16 = .ok (.lastore, 1) := by decide +kernel
theorem dL_isSqueezed_17 : decode cL_isSqueezed 17 = .ok (.goto 7, 3) := by decide +kernel
theorem dL_isSqueezed_20 : decode cL_isSqueezed 20 = .ok (.astore 4, 2) := by decide +kernel
theorem dL_isSqueezed_22 : decode cL_isSqueezed 22 = .ok (.iconst 1, 1) := by decide +kernel
theorem dL_isSqueezed_23 : decode cL_isSqueezed 23 = .ok (.ireturn, 1) := by decide +kernel
theorem dL_isSqueezed_24 : decode cL_isSqueezed 24 = .ok (.iconst 0, 1) := by decide +kernel
theorem dL_isSqueezed_25 : decode cL_isSqueezed 25 = .ok (.ireturn, 1) := by decide +kernel
theorem dL_thrown_0 : decode cL_thrown 0 = .ok (.aload_n 2, 1) := by decide +kernel
theorem dL_thrown_1 : decode cL_thrown 1 = .ok (.iconst 0, 1) := by decide +kernel
theorem dL_thrown_2 : decode cL_thrown 2 = .ok (.aload_n 0, 1) := by decide +kernel
theorem dL_thrown_3 : decode cL_thrown 3 = .ok (.iload_n 1, 1) := by decide +kernel
theorem dL_thrown_4 : decode cL_thrown 4 = .ok (.invokevirtual 73, 3) := by decide +kernel
theorem dL_thrown_7 : decode cL_thrown 7 = .ok (.i2l, 1) := by decide +kernel
theorem dL_thrown_8 : decode cL_thrown 8 = .ok (.lastore, 1) := by decide +kernel
theorem dL_thrown_9 : decode cL_thrown 9 = .ok (.goto 6, 3) := by decide +kernel
theorem dL_thrown_12 : decode cL_thrown 12 = .ok (.astore_n 3, 1) := by decide +kernel
theorem dL_thrown_13 : decode cL_thrown 13 = .ok (.iconst 1, 1) := by decide +kernel
theorem dL_thrown_14 : decode cL_thrown 14 = .ok (.ireturn, 1) := by decide +kernel
theorem dL_thrown_15 : decode cL_thrown 15 = .ok (.iconst 0, 1) := by decide +kernel
theorem dL_thrown_16 : decode cL_thrown 16 = .ok (.ireturn, 1) := by decide +kernel
theorem dL_holds_0 : decode cL_holds 0 = .ok (.aload_n 2, 1) := by decide +kernel
theorem dL_holds_1 : decode cL_holds 1 = .ok (.iconst 0, 1) := by decide +kernel
theorem dL_holds_2 : decode cL_holds 2 = .ok (.aload_n 0, 1) := by decide +kernel
theorem dL_holds_3 : decode cL_holds 3 = .ok (.iload_n 1, 1) := by decide +kernel
theorem dL_holds_4 : decode cL_holds 4 = .ok (.invokevirtual 76, 3) := by decide +kernel
theorem dL_holds_7 : decode cL_holds 7 = .ok (.i2l, 1) := by decide +kernel
theorem dL_holds_8 : decode cL_holds 8 = .ok (.lastore, 1) := by decide +kernel
theorem dL_holds_9 : decode cL_holds 9 = .ok (.goto 6, 3) := by decide +kernel
theorem dL_holds_12 : decode cL_holds 12 = .ok (.astore_n 3, 1) := by decide +kernel
theorem dL_holds_13 : decode cL_holds 13 = .ok (.iconst 1, 1) := by decide +kernel
theorem dL_holds_14 : decode cL_holds 14 = .ok (.ireturn, 1) := by decide +kernel
theorem dL_holds_15 : decode cL_holds 15 = .ok (.iconst 0, 1) := by decide +kernel
theorem dL_holds_16 : decode cL_holds 16 = .ok (.ireturn, 1) := by decide +kernel
theorem dL_law_0 : decode cL_law 0 = .ok (.new 8, 3) := by decide +kernel
theorem dL_law_3 : decode cL_law 3 = .ok (.dup, 1) := by decide +kernel
theorem dL_law_4 : decode cL_law 4 = .ok (.invokespecial 79, 3) := by decide +kernel
theorem dL_law_7 : decode cL_law 7 = .ok (.astore_n 1, 1) := by decide +kernel
theorem dL_law_8 : decode cL_law 8 = .ok (.new 80, 3) := by decide +kernel
theorem dL_law_11 : decode cL_law 11 = .ok (.dup, 1) := by decide +kernel
theorem dL_law_12 : decode cL_law 12 = .ok (.invokespecial 82, 3) := by decide +kernel
theorem dL_law_15 : decode cL_law 15 = .ok (.astore_n 2, 1) := by decide +kernel
theorem dL_law_16 : decode cL_law 16 = .ok (.iconst 1, 1) := by decide +kernel
theorem dL_law_17 : decode cL_law 17 = .ok (.newarray .long, 2) := by decide +kernel
theorem dL_law_19 : decode cL_law 19 = .ok (.astore_n 3, 1) := by decide +kernel
theorem dL_law_20 : decode cL_law 20 = .ok (.iconst 0, 1) := by decide +kernel
theorem dL_law_21 : decode cL_law 21 = .ok (.istore 4, 2) := by decide +kernel
theorem dL_law_23 : decode cL_law 23 = .ok (.iload 4, 2) := by decide +kernel
theorem dL_law_25 : decode cL_law 25 = .ok (.aload_n 0, 1) := by decide +kernel
theorem dL_law_26 : decode cL_law 26 = .ok (.arraylength, 1) := by decide +kernel
theorem dL_law_27 : decode cL_law 27 = .ok (.bipush 7, 2) := by decide +kernel
theorem dL_law_29 : decode cL_law 29 = .ok (.isub, 1) := by decide +kernel
theorem dL_law_30 : decode cL_law 30 = .ok (.if_icmp .gt 1404, 3) := by decide +kernel
theorem dL_law_33 : decode cL_law 33 = .ok (.aload_n 0, 1) := by decide +kernel
theorem dL_law_34 : decode cL_law 34 = .ok (.iload 4, 2) := by decide +kernel
theorem dL_law_36 : decode cL_law 36 = .ok (.iaload, 1) := by decide +kernel
theorem dL_law_37 : decode cL_law 37 = .ok (.bipush 31, 2) := by decide +kernel
theorem dL_law_39 : decode cL_law 39 = .ok (.iand, 1) := by decide +kernel
theorem dL_law_40 : decode cL_law 40 = .ok (.tableswitch 1388 0 20 #[100, 184, 330, 398, 446, 509, 572, 640, 696, 709, 765, 821, 834, 897, 953, 1009, 1065, 1133, 1201, 1276, 1332], 100) := by decide +kernel
theorem dL_law_140 : decode cL_law 140 = .ok (.aload_n 1, 1) := by decide +kernel
theorem dL_law_141 : decode cL_law 141 = .ok (.aload_n 0, 1) := by decide +kernel
theorem dL_law_142 : decode cL_law 142 = .ok (.iload 4, 2) := by decide +kernel
theorem dL_law_144 : decode cL_law 144 = .ok (.iconst 1, 1) := by decide +kernel
theorem dL_law_145 : decode cL_law 145 = .ok (.iadd, 1) := by decide +kernel
theorem dL_law_146 : decode cL_law 146 = .ok (.iaload, 1) := by decide +kernel
theorem dL_law_147 : decode cL_law 147 = .ok (.aload_n 0, 1) := by decide +kernel
theorem dL_law_148 : decode cL_law 148 = .ok (.iload 4, 2) := by decide +kernel
theorem dL_law_150 : decode cL_law 150 = .ok (.iconst 2, 1) := by decide +kernel
theorem dL_law_151 : decode cL_law 151 = .ok (.iadd, 1) := by decide +kernel
theorem dL_law_152 : decode cL_law 152 = .ok (.iaload, 1) := by decide +kernel
theorem dL_law_153 : decode cL_law 153 = .ok (.aload_n 0, 1) := by decide +kernel
theorem dL_law_154 : decode cL_law 154 = .ok (.iload 4, 2) := by decide +kernel
theorem dL_law_156 : decode cL_law 156 = .ok (.iconst 3, 1) := by decide +kernel
theorem dL_law_157 : decode cL_law 157 = .ok (.iadd, 1) := by decide +kernel
theorem dL_law_158 : decode cL_law 158 = .ok (.iaload, 1) := by decide +kernel
theorem dL_law_159 : decode cL_law 159 = .ok (.aload_n 0, 1) := by decide +kernel
theorem dL_law_160 : decode cL_law 160 = .ok (.iload 4, 2) := by decide +kernel
theorem dL_law_162 : decode cL_law 162 = .ok (.iconst 4, 1) := by decide +kernel
theorem dL_law_163 : decode cL_law 163 = .ok (.iadd, 1) := by decide +kernel
theorem dL_law_164 : decode cL_law 164 = .ok (.iaload, 1) := by decide +kernel
theorem dL_law_165 : decode cL_law 165 = .ok (.aload_n 0, 1) := by decide +kernel
theorem dL_law_166 : decode cL_law 166 = .ok (.iload 4, 2) := by decide +kernel
theorem dL_law_168 : decode cL_law 168 = .ok (.iconst 5, 1) := by decide +kernel
theorem dL_law_169 : decode cL_law 169 = .ok (.iadd, 1) := by decide +kernel
theorem dL_law_170 : decode cL_law 170 = .ok (.iaload, 1) := by decide +kernel
theorem dL_law_171 : decode cL_law 171 = .ok (.invokestatic 83, 3) := by decide +kernel
theorem dL_law_174 : decode cL_law 174 = .ok (.istore 5, 2) := by decide +kernel
theorem dL_law_176 : decode cL_law 176 = .ok (.aload_n 2, 1) := by decide +kernel
theorem dL_law_177 : decode cL_law 177 = .ok (.aload_n 0, 1) := by decide +kernel
theorem dL_law_178 : decode cL_law 178 = .ok (.iload 4, 2) := by decide +kernel
theorem dL_law_180 : decode cL_law 180 = .ok (.iconst 1, 1) := by decide +kernel
theorem dL_law_181 : decode cL_law 181 = .ok (.iadd, 1) := by decide +kernel
theorem dL_law_182 : decode cL_law 182 = .ok (.iaload, 1) := by decide +kernel
theorem dL_law_183 : decode cL_law 183 = .ok (.aload_n 0, 1) := by decide +kernel
theorem dL_law_184 : decode cL_law 184 = .ok (.iload 4, 2) := by decide +kernel
theorem dL_law_186 : decode cL_law 186 = .ok (.iconst 2, 1) := by decide +kernel
theorem dL_law_187 : decode cL_law 187 = .ok (.iadd, 1) := by decide +kernel
theorem dL_law_188 : decode cL_law 188 = .ok (.iaload, 1) := by decide +kernel
theorem dL_law_189 : decode cL_law 189 = .ok (.aload_n 0, 1) := by decide +kernel
theorem dL_law_190 : decode cL_law 190 = .ok (.iload 4, 2) := by decide +kernel
theorem dL_law_192 : decode cL_law 192 = .ok (.iconst 3, 1) := by decide +kernel
theorem dL_law_193 : decode cL_law 193 = .ok (.iadd, 1) := by decide +kernel
theorem dL_law_194 : decode cL_law 194 = .ok (.iaload, 1) := by decide +kernel
theorem dL_law_195 : decode cL_law 195 = .ok (.aload_n 0, 1) := by decide +kernel
theorem dL_law_196 : decode cL_law 196 = .ok (.iload 4, 2) := by decide +kernel
theorem dL_law_198 : decode cL_law 198 = .ok (.iconst 4, 1) := by decide +kernel
theorem dL_law_199 : decode cL_law 199 = .ok (.iadd, 1) := by decide +kernel
theorem dL_law_200 : decode cL_law 200 = .ok (.iaload, 1) := by decide +kernel
theorem dL_law_201 : decode cL_law 201 = .ok (.aload_n 0, 1) := by decide +kernel
theorem dL_law_202 : decode cL_law 202 = .ok (.iload 4, 2) := by decide +kernel
theorem dL_law_204 : decode cL_law 204 = .ok (.iconst 5, 1) := by decide +kernel
theorem dL_law_205 : decode cL_law 205 = .ok (.iadd, 1) := by decide +kernel
theorem dL_law_206 : decode cL_law 206 = .ok (.iaload, 1) := by decide +kernel
theorem dL_law_207 : decode cL_law 207 = .ok (.invokevirtual 88, 3) := by decide +kernel
theorem dL_law_210 : decode cL_law 210 = .ok (.aload_n 2, 1) := by decide +kernel
theorem dL_law_211 : decode cL_law 211 = .ok (.invokevirtual 89, 3) := by decide +kernel
theorem dL_law_214 : decode cL_law 214 = .ok (.iload 5, 2) := by decide +kernel
theorem dL_law_216 : decode cL_law 216 = .ok (.if_icmp .eq 5, 3) := by decide +kernel
theorem dL_law_219 : decode cL_law 219 = .ok (.iconst 0, 1) := by decide +kernel
theorem dL_law_220 : decode cL_law 220 = .ok (.ireturn, 1) := by decide +kernel
theorem dL_law_221 : decode cL_law 221 = .ok (.goto 1207, 3) := by decide +kernel
theorem dL_law_224 : decode cL_law 224 = .ok (.aload_n 1, 1) := by decide +kernel
theorem dL_law_225 : decode cL_law 225 = .ok (.aload_n 0, 1) := by decide +kernel
theorem dL_law_226 : decode cL_law 226 = .ok (.iload 4, 2) := by decide +kernel
theorem dL_law_228 : decode cL_law 228 = .ok (.iconst 1, 1) := by decide +kernel
theorem dL_law_229 : decode cL_law 229 = .ok (.iadd, 1) := by decide +kernel
theorem dL_law_230 : decode cL_law 230 = .ok (.iaload, 1) := by decide +kernel
theorem dL_law_231 : decode cL_law 231 = .ok (.aload_n 0, 1) := by decide +kernel
theorem dL_law_232 : decode cL_law 232 = .ok (.iload 4, 2) := by decide +kernel
theorem dL_law_234 : decode cL_law 234 = .ok (.iconst 2, 1) := by decide +kernel
theorem dL_law_235 : decode cL_law 235 = .ok (.iadd, 1) := by decide +kernel
theorem dL_law_236 : decode cL_law 236 = .ok (.iaload, 1) := by decide +kernel
theorem dL_law_237 : decode cL_law 237 = .ok (.aload_n 0, 1) := by decide +kernel
theorem dL_law_238 : decode cL_law 238 = .ok (.iload 4, 2) := by decide +kernel
theorem dL_law_240 : decode cL_law 240 = .ok (.iconst 3, 1) := by decide +kernel
theorem dL_law_241 : decode cL_law 241 = .ok (.iadd, 1) := by decide +kernel
theorem dL_law_242 : decode cL_law 242 = .ok (.iaload, 1) := by decide +kernel
theorem dL_law_243 : decode cL_law 243 = .ok (.aload_n 0, 1) := by decide +kernel
theorem dL_law_244 : decode cL_law 244 = .ok (.iload 4, 2) := by decide +kernel
theorem dL_law_246 : decode cL_law 246 = .ok (.iconst 4, 1) := by decide +kernel
theorem dL_law_247 : decode cL_law 247 = .ok (.iadd, 1) := by decide +kernel
theorem dL_law_248 : decode cL_law 248 = .ok (.iaload, 1) := by decide +kernel
theorem dL_law_249 : decode cL_law 249 = .ok (.ifCond .eq 7, 3) := by decide +kernel
theorem dL_law_252 : decode cL_law 252 = .ok (.iconst 1, 1) := by decide +kernel
theorem dL_law_253 : decode cL_law 253 = .ok (.goto 4, 3) := by decide +kernel
theorem dL_law_256 : decode cL_law 256 = .ok (.iconst 0, 1) := by decide +kernel
theorem dL_law_257 : decode cL_law 257 = .ok (.aload_n 0, 1) := by decide +kernel
theorem dL_law_258 : decode cL_law 258 = .ok (.iload 4, 2) := by decide +kernel
theorem dL_law_260 : decode cL_law 260 = .ok (.iconst 5, 1) := by decide +kernel
theorem dL_law_261 : decode cL_law 261 = .ok (.iadd, 1) := by decide +kernel
theorem dL_law_262 : decode cL_law 262 = .ok (.iaload, 1) := by decide +kernel
theorem dL_law_263 : decode cL_law 263 = .ok (.ifCond .eq 7, 3) := by decide +kernel
theorem dL_law_266 : decode cL_law 266 = .ok (.iconst 1, 1) := by decide +kernel
theorem dL_law_267 : decode cL_law 267 = .ok (.goto 4, 3) := by decide +kernel
theorem dL_law_270 : decode cL_law 270 = .ok (.iconst 0, 1) := by decide +kernel
theorem dL_law_271 : decode cL_law 271 = .ok (.aload_n 0, 1) := by decide +kernel
theorem dL_law_272 : decode cL_law 272 = .ok (.iload 4, 2) := by decide +kernel
theorem dL_law_274 : decode cL_law 274 = .ok (.bipush 6, 2) := by decide +kernel
theorem dL_law_276 : decode cL_law 276 = .ok (.iadd, 1) := by decide +kernel
theorem dL_law_277 : decode cL_law 277 = .ok (.iaload, 1) := by decide +kernel
theorem dL_law_278 : decode cL_law 278 = .ok (.ifCond .eq 7, 3) := by decide +kernel
theorem dL_law_281 : decode cL_law 281 = .ok (.iconst 1, 1) := by decide +kernel
theorem dL_law_282 : decode cL_law 282 = .ok (.goto 4, 3) := by decide +kernel
theorem dL_law_285 : decode cL_law 285 = .ok (.iconst 0, 1) := by decide +kernel
theorem dL_law_286 : decode cL_law 286 = .ok (.invokestatic 92, 3) := by decide +kernel
theorem dL_law_289 : decode cL_law 289 = .ok (.istore 5, 2) := by decide +kernel
theorem dL_law_291 : decode cL_law 291 = .ok (.aload_n 2, 1) := by decide +kernel
theorem dL_law_292 : decode cL_law 292 = .ok (.aload_n 0, 1) := by decide +kernel
theorem dL_law_293 : decode cL_law 293 = .ok (.iload 4, 2) := by decide +kernel
theorem dL_law_295 : decode cL_law 295 = .ok (.iconst 1, 1) := by decide +kernel
theorem dL_law_296 : decode cL_law 296 = .ok (.iadd, 1) := by decide +kernel
theorem dL_law_297 : decode cL_law 297 = .ok (.iaload, 1) := by decide +kernel
theorem dL_law_298 : decode cL_law 298 = .ok (.aload_n 0, 1) := by decide +kernel
theorem dL_law_299 : decode cL_law 299 = .ok (.iload 4, 2) := by decide +kernel
theorem dL_law_301 : decode cL_law 301 = .ok (.iconst 2, 1) := by decide +kernel
theorem dL_law_302 : decode cL_law 302 = .ok (.iadd, 1) := by decide +kernel
theorem dL_law_303 : decode cL_law 303 = .ok (.iaload, 1) := by decide +kernel
theorem dL_law_304 : decode cL_law 304 = .ok (.aload_n 0, 1) := by decide +kernel
theorem dL_law_305 : decode cL_law 305 = .ok (.iload 4, 2) := by decide +kernel
theorem dL_law_307 : decode cL_law 307 = .ok (.iconst 3, 1) := by decide +kernel
theorem dL_law_308 : decode cL_law 308 = .ok (.iadd, 1) := by decide +kernel
theorem dL_law_309 : decode cL_law 309 = .ok (.iaload, 1) := by decide +kernel
theorem dL_law_310 : decode cL_law 310 = .ok (.aload_n 0, 1) := by decide +kernel
theorem dL_law_311 : decode cL_law 311 = .ok (.iload 4, 2) := by decide +kernel
theorem dL_law_313 : decode cL_law 313 = .ok (.iconst 4, 1) := by decide +kernel
theorem dL_law_314 : decode cL_law 314 = .ok (.iadd, 1) := by decide +kernel
theorem dL_law_315 : decode cL_law 315 = .ok (.iaload, 1) := by decide +kernel
theorem dL_law_316 : decode cL_law 316 = .ok (.ifCond .eq 7, 3) := by decide +kernel
theorem dL_law_319 : decode cL_law 319 = .ok (.iconst 1, 1) := by decide +kernel
theorem dL_law_320 : decode cL_law 320 = .ok (.goto 4, 3) := by decide +kernel
theorem dL_law_323 : decode cL_law 323 = .ok (.iconst 0, 1) := by decide +kernel
theorem dL_law_324 : decode cL_law 324 = .ok (.aload_n 0, 1) := by decide +kernel
theorem dL_law_325 : decode cL_law 325 = .ok (.iload 4, 2) := by decide +kernel
theorem dL_law_327 : decode cL_law 327 = .ok (.iconst 5, 1) := by decide +kernel
theorem dL_law_328 : decode cL_law 328 = .ok (.iadd, 1) := by decide +kernel
theorem dL_law_329 : decode cL_law 329 = .ok (.iaload, 1) := by decide +kernel
theorem dL_law_330 : decode cL_law 330 = .ok (.ifCond .eq 7, 3) := by decide +kernel
theorem dL_law_333 : decode cL_law 333 = .ok (.iconst 1, 1) := by decide +kernel
theorem dL_law_334 : decode cL_law 334 = .ok (.goto 4, 3) := by decide +kernel
theorem dL_law_337 : decode cL_law 337 = .ok (.iconst 0, 1) := by decide +kernel
theorem dL_law_338 : decode cL_law 338 = .ok (.aload_n 0, 1) := by decide +kernel
theorem dL_law_339 : decode cL_law 339 = .ok (.iload 4, 2) := by decide +kernel
theorem dL_law_341 : decode cL_law 341 = .ok (.bipush 6, 2) := by decide +kernel
theorem dL_law_343 : decode cL_law 343 = .ok (.iadd, 1) := by decide +kernel
theorem dL_law_344 : decode cL_law 344 = .ok (.iaload, 1) := by decide +kernel
theorem dL_law_345 : decode cL_law 345 = .ok (.ifCond .eq 7, 3) := by decide +kernel
theorem dL_law_348 : decode cL_law 348 = .ok (.iconst 1, 1) := by decide +kernel
theorem dL_law_349 : decode cL_law 349 = .ok (.goto 4, 3) := by decide +kernel
theorem dL_law_352 : decode cL_law 352 = .ok (.iconst 0, 1) := by decide +kernel
theorem dL_law_353 : decode cL_law 353 = .ok (.invokevirtual 95, 3) := by decide +kernel
theorem dL_law_356 : decode cL_law 356 = .ok (.aload_n 2, 1) := by decide +kernel
theorem dL_law_357 : decode cL_law 357 = .ok (.invokevirtual 89, 3) := by decide +kernel
theorem dL_law_360 : decode cL_law 360 = .ok (.iload 5, 2) := by decide +kernel
theorem dL_law_362 : decode cL_law 362 = .ok (.if_icmp .eq 5, 3) := by decide +kernel
theorem dL_law_365 : decode cL_law 365 = .ok (.iconst 0, 1) := by decide +kernel
theorem dL_law_366 : decode cL_law 366 = .ok (.ireturn, 1) := by decide +kernel
theorem dL_law_367 : decode cL_law 367 = .ok (.goto 1061, 3) := by decide +kernel
theorem dL_law_370 : decode cL_law 370 = .ok (.aload_n 1, 1) := by decide +kernel
theorem dL_law_371 : decode cL_law 371 = .ok (.aload_n 0, 1) := by decide +kernel
theorem dL_law_372 : decode cL_law 372 = .ok (.iload 4, 2) := by decide +kernel
theorem dL_law_374 : decode cL_law 374 = .ok (.iconst 1, 1) := by decide +kernel
theorem dL_law_375 : decode cL_law 375 = .ok (.iadd, 1) := by decide +kernel
theorem dL_law_376 : decode cL_law 376 = .ok (.iaload, 1) := by decide +kernel
theorem dL_law_377 : decode cL_law 377 = .ok (.aload_n 0, 1) := by decide +kernel
theorem dL_law_378 : decode cL_law 378 = .ok (.iload 4, 2) := by decide +kernel
theorem dL_law_380 : decode cL_law 380 = .ok (.iconst 2, 1) := by decide +kernel
theorem dL_law_381 : decode cL_law 381 = .ok (.iadd, 1) := by decide +kernel
theorem dL_law_382 : decode cL_law 382 = .ok (.iaload, 1) := by decide +kernel
theorem dL_law_383 : decode cL_law 383 = .ok (.aload_n 3, 1) := by decide +kernel
theorem dL_law_384 : decode cL_law 384 = .ok (.invokestatic 96, 3) := by decide +kernel
theorem dL_law_387 : decode cL_law 387 = .ok (.istore 5, 2) := by decide +kernel
theorem dL_law_389 : decode cL_law 389 = .ok (.aload_n 2, 1) := by decide +kernel
theorem dL_law_390 : decode cL_law 390 = .ok (.aload_n 0, 1) := by decide +kernel
theorem dL_law_391 : decode cL_law 391 = .ok (.iload 4, 2) := by decide +kernel
theorem dL_law_393 : decode cL_law 393 = .ok (.iconst 1, 1) := by decide +kernel
theorem dL_law_394 : decode cL_law 394 = .ok (.iadd, 1) := by decide +kernel
theorem dL_law_395 : decode cL_law 395 = .ok (.iaload, 1) := by decide +kernel
theorem dL_law_396 : decode cL_law 396 = .ok (.aload_n 0, 1) := by decide +kernel
theorem dL_law_397 : decode cL_law 397 = .ok (.iload 4, 2) := by decide +kernel
theorem dL_law_399 : decode cL_law 399 = .ok (.iconst 2, 1) := by decide +kernel
theorem dL_law_400 : decode cL_law 400 = .ok (.iadd, 1) := by decide +kernel
theorem dL_law_401 : decode cL_law 401 = .ok (.iaload, 1) := by decide +kernel
theorem dL_law_402 : decode cL_law 402 = .ok (.invokevirtual 99, 3) := by decide +kernel
theorem dL_law_405 : decode cL_law 405 = .ok (.istore 6, 2) := by decide +kernel
theorem dL_law_407 : decode cL_law 407 = .ok (.aload_n 2, 1) := by decide +kernel
theorem dL_law_408 : decode cL_law 408 = .ok (.invokevirtual 89, 3) := by decide +kernel
theorem dL_law_411 : decode cL_law 411 = .ok (.iload 5, 2) := by decide +kernel
theorem dL_law_413 : decode cL_law 413 = .ok (.if_icmp .eq 5, 3) := by decide +kernel
theorem dL_law_416 : decode cL_law 416 = .ok (.iconst 0, 1) := by decide +kernel
theorem dL_law_417 : decode cL_law 417 = .ok (.ireturn, 1) := by decide +kernel
theorem dL_law_418 : decode cL_law 418 = .ok (.iload 5, 2) := by decide +kernel
theorem dL_law_420 : decode cL_law 420 = .ok (.ifCond .ne 15, 3) := by decide +kernel
theorem dL_law_423 : decode cL_law 423 = .ok (.aload_n 3, 1) := by decide +kernel
theorem dL_law_424 : decode cL_law 424 = .ok (.iconst 0, 1) := by decide +kernel
theorem dL_law_425 : decode cL_law 425 = .ok (.laload, 1) := by decide +kernel
theorem dL_law_426 : decode cL_law 426 = .ok (.iload 6, 2) := by decide +kernel
theorem dL_law_428 : decode cL_law 428 = .ok (.i2l, 1) := by decide +kernel
theorem dL_law_429 : decode cL_law 429 = .ok (.lcmp, 1) := by decide +kernel
theorem dL_law_430 : decode cL_law 430 = .ok (.ifCond .eq 5, 3) := by decide +kernel
theorem dL_law_433 : decode cL_law 433 = .ok (.iconst 0, 1) := by decide +kernel
theorem dL_law_434 : decode cL_law 434 = .ok (.ireturn, 1) := by decide +kernel
theorem dL_law_435 : decode cL_law 435 = .ok (.goto 993, 3) := by decide +kernel
theorem dL_law_438 : decode cL_law 438 = .ok (.aload_n 1, 1) := by decide +kernel
theorem dL_law_439 : decode cL_law 439 = .ok (.aload_n 0, 1) := by decide +kernel
theorem dL_law_440 : decode cL_law 440 = .ok (.iload 4, 2) := by decide +kernel
theorem dL_law_442 : decode cL_law 442 = .ok (.iconst 1, 1) := by decide +kernel
theorem dL_law_443 : decode cL_law 443 = .ok (.iadd, 1) := by decide +kernel
theorem dL_law_444 : decode cL_law 444 = .ok (.iaload, 1) := by decide +kernel
theorem dL_law_445 : decode cL_law 445 = .ok (.aload_n 0, 1) := by decide +kernel
theorem dL_law_446 : decode cL_law 446 = .ok (.iload 4, 2) := by decide +kernel
theorem dL_law_448 : decode cL_law 448 = .ok (.iconst 2, 1) := by decide +kernel
theorem dL_law_449 : decode cL_law 449 = .ok (.iadd, 1) := by decide +kernel
theorem dL_law_450 : decode cL_law 450 = .ok (.iaload, 1) := by decide +kernel
theorem dL_law_451 : decode cL_law 451 = .ok (.invokestatic 100, 3) := by decide +kernel
theorem dL_law_454 : decode cL_law 454 = .ok (.istore 5, 2) := by decide +kernel
theorem dL_law_456 : decode cL_law 456 = .ok (.aload_n 2, 1) := by decide +kernel
theorem dL_law_457 : decode cL_law 457 = .ok (.aload_n 0, 1) := by decide +kernel
theorem dL_law_458 : decode cL_law 458 = .ok (.iload 4, 2) := by decide +kernel
theorem dL_law_460 : decode cL_law 460 = .ok (.iconst 1, 1) := by decide +kernel
theorem dL_law_461 : decode cL_law 461 = .ok (.iadd, 1) := by decide +kernel
theorem dL_law_462 : decode cL_law 462 = .ok (.iaload, 1) := by decide +kernel
theorem dL_law_463 : decode cL_law 463 = .ok (.aload_n 0, 1) := by decide +kernel
theorem dL_law_464 : decode cL_law 464 = .ok (.iload 4, 2) := by decide +kernel
theorem dL_law_466 : decode cL_law 466 = .ok (.iconst 2, 1) := by decide +kernel
theorem dL_law_467 : decode cL_law 467 = .ok (.iadd, 1) := by decide +kernel
theorem dL_law_468 : decode cL_law 468 = .ok (.iaload, 1) := by decide +kernel
theorem dL_law_469 : decode cL_law 469 = .ok (.invokevirtual 103, 3) := by decide +kernel
theorem dL_law_472 : decode cL_law 472 = .ok (.aload_n 2, 1) := by decide +kernel
theorem dL_law_473 : decode cL_law 473 = .ok (.invokevirtual 89, 3) := by decide +kernel
theorem dL_law_476 : decode cL_law 476 = .ok (.iload 5, 2) := by decide +kernel
theorem dL_law_478 : decode cL_law 478 = .ok (.if_icmp .eq 5, 3) := by decide +kernel
theorem dL_law_481 : decode cL_law 481 = .ok (.iconst 0, 1) := by decide +kernel
theorem dL_law_482 : decode cL_law 482 = .ok (.ireturn, 1) := by decide +kernel
theorem dL_law_483 : decode cL_law 483 = .ok (.goto 945, 3) := by decide +kernel
theorem dL_law_486 : decode cL_law 486 = .ok (.aload_n 1, 1) := by decide +kernel
theorem dL_law_487 : decode cL_law 487 = .ok (.aload_n 0, 1) := by decide +kernel
theorem dL_law_488 : decode cL_law 488 = .ok (.iload 4, 2) := by decide +kernel
theorem dL_law_490 : decode cL_law 490 = .ok (.iconst 1, 1) := by decide +kernel
theorem dL_law_491 : decode cL_law 491 = .ok (.iadd, 1) := by decide +kernel
theorem dL_law_492 : decode cL_law 492 = .ok (.iaload, 1) := by decide +kernel
theorem dL_law_493 : decode cL_law 493 = .ok (.aload_n 3, 1) := by decide +kernel
theorem dL_law_494 : decode cL_law 494 = .ok (.invokestatic 104, 3) := by decide +kernel
theorem dL_law_497 : decode cL_law 497 = .ok (.istore 5, 2) := by decide +kernel
theorem dL_law_499 : decode cL_law 499 = .ok (.aload_n 2, 1) := by decide +kernel
theorem dL_law_500 : decode cL_law 500 = .ok (.aload_n 0, 1) := by decide +kernel
theorem dL_law_501 : decode cL_law 501 = .ok (.iload 4, 2) := by decide +kernel
theorem dL_law_503 : decode cL_law 503 = .ok (.iconst 1, 1) := by decide +kernel
theorem dL_law_504 : decode cL_law 504 = .ok (.iadd, 1) := by decide +kernel
theorem dL_law_505 : decode cL_law 505 = .ok (.iaload, 1) := by decide +kernel
theorem dL_law_506 : decode cL_law 506 = .ok (.invokevirtual 107, 3) := by decide +kernel
theorem dL_law_509 : decode cL_law 509 = .ok (.istore 6, 2) := by decide +kernel
theorem dL_law_511 : decode cL_law 511 = .ok (.aload_n 2, 1) := by decide +kernel
theorem dL_law_512 : decode cL_law 512 = .ok (.invokevirtual 89, 3) := by decide +kernel
theorem dL_law_515 : decode cL_law 515 = .ok (.iload 5, 2) := by decide +kernel
theorem dL_law_517 : decode cL_law 517 = .ok (.if_icmp .eq 5, 3) := by decide +kernel
theorem dL_law_520 : decode cL_law 520 = .ok (.iconst 0, 1) := by decide +kernel
theorem dL_law_521 : decode cL_law 521 = .ok (.ireturn, 1) := by decide +kernel
theorem dL_law_522 : decode cL_law 522 = .ok (.iload 5, 2) := by decide +kernel
theorem dL_law_524 : decode cL_law 524 = .ok (.ifCond .ne 22, 3) := by decide +kernel
theorem dL_law_527 : decode cL_law 527 = .ok (.aload_n 3, 1) := by decide +kernel
theorem dL_law_528 : decode cL_law 528 = .ok (.iconst 0, 1) := by decide +kernel
theorem dL_law_529 : decode cL_law 529 = .ok (.laload, 1) := by decide +kernel
theorem dL_law_530 : decode cL_law 530 = .ok (.iload 6, 2) := by decide +kernel
theorem dL_law_532 : decode cL_law 532 = .ok (.ifCond .eq 7, 3) := by decide +kernel
theorem dL_law_535 : decode cL_law 535 = .ok (.lconst 1, 1) := by decide +kernel
theorem dL_law_536 : decode cL_law 536 = .ok (.goto 4, 3) := by decide +kernel
theorem dL_law_539 : decode cL_law 539 = .ok (.lconst 0, 1) := by decide +kernel
theorem dL_law_540 : decode cL_law 540 = .ok (.lcmp, 1) := by decide +kernel
theorem dL_law_541 : decode cL_law 541 = .ok (.ifCond .eq 5, 3) := by decide +kernel
theorem dL_law_544 : decode cL_law 544 = .ok (.iconst 0, 1) := by decide +kernel
theorem dL_law_545 : decode cL_law 545 = .ok (.ireturn, 1) := by decide +kernel
theorem dL_law_546 : decode cL_law 546 = .ok (.goto 882, 3) := by decide +kernel
theorem dL_law_549 : decode cL_law 549 = .ok (.aload_n 1, 1) := by decide +kernel
theorem dL_law_550 : decode cL_law 550 = .ok (.aload_n 0, 1) := by decide +kernel
theorem dL_law_551 : decode cL_law 551 = .ok (.iload 4, 2) := by decide +kernel
theorem dL_law_553 : decode cL_law 553 = .ok (.iconst 1, 1) := by decide +kernel
theorem dL_law_554 : decode cL_law 554 = .ok (.iadd, 1) := by decide +kernel
theorem dL_law_555 : decode cL_law 555 = .ok (.iaload, 1) := by decide +kernel
theorem dL_law_556 : decode cL_law 556 = .ok (.aload_n 3, 1) := by decide +kernel
theorem dL_law_557 : decode cL_law 557 = .ok (.invokestatic 108, 3) := by decide +kernel
theorem dL_law_560 : decode cL_law 560 = .ok (.istore 5, 2) := by decide +kernel
theorem dL_law_562 : decode cL_law 562 = .ok (.aload_n 2, 1) := by decide +kernel
theorem dL_law_563 : decode cL_law 563 = .ok (.aload_n 0, 1) := by decide +kernel
theorem dL_law_564 : decode cL_law 564 = .ok (.iload 4, 2) := by decide +kernel
theorem dL_law_566 : decode cL_law 566 = .ok (.iconst 1, 1) := by decide +kernel
theorem dL_law_567 : decode cL_law 567 = .ok (.iadd, 1) := by decide +kernel
theorem dL_law_568 : decode cL_law 568 = .ok (.iaload, 1) := by decide +kernel
theorem dL_law_569 : decode cL_law 569 = .ok (.invokevirtual 110, 3) := by decide +kernel
theorem dL_law_572 : decode cL_law 572 = .ok (.istore 6, 2) := by decide +kernel
theorem dL_law_574 : decode cL_law 574 = .ok (.aload_n 2, 1) := by decide +kernel
theorem dL_law_575 : decode cL_law 575 = .ok (.invokevirtual 89, 3) := by decide +kernel
theorem dL_law_578 : decode cL_law 578 = .ok (.iload 5, 2) := by decide +kernel
theorem dL_law_580 : decode cL_law 580 = .ok (.if_icmp .eq 5, 3) := by decide +kernel
theorem dL_law_583 : decode cL_law 583 = .ok (.iconst 0, 1) := by decide +kernel
theorem dL_law_584 : decode cL_law 584 = .ok (.ireturn, 1) := by decide +kernel
theorem dL_law_585 : decode cL_law 585 = .ok (.iload 5, 2) := by decide +kernel
theorem dL_law_587 : decode cL_law 587 = .ok (.ifCond .ne 22, 3) := by decide +kernel
theorem dL_law_590 : decode cL_law 590 = .ok (.aload_n 3, 1) := by decide +kernel
theorem dL_law_591 : decode cL_law 591 = .ok (.iconst 0, 1) := by decide +kernel
theorem dL_law_592 : decode cL_law 592 = .ok (.laload, 1) := by decide +kernel
theorem dL_law_593 : decode cL_law 593 = .ok (.iload 6, 2) := by decide +kernel
theorem dL_law_595 : decode cL_law 595 = .ok (.ifCond .eq 7, 3) := by decide +kernel
theorem dL_law_598 : decode cL_law 598 = .ok (.lconst 1, 1) := by decide +kernel
theorem dL_law_599 : decode cL_law 599 = .ok (.goto 4, 3) := by decide +kernel
theorem dL_law_602 : decode cL_law 602 = .ok (.lconst 0, 1) := by decide +kernel
theorem dL_law_603 : decode cL_law 603 = .ok (.lcmp, 1) := by decide +kernel
theorem dL_law_604 : decode cL_law 604 = .ok (.ifCond .eq 5, 3) := by decide +kernel
theorem dL_law_607 : decode cL_law 607 = .ok (.iconst 0, 1) := by decide +kernel
theorem dL_law_608 : decode cL_law 608 = .ok (.ireturn, 1) := by decide +kernel
theorem dL_law_609 : decode cL_law 609 = .ok (.goto 819, 3) := by decide +kernel
theorem dL_law_612 : decode cL_law 612 = .ok (.aload_n 1, 1) := by decide +kernel
theorem dL_law_613 : decode cL_law 613 = .ok (.aload_n 0, 1) := by decide +kernel
theorem dL_law_614 : decode cL_law 614 = .ok (.iload 4, 2) := by decide +kernel
theorem dL_law_616 : decode cL_law 616 = .ok (.iconst 1, 1) := by decide +kernel
theorem dL_law_617 : decode cL_law 617 = .ok (.iadd, 1) := by decide +kernel
theorem dL_law_618 : decode cL_law 618 = .ok (.iaload, 1) := by decide +kernel
theorem dL_law_619 : decode cL_law 619 = .ok (.aload_n 0, 1) := by decide +kernel
theorem dL_law_620 : decode cL_law 620 = .ok (.iload 4, 2) := by decide +kernel
theorem dL_law_622 : decode cL_law 622 = .ok (.iconst 2, 1) := by decide +kernel
theorem dL_law_623 : decode cL_law 623 = .ok (.iadd, 1) := by decide +kernel
theorem dL_law_624 : decode cL_law 624 = .ok (.iaload, 1) := by decide +kernel
theorem dL_law_625 : decode cL_law 625 = .ok (.aload_n 3, 1) := by decide +kernel
theorem dL_law_626 : decode cL_law 626 = .ok (.invokestatic 111, 3) := by decide +kernel
theorem dL_law_629 : decode cL_law 629 = .ok (.istore 5, 2) := by decide +kernel
theorem dL_law_631 : decode cL_law 631 = .ok (.aload_n 2, 1) := by decide +kernel
theorem dL_law_632 : decode cL_law 632 = .ok (.aload_n 0, 1) := by decide +kernel
theorem dL_law_633 : decode cL_law 633 = .ok (.iload 4, 2) := by decide +kernel
theorem dL_law_635 : decode cL_law 635 = .ok (.iconst 1, 1) := by decide +kernel
theorem dL_law_636 : decode cL_law 636 = .ok (.iadd, 1) := by decide +kernel
theorem dL_law_637 : decode cL_law 637 = .ok (.iaload, 1) := by decide +kernel
theorem dL_law_638 : decode cL_law 638 = .ok (.aload_n 0, 1) := by decide +kernel
theorem dL_law_639 : decode cL_law 639 = .ok (.iload 4, 2) := by decide +kernel
theorem dL_law_641 : decode cL_law 641 = .ok (.iconst 2, 1) := by decide +kernel
theorem dL_law_642 : decode cL_law 642 = .ok (.iadd, 1) := by decide +kernel
theorem dL_law_643 : decode cL_law 643 = .ok (.iaload, 1) := by decide +kernel
theorem dL_law_644 : decode cL_law 644 = .ok (.invokevirtual 113, 3) := by decide +kernel
theorem dL_law_647 : decode cL_law 647 = .ok (.istore 6, 2) := by decide +kernel
theorem dL_law_649 : decode cL_law 649 = .ok (.aload_n 2, 1) := by decide +kernel
theorem dL_law_650 : decode cL_law 650 = .ok (.invokevirtual 89, 3) := by decide +kernel
theorem dL_law_653 : decode cL_law 653 = .ok (.iload 5, 2) := by decide +kernel
theorem dL_law_655 : decode cL_law 655 = .ok (.if_icmp .eq 5, 3) := by decide +kernel
theorem dL_law_658 : decode cL_law 658 = .ok (.iconst 0, 1) := by decide +kernel
theorem dL_law_659 : decode cL_law 659 = .ok (.ireturn, 1) := by decide +kernel
theorem dL_law_660 : decode cL_law 660 = .ok (.iload 5, 2) := by decide +kernel
theorem dL_law_662 : decode cL_law 662 = .ok (.ifCond .ne 15, 3) := by decide +kernel
theorem dL_law_665 : decode cL_law 665 = .ok (.aload_n 3, 1) := by decide +kernel
theorem dL_law_666 : decode cL_law 666 = .ok (.iconst 0, 1) := by decide +kernel
theorem dL_law_667 : decode cL_law 667 = .ok (.laload, 1) := by decide +kernel
theorem dL_law_668 : decode cL_law 668 = .ok (.iload 6, 2) := by decide +kernel
theorem dL_law_670 : decode cL_law 670 = .ok (.i2l, 1) := by decide +kernel
theorem dL_law_671 : decode cL_law 671 = .ok (.lcmp, 1) := by decide +kernel
theorem dL_law_672 : decode cL_law 672 = .ok (.ifCond .eq 5, 3) := by decide +kernel
theorem dL_law_675 : decode cL_law 675 = .ok (.iconst 0, 1) := by decide +kernel
theorem dL_law_676 : decode cL_law 676 = .ok (.ireturn, 1) := by decide +kernel
theorem dL_law_677 : decode cL_law 677 = .ok (.goto 751, 3) := by decide +kernel
theorem dL_law_680 : decode cL_law 680 = .ok (.aload_n 1, 1) := by decide +kernel
theorem dL_law_681 : decode cL_law 681 = .ok (.aload_n 0, 1) := by decide +kernel
theorem dL_law_682 : decode cL_law 682 = .ok (.iload 4, 2) := by decide +kernel
theorem dL_law_684 : decode cL_law 684 = .ok (.iconst 1, 1) := by decide +kernel
theorem dL_law_685 : decode cL_law 685 = .ok (.iadd, 1) := by decide +kernel
theorem dL_law_686 : decode cL_law 686 = .ok (.iaload, 1) := by decide +kernel
theorem dL_law_687 : decode cL_law 687 = .ok (.aload_n 3, 1) := by decide +kernel
theorem dL_law_688 : decode cL_law 688 = .ok (.invokestatic 114, 3) := by decide +kernel
theorem dL_law_691 : decode cL_law 691 = .ok (.istore 5, 2) := by decide +kernel
theorem dL_law_693 : decode cL_law 693 = .ok (.aload_n 2, 1) := by decide +kernel
theorem dL_law_694 : decode cL_law 694 = .ok (.aload_n 0, 1) := by decide +kernel
theorem dL_law_695 : decode cL_law 695 = .ok (.iload 4, 2) := by decide +kernel
theorem dL_law_697 : decode cL_law 697 = .ok (.iconst 1, 1) := by decide +kernel
theorem dL_law_698 : decode cL_law 698 = .ok (.iadd, 1) := by decide +kernel
theorem dL_law_699 : decode cL_law 699 = .ok (.iaload, 1) := by decide +kernel
theorem dL_law_700 : decode cL_law 700 = .ok (.invokevirtual 116, 3) := by decide +kernel
theorem dL_law_703 : decode cL_law 703 = .ok (.istore 6, 2) := by decide +kernel
theorem dL_law_705 : decode cL_law 705 = .ok (.aload_n 2, 1) := by decide +kernel
theorem dL_law_706 : decode cL_law 706 = .ok (.invokevirtual 89, 3) := by decide +kernel
theorem dL_law_709 : decode cL_law 709 = .ok (.iload 5, 2) := by decide +kernel
theorem dL_law_711 : decode cL_law 711 = .ok (.if_icmp .eq 5, 3) := by decide +kernel
theorem dL_law_714 : decode cL_law 714 = .ok (.iconst 0, 1) := by decide +kernel
theorem dL_law_715 : decode cL_law 715 = .ok (.ireturn, 1) := by decide +kernel
theorem dL_law_716 : decode cL_law 716 = .ok (.iload 5, 2) := by decide +kernel
theorem dL_law_718 : decode cL_law 718 = .ok (.ifCond .ne 15, 3) := by decide +kernel
theorem dL_law_721 : decode cL_law 721 = .ok (.aload_n 3, 1) := by decide +kernel
theorem dL_law_722 : decode cL_law 722 = .ok (.iconst 0, 1) := by decide +kernel
theorem dL_law_723 : decode cL_law 723 = .ok (.laload, 1) := by decide +kernel
theorem dL_law_724 : decode cL_law 724 = .ok (.iload 6, 2) := by decide +kernel
theorem dL_law_726 : decode cL_law 726 = .ok (.i2l, 1) := by decide +kernel
theorem dL_law_727 : decode cL_law 727 = .ok (.lcmp, 1) := by decide +kernel
theorem dL_law_728 : decode cL_law 728 = .ok (.ifCond .eq 5, 3) := by decide +kernel
theorem dL_law_731 : decode cL_law 731 = .ok (.iconst 0, 1) := by decide +kernel
theorem dL_law_732 : decode cL_law 732 = .ok (.ireturn, 1) := by decide +kernel
theorem dL_law_733 : decode cL_law 733 = .ok (.goto 695, 3) := by decide +kernel
theorem dL_law_736 : decode cL_law 736 = .ok (.aload_n 1, 1) := by decide +kernel
theorem dL_law_737 : decode cL_law 737 = .ok (.invokevirtual 117, 3) := by decide +kernel
theorem dL_law_740 : decode cL_law 740 = .ok (.aload_n 2, 1) := by decide +kernel
theorem dL_law_741 : decode cL_law 741 = .ok (.invokevirtual 120, 3) := by decide +kernel
theorem dL_law_744 : decode cL_law 744 = .ok (.if_icmp .eq 684, 3) := by decide +kernel
theorem dL_law_747 : decode cL_law 747 = .ok (.iconst 0, 1) := by decide +kernel
theorem dL_law_748 : decode cL_law 748 = .ok (.ireturn, 1) := by decide +kernel
theorem dL_law_749 : decode cL_law 749 = .ok (.aload_n 1, 1) := by decide +kernel
theorem dL_law_750 : decode cL_law 750 = .ok (.aload_n 0, 1) := by decide +kernel
theorem dL_law_751 : decode cL_law 751 = .ok (.iload 4, 2) := by decide +kernel
theorem dL_law_753 : decode cL_law 753 = .ok (.iconst 1, 1) := by decide +kernel
theorem dL_law_754 : decode cL_law 754 = .ok (.iadd, 1) := by decide +kernel
theorem dL_law_755 : decode cL_law 755 = .ok (.iaload, 1) := by decide +kernel
theorem dL_law_756 : decode cL_law 756 = .ok (.aload_n 3, 1) := by decide +kernel
theorem dL_law_757 : decode cL_law 757 = .ok (.invokestatic 121, 3) := by decide +kernel
theorem dL_law_760 : decode cL_law 760 = .ok (.istore 5, 2) := by decide +kernel
theorem dL_law_762 : decode cL_law 762 = .ok (.aload_n 2, 1) := by decide +kernel
theorem dL_law_763 : decode cL_law 763 = .ok (.aload_n 0, 1) := by decide +kernel
theorem dL_law_764 : decode cL_law 764 = .ok (.iload 4, 2) := by decide +kernel
theorem dL_law_766 : decode cL_law 766 = .ok (.iconst 1, 1) := by decide +kernel
theorem dL_law_767 : decode cL_law 767 = .ok (.iadd, 1) := by decide +kernel
theorem dL_law_768 : decode cL_law 768 = .ok (.iaload, 1) := by decide +kernel
theorem dL_law_769 : decode cL_law 769 = .ok (.invokevirtual 123, 3) := by decide +kernel
theorem dL_law_772 : decode cL_law 772 = .ok (.istore 6, 2) := by decide +kernel
theorem dL_law_774 : decode cL_law 774 = .ok (.aload_n 2, 1) := by decide +kernel
theorem dL_law_775 : decode cL_law 775 = .ok (.invokevirtual 89, 3) := by decide +kernel
theorem dL_law_778 : decode cL_law 778 = .ok (.iload 5, 2) := by decide +kernel
theorem dL_law_780 : decode cL_law 780 = .ok (.if_icmp .eq 5, 3) := by decide +kernel
theorem dL_law_783 : decode cL_law 783 = .ok (.iconst 0, 1) := by decide +kernel
theorem dL_law_784 : decode cL_law 784 = .ok (.ireturn, 1) := by decide +kernel
theorem dL_law_785 : decode cL_law 785 = .ok (.iload 5, 2) := by decide +kernel
theorem dL_law_787 : decode cL_law 787 = .ok (.ifCond .ne 15, 3) := by decide +kernel
theorem dL_law_790 : decode cL_law 790 = .ok (.aload_n 3, 1) := by decide +kernel
theorem dL_law_791 : decode cL_law 791 = .ok (.iconst 0, 1) := by decide +kernel
theorem dL_law_792 : decode cL_law 792 = .ok (.laload, 1) := by decide +kernel
theorem dL_law_793 : decode cL_law 793 = .ok (.iload 6, 2) := by decide +kernel
theorem dL_law_795 : decode cL_law 795 = .ok (.i2l, 1) := by decide +kernel
theorem dL_law_796 : decode cL_law 796 = .ok (.lcmp, 1) := by decide +kernel
theorem dL_law_797 : decode cL_law 797 = .ok (.ifCond .eq 5, 3) := by decide +kernel
theorem dL_law_800 : decode cL_law 800 = .ok (.iconst 0, 1) := by decide +kernel
theorem dL_law_801 : decode cL_law 801 = .ok (.ireturn, 1) := by decide +kernel
theorem dL_law_802 : decode cL_law 802 = .ok (.goto 626, 3) := by decide +kernel
theorem dL_law_805 : decode cL_law 805 = .ok (.aload_n 1, 1) := by decide +kernel
theorem dL_law_806 : decode cL_law 806 = .ok (.aload_n 0, 1) := by decide +kernel
theorem dL_law_807 : decode cL_law 807 = .ok (.iload 4, 2) := by decide +kernel
theorem dL_law_809 : decode cL_law 809 = .ok (.iconst 1, 1) := by decide +kernel
theorem dL_law_810 : decode cL_law 810 = .ok (.iadd, 1) := by decide +kernel
theorem dL_law_811 : decode cL_law 811 = .ok (.iaload, 1) := by decide +kernel
theorem dL_law_812 : decode cL_law 812 = .ok (.aload_n 3, 1) := by decide +kernel
theorem dL_law_813 : decode cL_law 813 = .ok (.invokestatic 124, 3) := by decide +kernel
theorem dL_law_816 : decode cL_law 816 = .ok (.istore 5, 2) := by decide +kernel
theorem dL_law_818 : decode cL_law 818 = .ok (.aload_n 2, 1) := by decide +kernel
theorem dL_law_819 : decode cL_law 819 = .ok (.aload_n 0, 1) := by decide +kernel
theorem dL_law_820 : decode cL_law 820 = .ok (.iload 4, 2) := by decide +kernel
theorem dL_law_822 : decode cL_law 822 = .ok (.iconst 1, 1) := by decide +kernel
theorem dL_law_823 : decode cL_law 823 = .ok (.iadd, 1) := by decide +kernel
theorem dL_law_824 : decode cL_law 824 = .ok (.iaload, 1) := by decide +kernel
theorem dL_law_825 : decode cL_law 825 = .ok (.invokevirtual 126, 3) := by decide +kernel
theorem dL_law_828 : decode cL_law 828 = .ok (.istore 6, 2) := by decide +kernel
theorem dL_law_830 : decode cL_law 830 = .ok (.aload_n 2, 1) := by decide +kernel
theorem dL_law_831 : decode cL_law 831 = .ok (.invokevirtual 89, 3) := by decide +kernel
theorem dL_law_834 : decode cL_law 834 = .ok (.iload 5, 2) := by decide +kernel
theorem dL_law_836 : decode cL_law 836 = .ok (.if_icmp .eq 5, 3) := by decide +kernel
theorem dL_law_839 : decode cL_law 839 = .ok (.iconst 0, 1) := by decide +kernel
theorem dL_law_840 : decode cL_law 840 = .ok (.ireturn, 1) := by decide +kernel
theorem dL_law_841 : decode cL_law 841 = .ok (.iload 5, 2) := by decide +kernel
theorem dL_law_843 : decode cL_law 843 = .ok (.ifCond .ne 15, 3) := by decide +kernel
theorem dL_law_846 : decode cL_law 846 = .ok (.aload_n 3, 1) := by decide +kernel
theorem dL_law_847 : decode cL_law 847 = .ok (.iconst 0, 1) := by decide +kernel
theorem dL_law_848 : decode cL_law 848 = .ok (.laload, 1) := by decide +kernel
theorem dL_law_849 : decode cL_law 849 = .ok (.iload 6, 2) := by decide +kernel
theorem dL_law_851 : decode cL_law 851 = .ok (.i2l, 1) := by decide +kernel
theorem dL_law_852 : decode cL_law 852 = .ok (.lcmp, 1) := by decide +kernel
theorem dL_law_853 : decode cL_law 853 = .ok (.ifCond .eq 5, 3) := by decide +kernel
theorem dL_law_856 : decode cL_law 856 = .ok (.iconst 0, 1) := by decide +kernel
theorem dL_law_857 : decode cL_law 857 = .ok (.ireturn, 1) := by decide +kernel
theorem dL_law_858 : decode cL_law 858 = .ok (.goto 570, 3) := by decide +kernel
theorem dL_law_861 : decode cL_law 861 = .ok (.aload_n 1, 1) := by decide +kernel
theorem dL_law_862 : decode cL_law 862 = .ok (.invokevirtual 127, 3) := by decide +kernel
theorem dL_law_865 : decode cL_law 865 = .ok (.aload_n 2, 1) := by decide +kernel
theorem dL_law_866 : decode cL_law 866 = .ok (.invokevirtual 130, 3) := by decide +kernel
theorem dL_law_869 : decode cL_law 869 = .ok (.if_icmp .eq 559, 3) := by decide +kernel
theorem dL_law_872 : decode cL_law 872 = .ok (.iconst 0, 1) := by decide +kernel
theorem dL_law_873 : decode cL_law 873 = .ok (.ireturn, 1) := by decide +kernel
theorem dL_law_874 : decode cL_law 874 = .ok (.aload_n 1, 1) := by decide +kernel
theorem dL_law_875 : decode cL_law 875 = .ok (.aload_n 0, 1) := by decide +kernel
theorem dL_law_876 : decode cL_law 876 = .ok (.iload 4, 2) := by decide +kernel
theorem dL_law_878 : decode cL_law 878 = .ok (.iconst 1, 1) := by decide +kernel
theorem dL_law_879 : decode cL_law 879 = .ok (.iadd, 1) := by decide +kernel
theorem dL_law_880 : decode cL_law 880 = .ok (.iaload, 1) := by decide +kernel
theorem dL_law_881 : decode cL_law 881 = .ok (.aload_n 3, 1) := by decide +kernel
theorem dL_law_882 : decode cL_law 882 = .ok (.invokestatic 131, 3) := by decide +kernel
theorem dL_law_885 : decode cL_law 885 = .ok (.istore 5, 2) := by decide +kernel
theorem dL_law_887 : decode cL_law 887 = .ok (.aload_n 2, 1) := by decide +kernel
theorem dL_law_888 : decode cL_law 888 = .ok (.aload_n 0, 1) := by decide +kernel
theorem dL_law_889 : decode cL_law 889 = .ok (.iload 4, 2) := by decide +kernel
theorem dL_law_891 : decode cL_law 891 = .ok (.iconst 1, 1) := by decide +kernel
theorem dL_law_892 : decode cL_law 892 = .ok (.iadd, 1) := by decide +kernel
theorem dL_law_893 : decode cL_law 893 = .ok (.iaload, 1) := by decide +kernel
theorem dL_law_894 : decode cL_law 894 = .ok (.invokevirtual 133, 3) := by decide +kernel
theorem dL_law_897 : decode cL_law 897 = .ok (.istore 6, 2) := by decide +kernel
theorem dL_law_899 : decode cL_law 899 = .ok (.aload_n 2, 1) := by decide +kernel
theorem dL_law_900 : decode cL_law 900 = .ok (.invokevirtual 89, 3) := by decide +kernel
theorem dL_law_903 : decode cL_law 903 = .ok (.iload 5, 2) := by decide +kernel
theorem dL_law_905 : decode cL_law 905 = .ok (.if_icmp .eq 5, 3) := by decide +kernel
theorem dL_law_908 : decode cL_law 908 = .ok (.iconst 0, 1) := by decide +kernel
theorem dL_law_909 : decode cL_law 909 = .ok (.ireturn, 1) := by decide +kernel
theorem dL_law_910 : decode cL_law 910 = .ok (.iload 5, 2) := by decide +kernel
theorem dL_law_912 : decode cL_law 912 = .ok (.ifCond .ne 22, 3) := by decide +kernel
theorem dL_law_915 : decode cL_law 915 = .ok (.aload_n 3, 1) := by decide +kernel
theorem dL_law_916 : decode cL_law 916 = .ok (.iconst 0, 1) := by decide +kernel
theorem dL_law_917 : decode cL_law 917 = .ok (.laload, 1) := by decide +kernel
theorem dL_law_918 : decode cL_law 918 = .ok (.iload 6, 2) := by decide +kernel
theorem dL_law_920 : decode cL_law 920 = .ok (.ifCond .eq 7, 3) := by decide +kernel
theorem dL_law_923 : decode cL_law 923 = .ok (.lconst 1, 1) := by decide +kernel
theorem dL_law_924 : decode cL_law 924 = .ok (.goto 4, 3) := by decide +kernel
theorem dL_law_927 : decode cL_law 927 = .ok (.lconst 0, 1) := by decide +kernel
theorem dL_law_928 : decode cL_law 928 = .ok (.lcmp, 1) := by decide +kernel
theorem dL_law_929 : decode cL_law 929 = .ok (.ifCond .eq 5, 3) := by decide +kernel
theorem dL_law_932 : decode cL_law 932 = .ok (.iconst 0, 1) := by decide +kernel
theorem dL_law_933 : decode cL_law 933 = .ok (.ireturn, 1) := by decide +kernel
theorem dL_law_934 : decode cL_law 934 = .ok (.goto 494, 3) := by decide +kernel
theorem dL_law_937 : decode cL_law 937 = .ok (.aload_n 1, 1) := by decide +kernel
theorem dL_law_938 : decode cL_law 938 = .ok (.aload_n 0, 1) := by decide +kernel
theorem dL_law_939 : decode cL_law 939 = .ok (.iload 4, 2) := by decide +kernel
theorem dL_law_941 : decode cL_law 941 = .ok (.iconst 1, 1) := by decide +kernel
theorem dL_law_942 : decode cL_law 942 = .ok (.iadd, 1) := by decide +kernel
theorem dL_law_943 : decode cL_law 943 = .ok (.iaload, 1) := by decide +kernel
theorem dL_law_944 : decode cL_law 944 = .ok (.aload_n 3, 1) := by decide +kernel
theorem dL_law_945 : decode cL_law 945 = .ok (.invokestatic 134, 3) := by decide +kernel
theorem dL_law_948 : decode cL_law 948 = .ok (.istore 5, 2) := by decide +kernel
theorem dL_law_950 : decode cL_law 950 = .ok (.aload_n 2, 1) := by decide +kernel
theorem dL_law_951 : decode cL_law 951 = .ok (.aload_n 0, 1) := by decide +kernel
theorem dL_law_952 : decode cL_law 952 = .ok (.iload 4, 2) := by decide +kernel
theorem dL_law_954 : decode cL_law 954 = .ok (.iconst 1, 1) := by decide +kernel
theorem dL_law_955 : decode cL_law 955 = .ok (.iadd, 1) := by decide +kernel
theorem dL_law_956 : decode cL_law 956 = .ok (.iaload, 1) := by decide +kernel
theorem dL_law_957 : decode cL_law 957 = .ok (.invokevirtual 136, 3) := by decide +kernel
theorem dL_law_960 : decode cL_law 960 = .ok (.istore 6, 2) := by decide +kernel
theorem dL_law_962 : decode cL_law 962 = .ok (.aload_n 2, 1) := by decide +kernel
theorem dL_law_963 : decode cL_law 963 = .ok (.invokevirtual 89, 3) := by decide +kernel
theorem dL_law_966 : decode cL_law 966 = .ok (.iload 5, 2) := by decide +kernel
theorem dL_law_968 : decode cL_law 968 = .ok (.if_icmp .eq 5, 3) := by decide +kernel
theorem dL_law_971 : decode cL_law 971 = .ok (.iconst 0, 1) := by decide +kernel
theorem dL_law_972 : decode cL_law 972 = .ok (.ireturn, 1) := by decide +kernel
theorem dL_law_973 : decode cL_law 973 = .ok (.iload 5, 2) := by decide +kernel
theorem dL_law_975 : decode cL_law 975 = .ok (.ifCond .ne 15, 3) := by decide +kernel
theorem dL_law_978 : decode cL_law 978 = .ok (.aload_n 3, 1) := by decide +kernel
theorem dL_law_979 : decode cL_law 979 = .ok (.iconst 0, 1) := by decide +kernel
theorem dL_law_980 : decode cL_law 980 = .ok (.laload, 1) := by decide +kernel
theorem dL_law_981 : decode cL_law 981 = .ok (.iload 6, 2) := by decide +kernel
theorem dL_law_983 : decode cL_law 983 = .ok (.i2l, 1) := by decide +kernel
theorem dL_law_984 : decode cL_law 984 = .ok (.lcmp, 1) := by decide +kernel
theorem dL_law_985 : decode cL_law 985 = .ok (.ifCond .eq 5, 3) := by decide +kernel
theorem dL_law_988 : decode cL_law 988 = .ok (.iconst 0, 1) := by decide +kernel
theorem dL_law_989 : decode cL_law 989 = .ok (.ireturn, 1) := by decide +kernel
theorem dL_law_990 : decode cL_law 990 = .ok (.goto 438, 3) := by decide +kernel
theorem dL_law_993 : decode cL_law 993 = .ok (.aload_n 1, 1) := by decide +kernel
theorem dL_law_994 : decode cL_law 994 = .ok (.aload_n 0, 1) := by decide +kernel
theorem dL_law_995 : decode cL_law 995 = .ok (.iload 4, 2) := by decide +kernel
theorem dL_law_997 : decode cL_law 997 = .ok (.iconst 1, 1) := by decide +kernel
theorem dL_law_998 : decode cL_law 998 = .ok (.iadd, 1) := by decide +kernel
theorem dL_law_999 : decode cL_law 999 = .ok (.iaload, 1) := by decide +kernel
theorem dL_law_1000 : decode cL_law 1000 = .ok (.aload_n 3, 1) := by decide +kernel
theorem dL_law_1001 : decode cL_law 1001 = .ok (.invokestatic 137, 3) := by decide +kernel
theorem dL_law_1004 : decode cL_law 1004 = .ok (.istore 5, 2) := by decide +kernel
theorem dL_law_1006 : decode cL_law 1006 = .ok (.aload_n 2, 1) := by decide +kernel
theorem dL_law_1007 : decode cL_law 1007 = .ok (.aload_n 0, 1) := by decide +kernel
theorem dL_law_1008 : decode cL_law 1008 = .ok (.iload 4, 2) := by decide +kernel
theorem dL_law_1010 : decode cL_law 1010 = .ok (.iconst 1, 1) := by decide +kernel
theorem dL_law_1011 : decode cL_law 1011 = .ok (.iadd, 1) := by decide +kernel
theorem dL_law_1012 : decode cL_law 1012 = .ok (.iaload, 1) := by decide +kernel
theorem dL_law_1013 : decode cL_law 1013 = .ok (.invokevirtual 139, 3) := by decide +kernel
theorem dL_law_1016 : decode cL_law 1016 = .ok (.istore 6, 2) := by decide +kernel
theorem dL_law_1018 : decode cL_law 1018 = .ok (.aload_n 2, 1) := by decide +kernel
theorem dL_law_1019 : decode cL_law 1019 = .ok (.invokevirtual 89, 3) := by decide +kernel
theorem dL_law_1022 : decode cL_law 1022 = .ok (.iload 5, 2) := by decide +kernel
theorem dL_law_1024 : decode cL_law 1024 = .ok (.if_icmp .eq 5, 3) := by decide +kernel
theorem dL_law_1027 : decode cL_law 1027 = .ok (.iconst 0, 1) := by decide +kernel
theorem dL_law_1028 : decode cL_law 1028 = .ok (.ireturn, 1) := by decide +kernel
theorem dL_law_1029 : decode cL_law 1029 = .ok (.iload 5, 2) := by decide +kernel
theorem dL_law_1031 : decode cL_law 1031 = .ok (.ifCond .ne 15, 3) := by decide +kernel
theorem dL_law_1034 : decode cL_law 1034 = .ok (.aload_n 3, 1) := by decide +kernel
theorem dL_law_1035 : decode cL_law 1035 = .ok (.iconst 0, 1) := by decide +kernel
theorem dL_law_1036 : decode cL_law 1036 = .ok (.laload, 1) := by decide +kernel
theorem dL_law_1037 : decode cL_law 1037 = .ok (.iload 6, 2) := by decide +kernel
theorem dL_law_1039 : decode cL_law 1039 = .ok (.i2l, 1) := by decide +kernel
theorem dL_law_1040 : decode cL_law 1040 = .ok (.lcmp, 1) := by decide +kernel
theorem dL_law_1041 : decode cL_law 1041 = .ok (.ifCond .eq 5, 3) := by decide +kernel
theorem dL_law_1044 : decode cL_law 1044 = .ok (.iconst 0, 1) := by decide +kernel
theorem dL_law_1045 : decode cL_law 1045 = .ok (.ireturn, 1) := by decide +kernel
theorem dL_law_1046 : decode cL_law 1046 = .ok (.goto 382, 3) := by decide +kernel
theorem dL_law_1049 : decode cL_law 1049 = .ok (.aload_n 1, 1) := by decide +kernel
theorem dL_law_1050 : decode cL_law 1050 = .ok (.aload_n 0, 1) := by decide +kernel
theorem dL_law_1051 : decode cL_law 1051 = .ok (.iload 4, 2) := by decide +kernel
theorem dL_law_1053 : decode cL_law 1053 = .ok (.iconst 1, 1) := by decide +kernel
theorem dL_law_1054 : decode cL_law 1054 = .ok (.iadd, 1) := by decide +kernel
theorem dL_law_1055 : decode cL_law 1055 = .ok (.iaload, 1) := by decide +kernel
theorem dL_law_1056 : decode cL_law 1056 = .ok (.aload_n 3, 1) := by decide +kernel
theorem dL_law_1057 : decode cL_law 1057 = .ok (.invokestatic 140, 3) := by decide +kernel
theorem dL_law_1060 : decode cL_law 1060 = .ok (.istore 5, 2) := by decide +kernel
theorem dL_law_1062 : decode cL_law 1062 = .ok (.aload_n 2, 1) := by decide +kernel
theorem dL_law_1063 : decode cL_law 1063 = .ok (.aload_n 0, 1) := by decide +kernel
theorem dL_law_1064 : decode cL_law 1064 = .ok (.iload 4, 2) := by decide +kernel
theorem dL_law_1066 : decode cL_law 1066 = .ok (.iconst 1, 1) := by decide +kernel
theorem dL_law_1067 : decode cL_law 1067 = .ok (.iadd, 1) := by decide +kernel
theorem dL_law_1068 : decode cL_law 1068 = .ok (.iaload, 1) := by decide +kernel
theorem dL_law_1069 : decode cL_law 1069 = .ok (.invokevirtual 142, 3) := by decide +kernel
theorem dL_law_1072 : decode cL_law 1072 = .ok (.istore 6, 2) := by decide +kernel
theorem dL_law_1074 : decode cL_law 1074 = .ok (.aload_n 2, 1) := by decide +kernel
theorem dL_law_1075 : decode cL_law 1075 = .ok (.invokevirtual 89, 3) := by decide +kernel
theorem dL_law_1078 : decode cL_law 1078 = .ok (.iload 5, 2) := by decide +kernel
theorem dL_law_1080 : decode cL_law 1080 = .ok (.if_icmp .eq 5, 3) := by decide +kernel
theorem dL_law_1083 : decode cL_law 1083 = .ok (.iconst 0, 1) := by decide +kernel
theorem dL_law_1084 : decode cL_law 1084 = .ok (.ireturn, 1) := by decide +kernel
theorem dL_law_1085 : decode cL_law 1085 = .ok (.iload 5, 2) := by decide +kernel
theorem dL_law_1087 : decode cL_law 1087 = .ok (.ifCond .ne 15, 3) := by decide +kernel
theorem dL_law_1090 : decode cL_law 1090 = .ok (.aload_n 3, 1) := by decide +kernel
theorem dL_law_1091 : decode cL_law 1091 = .ok (.iconst 0, 1) := by decide +kernel
theorem dL_law_1092 : decode cL_law 1092 = .ok (.laload, 1) := by decide +kernel
theorem dL_law_1093 : decode cL_law 1093 = .ok (.iload 6, 2) := by decide +kernel
theorem dL_law_1095 : decode cL_law 1095 = .ok (.i2l, 1) := by decide +kernel
theorem dL_law_1096 : decode cL_law 1096 = .ok (.lcmp, 1) := by decide +kernel
theorem dL_law_1097 : decode cL_law 1097 = .ok (.ifCond .eq 5, 3) := by decide +kernel
theorem dL_law_1100 : decode cL_law 1100 = .ok (.iconst 0, 1) := by decide +kernel
theorem dL_law_1101 : decode cL_law 1101 = .ok (.ireturn, 1) := by decide +kernel
theorem dL_law_1102 : decode cL_law 1102 = .ok (.goto 326, 3) := by decide +kernel
theorem dL_law_1105 : decode cL_law 1105 = .ok (.aload_n 1, 1) := by decide +kernel
theorem dL_law_1106 : decode cL_law 1106 = .ok (.aload_n 0, 1) := by decide +kernel
theorem dL_law_1107 : decode cL_law 1107 = .ok (.iload 4, 2) := by decide +kernel
theorem dL_law_1109 : decode cL_law 1109 = .ok (.iconst 1, 1) := by decide +kernel
theorem dL_law_1110 : decode cL_law 1110 = .ok (.iadd, 1) := by decide +kernel
theorem dL_law_1111 : decode cL_law 1111 = .ok (.iaload, 1) := by decide +kernel
theorem dL_law_1112 : decode cL_law 1112 = .ok (.aload_n 0, 1) := by decide +kernel
theorem dL_law_1113 : decode cL_law 1113 = .ok (.iload 4, 2) := by decide +kernel
theorem dL_law_1115 : decode cL_law 1115 = .ok (.iconst 2, 1) := by decide +kernel
theorem dL_law_1116 : decode cL_law 1116 = .ok (.iadd, 1) := by decide +kernel
theorem dL_law_1117 : decode cL_law 1117 = .ok (.iaload, 1) := by decide +kernel
theorem dL_law_1118 : decode cL_law 1118 = .ok (.aload_n 3, 1) := by decide +kernel
theorem dL_law_1119 : decode cL_law 1119 = .ok (.invokestatic 143, 3) := by decide +kernel
theorem dL_law_1122 : decode cL_law 1122 = .ok (.istore 5, 2) := by decide +kernel
theorem dL_law_1124 : decode cL_law 1124 = .ok (.aload_n 2, 1) := by decide +kernel
theorem dL_law_1125 : decode cL_law 1125 = .ok (.aload_n 0, 1) := by decide +kernel
theorem dL_law_1126 : decode cL_law 1126 = .ok (.iload 4, 2) := by decide +kernel
theorem dL_law_1128 : decode cL_law 1128 = .ok (.iconst 1, 1) := by decide +kernel
theorem dL_law_1129 : decode cL_law 1129 = .ok (.iadd, 1) := by decide +kernel
theorem dL_law_1130 : decode cL_law 1130 = .ok (.iaload, 1) := by decide +kernel
theorem dL_law_1131 : decode cL_law 1131 = .ok (.aload_n 0, 1) := by decide +kernel
theorem dL_law_1132 : decode cL_law 1132 = .ok (.iload 4, 2) := by decide +kernel
theorem dL_law_1134 : decode cL_law 1134 = .ok (.iconst 2, 1) := by decide +kernel
theorem dL_law_1135 : decode cL_law 1135 = .ok (.iadd, 1) := by decide +kernel
theorem dL_law_1136 : decode cL_law 1136 = .ok (.iaload, 1) := by decide +kernel
theorem dL_law_1137 : decode cL_law 1137 = .ok (.invokevirtual 145, 3) := by decide +kernel
theorem dL_law_1140 : decode cL_law 1140 = .ok (.istore 6, 2) := by decide +kernel
theorem dL_law_1142 : decode cL_law 1142 = .ok (.aload_n 2, 1) := by decide +kernel
theorem dL_law_1143 : decode cL_law 1143 = .ok (.invokevirtual 89, 3) := by decide +kernel
theorem dL_law_1146 : decode cL_law 1146 = .ok (.iload 5, 2) := by decide +kernel
theorem dL_law_1148 : decode cL_law 1148 = .ok (.if_icmp .eq 5, 3) := by decide +kernel
theorem dL_law_1151 : decode cL_law 1151 = .ok (.iconst 0, 1) := by decide +kernel
theorem dL_law_1152 : decode cL_law 1152 = .ok (.ireturn, 1) := by decide +kernel
theorem dL_law_1153 : decode cL_law 1153 = .ok (.iload 5, 2) := by decide +kernel
theorem dL_law_1155 : decode cL_law 1155 = .ok (.ifCond .ne 15, 3) := by decide +kernel
theorem dL_law_1158 : decode cL_law 1158 = .ok (.aload_n 3, 1) := by decide +kernel
theorem dL_law_1159 : decode cL_law 1159 = .ok (.iconst 0, 1) := by decide +kernel
theorem dL_law_1160 : decode cL_law 1160 = .ok (.laload, 1) := by decide +kernel
theorem dL_law_1161 : decode cL_law 1161 = .ok (.iload 6, 2) := by decide +kernel
theorem dL_law_1163 : decode cL_law 1163 = .ok (.i2l, 1) := by decide +kernel
theorem dL_law_1164 : decode cL_law 1164 = .ok (.lcmp, 1) := by decide +kernel
theorem dL_law_1165 : decode cL_law 1165 = .ok (.ifCond .eq 5, 3) := by decide +kernel
theorem dL_law_1168 : decode cL_law 1168 = .ok (.iconst 0, 1) := by decide +kernel
theorem dL_law_1169 : decode cL_law 1169 = .ok (.ireturn, 1) := by decide +kernel
theorem dL_law_1170 : decode cL_law 1170 = .ok (.goto 258, 3) := by decide +kernel
theorem dL_law_1173 : decode cL_law 1173 = .ok (.aload_n 1, 1) := by decide +kernel
theorem dL_law_1174 : decode cL_law 1174 = .ok (.aload_n 0, 1) := by decide +kernel
theorem dL_law_1175 : decode cL_law 1175 = .ok (.iload 4, 2) := by decide +kernel
theorem dL_law_1177 : decode cL_law 1177 = .ok (.iconst 1, 1) := by decide +kernel
theorem dL_law_1178 : decode cL_law 1178 = .ok (.iadd, 1) := by decide +kernel
theorem dL_law_1179 : decode cL_law 1179 = .ok (.iaload, 1) := by decide +kernel
theorem dL_law_1180 : decode cL_law 1180 = .ok (.aload_n 0, 1) := by decide +kernel
theorem dL_law_1181 : decode cL_law 1181 = .ok (.iload 4, 2) := by decide +kernel
theorem dL_law_1183 : decode cL_law 1183 = .ok (.iconst 2, 1) := by decide +kernel
theorem dL_law_1184 : decode cL_law 1184 = .ok (.iadd, 1) := by decide +kernel
theorem dL_law_1185 : decode cL_law 1185 = .ok (.iaload, 1) := by decide +kernel
theorem dL_law_1186 : decode cL_law 1186 = .ok (.aload_n 3, 1) := by decide +kernel
theorem dL_law_1187 : decode cL_law 1187 = .ok (.invokestatic 146, 3) := by decide +kernel
theorem dL_law_1190 : decode cL_law 1190 = .ok (.istore 5, 2) := by decide +kernel
theorem dL_law_1192 : decode cL_law 1192 = .ok (.aload_n 2, 1) := by decide +kernel
theorem dL_law_1193 : decode cL_law 1193 = .ok (.aload_n 0, 1) := by decide +kernel
theorem dL_law_1194 : decode cL_law 1194 = .ok (.iload 4, 2) := by decide +kernel
theorem dL_law_1196 : decode cL_law 1196 = .ok (.iconst 1, 1) := by decide +kernel
theorem dL_law_1197 : decode cL_law 1197 = .ok (.iadd, 1) := by decide +kernel
theorem dL_law_1198 : decode cL_law 1198 = .ok (.iaload, 1) := by decide +kernel
theorem dL_law_1199 : decode cL_law 1199 = .ok (.aload_n 0, 1) := by decide +kernel
theorem dL_law_1200 : decode cL_law 1200 = .ok (.iload 4, 2) := by decide +kernel
theorem dL_law_1202 : decode cL_law 1202 = .ok (.iconst 2, 1) := by decide +kernel
theorem dL_law_1203 : decode cL_law 1203 = .ok (.iadd, 1) := by decide +kernel
theorem dL_law_1204 : decode cL_law 1204 = .ok (.iaload, 1) := by decide +kernel
theorem dL_law_1205 : decode cL_law 1205 = .ok (.invokevirtual 148, 3) := by decide +kernel
theorem dL_law_1208 : decode cL_law 1208 = .ok (.istore 6, 2) := by decide +kernel
theorem dL_law_1210 : decode cL_law 1210 = .ok (.aload_n 2, 1) := by decide +kernel
theorem dL_law_1211 : decode cL_law 1211 = .ok (.invokevirtual 89, 3) := by decide +kernel
theorem dL_law_1214 : decode cL_law 1214 = .ok (.iload 5, 2) := by decide +kernel
theorem dL_law_1216 : decode cL_law 1216 = .ok (.if_icmp .eq 5, 3) := by decide +kernel
theorem dL_law_1219 : decode cL_law 1219 = .ok (.iconst 0, 1) := by decide +kernel
theorem dL_law_1220 : decode cL_law 1220 = .ok (.ireturn, 1) := by decide +kernel
theorem dL_law_1221 : decode cL_law 1221 = .ok (.iload 5, 2) := by decide +kernel
theorem dL_law_1223 : decode cL_law 1223 = .ok (.ifCond .ne 15, 3) := by decide +kernel
theorem dL_law_1226 : decode cL_law 1226 = .ok (.aload_n 3, 1) := by decide +kernel
theorem dL_law_1227 : decode cL_law 1227 = .ok (.iconst 0, 1) := by decide +kernel
theorem dL_law_1228 : decode cL_law 1228 = .ok (.laload, 1) := by decide +kernel
theorem dL_law_1229 : decode cL_law 1229 = .ok (.iload 6, 2) := by decide +kernel
theorem dL_law_1231 : decode cL_law 1231 = .ok (.i2l, 1) := by decide +kernel
theorem dL_law_1232 : decode cL_law 1232 = .ok (.lcmp, 1) := by decide +kernel
theorem dL_law_1233 : decode cL_law 1233 = .ok (.ifCond .eq 5, 3) := by decide +kernel
theorem dL_law_1236 : decode cL_law 1236 = .ok (.iconst 0, 1) := by decide +kernel
theorem dL_law_1237 : decode cL_law 1237 = .ok (.ireturn, 1) := by decide +kernel
theorem dL_law_1238 : decode cL_law 1238 = .ok (.goto 190, 3) := by decide +kernel
theorem dL_law_1241 : decode cL_law 1241 = .ok (.aload_n 1, 1) := by decide +kernel
theorem dL_law_1242 : decode cL_law 1242 = .ok (.aload_n 0, 1) := by decide +kernel
theorem dL_law_1243 : decode cL_law 1243 = .ok (.iload 4, 2) := by decide +kernel
theorem dL_law_1245 : decode cL_law 1245 = .ok (.iconst 1, 1) := by decide +kernel
theorem dL_law_1246 : decode cL_law 1246 = .ok (.iadd, 1) := by decide +kernel
theorem dL_law_1247 : decode cL_law 1247 = .ok (.iaload, 1) := by decide +kernel
theorem dL_law_1248 : decode cL_law 1248 = .ok (.aload_n 0, 1) := by decide +kernel
theorem dL_law_1249 : decode cL_law 1249 = .ok (.iload 4, 2) := by decide +kernel
theorem dL_law_1251 : decode cL_law 1251 = .ok (.iconst 2, 1) := by decide +kernel
theorem dL_law_1252 : decode cL_law 1252 = .ok (.iadd, 1) := by decide +kernel
theorem dL_law_1253 : decode cL_law 1253 = .ok (.iaload, 1) := by decide +kernel
theorem dL_law_1254 : decode cL_law 1254 = .ok (.aload_n 3, 1) := by decide +kernel
theorem dL_law_1255 : decode cL_law 1255 = .ok (.invokestatic 149, 3) := by decide +kernel
theorem dL_law_1258 : decode cL_law 1258 = .ok (.istore 5, 2) := by decide +kernel
theorem dL_law_1260 : decode cL_law 1260 = .ok (.aload_n 2, 1) := by decide +kernel
theorem dL_law_1261 : decode cL_law 1261 = .ok (.aload_n 0, 1) := by decide +kernel
theorem dL_law_1262 : decode cL_law 1262 = .ok (.iload 4, 2) := by decide +kernel
theorem dL_law_1264 : decode cL_law 1264 = .ok (.iconst 1, 1) := by decide +kernel
theorem dL_law_1265 : decode cL_law 1265 = .ok (.iadd, 1) := by decide +kernel
theorem dL_law_1266 : decode cL_law 1266 = .ok (.iaload, 1) := by decide +kernel
theorem dL_law_1267 : decode cL_law 1267 = .ok (.aload_n 0, 1) := by decide +kernel
theorem dL_law_1268 : decode cL_law 1268 = .ok (.iload 4, 2) := by decide +kernel
theorem dL_law_1270 : decode cL_law 1270 = .ok (.iconst 2, 1) := by decide +kernel
theorem dL_law_1271 : decode cL_law 1271 = .ok (.iadd, 1) := by decide +kernel
theorem dL_law_1272 : decode cL_law 1272 = .ok (.iaload, 1) := by decide +kernel
theorem dL_law_1273 : decode cL_law 1273 = .ok (.invokevirtual 151, 3) := by decide +kernel
theorem dL_law_1276 : decode cL_law 1276 = .ok (.istore 6, 2) := by decide +kernel
theorem dL_law_1278 : decode cL_law 1278 = .ok (.aload_n 2, 1) := by decide +kernel
theorem dL_law_1279 : decode cL_law 1279 = .ok (.invokevirtual 89, 3) := by decide +kernel
theorem dL_law_1282 : decode cL_law 1282 = .ok (.iload 5, 2) := by decide +kernel
theorem dL_law_1284 : decode cL_law 1284 = .ok (.if_icmp .eq 5, 3) := by decide +kernel
theorem dL_law_1287 : decode cL_law 1287 = .ok (.iconst 0, 1) := by decide +kernel
theorem dL_law_1288 : decode cL_law 1288 = .ok (.ireturn, 1) := by decide +kernel
theorem dL_law_1289 : decode cL_law 1289 = .ok (.iload 5, 2) := by decide +kernel
theorem dL_law_1291 : decode cL_law 1291 = .ok (.ifCond .ne 22, 3) := by decide +kernel
theorem dL_law_1294 : decode cL_law 1294 = .ok (.aload_n 3, 1) := by decide +kernel
theorem dL_law_1295 : decode cL_law 1295 = .ok (.iconst 0, 1) := by decide +kernel
theorem dL_law_1296 : decode cL_law 1296 = .ok (.laload, 1) := by decide +kernel
theorem dL_law_1297 : decode cL_law 1297 = .ok (.iload 6, 2) := by decide +kernel
theorem dL_law_1299 : decode cL_law 1299 = .ok (.ifCond .eq 7, 3) := by decide +kernel
theorem dL_law_1302 : decode cL_law 1302 = .ok (.lconst 1, 1) := by decide +kernel
theorem dL_law_1303 : decode cL_law 1303 = .ok (.goto 4, 3) := by decide +kernel
theorem dL_law_1306 : decode cL_law 1306 = .ok (.lconst 0, 1) := by decide +kernel
theorem dL_law_1307 : decode cL_law 1307 = .ok (.lcmp, 1) := by decide +kernel
theorem dL_law_1308 : decode cL_law 1308 = .ok (.ifCond .eq 5, 3) := by decide +kernel
theorem dL_law_1311 : decode cL_law 1311 = .ok (.iconst 0, 1) := by decide +kernel
theorem dL_law_1312 : decode cL_law 1312 = .ok (.ireturn, 1) := by decide +kernel
theorem dL_law_1313 : decode cL_law 1313 = .ok (.goto 115, 3) := by decide +kernel
theorem dL_law_1316 : decode cL_law 1316 = .ok (.aload_n 1, 1) := by decide +kernel
theorem dL_law_1317 : decode cL_law 1317 = .ok (.aload_n 0, 1) := by decide +kernel
theorem dL_law_1318 : decode cL_law 1318 = .ok (.iload 4, 2) := by decide +kernel
theorem dL_law_1320 : decode cL_law 1320 = .ok (.iconst 1, 1) := by decide +kernel
theorem dL_law_1321 : decode cL_law 1321 = .ok (.iadd, 1) := by decide +kernel
theorem dL_law_1322 : decode cL_law 1322 = .ok (.iaload, 1) := by decide +kernel
theorem dL_law_1323 : decode cL_law 1323 = .ok (.aload_n 3, 1) := by decide +kernel
theorem dL_law_1324 : decode cL_law 1324 = .ok (.invokestatic 152, 3) := by decide +kernel
theorem dL_law_1327 : decode cL_law 1327 = .ok (.istore 5, 2) := by decide +kernel
theorem dL_law_1329 : decode cL_law 1329 = .ok (.aload_n 2, 1) := by decide +kernel
theorem dL_law_1330 : decode cL_law 1330 = .ok (.aload_n 0, 1) := by decide +kernel
theorem dL_law_1331 : decode cL_law 1331 = .ok (.iload 4, 2) := by decide +kernel
theorem dL_law_1333 : decode cL_law 1333 = .ok (.iconst 1, 1) := by decide +kernel
theorem dL_law_1334 : decode cL_law 1334 = .ok (.iadd, 1) := by decide +kernel
theorem dL_law_1335 : decode cL_law 1335 = .ok (.iaload, 1) := by decide +kernel
theorem dL_law_1336 : decode cL_law 1336 = .ok (.invokevirtual 154, 3) := by decide +kernel
theorem dL_law_1339 : decode cL_law 1339 = .ok (.istore 6, 2) := by decide +kernel
theorem dL_law_1341 : decode cL_law 1341 = .ok (.aload_n 2, 1) := by decide +kernel
theorem dL_law_1342 : decode cL_law 1342 = .ok (.invokevirtual 89, 3) := by decide +kernel
theorem dL_law_1345 : decode cL_law 1345 = .ok (.iload 5, 2) := by decide +kernel
theorem dL_law_1347 : decode cL_law 1347 = .ok (.if_icmp .eq 5, 3) := by decide +kernel
theorem dL_law_1350 : decode cL_law 1350 = .ok (.iconst 0, 1) := by decide +kernel
theorem dL_law_1351 : decode cL_law 1351 = .ok (.ireturn, 1) := by decide +kernel
theorem dL_law_1352 : decode cL_law 1352 = .ok (.iload 5, 2) := by decide +kernel
theorem dL_law_1354 : decode cL_law 1354 = .ok (.ifCond .ne 15, 3) := by decide +kernel
theorem dL_law_1357 : decode cL_law 1357 = .ok (.aload_n 3, 1) := by decide +kernel
theorem dL_law_1358 : decode cL_law 1358 = .ok (.iconst 0, 1) := by decide +kernel
theorem dL_law_1359 : decode cL_law 1359 = .ok (.laload, 1) := by decide +kernel
theorem dL_law_1360 : decode cL_law 1360 = .ok (.iload 6, 2) := by decide +kernel
theorem dL_law_1362 : decode cL_law 1362 = .ok (.i2l, 1) := by decide +kernel
theorem dL_law_1363 : decode cL_law 1363 = .ok (.lcmp, 1) := by decide +kernel
theorem dL_law_1364 : decode cL_law 1364 = .ok (.ifCond .eq 5, 3) := by decide +kernel
theorem dL_law_1367 : decode cL_law 1367 = .ok (.iconst 0, 1) := by decide +kernel
theorem dL_law_1368 : decode cL_law 1368 = .ok (.ireturn, 1) := by decide +kernel
theorem dL_law_1369 : decode cL_law 1369 = .ok (.goto 59, 3) := by decide +kernel
theorem dL_law_1372 : decode cL_law 1372 = .ok (.aload_n 1, 1) := by decide +kernel
theorem dL_law_1373 : decode cL_law 1373 = .ok (.aload_n 0, 1) := by decide +kernel
theorem dL_law_1374 : decode cL_law 1374 = .ok (.iload 4, 2) := by decide +kernel
theorem dL_law_1376 : decode cL_law 1376 = .ok (.iconst 1, 1) := by decide +kernel
theorem dL_law_1377 : decode cL_law 1377 = .ok (.iadd, 1) := by decide +kernel
theorem dL_law_1378 : decode cL_law 1378 = .ok (.iaload, 1) := by decide +kernel
theorem dL_law_1379 : decode cL_law 1379 = .ok (.aload_n 3, 1) := by decide +kernel
theorem dL_law_1380 : decode cL_law 1380 = .ok (.invokestatic 155, 3) := by decide +kernel
theorem dL_law_1383 : decode cL_law 1383 = .ok (.istore 5, 2) := by decide +kernel
theorem dL_law_1385 : decode cL_law 1385 = .ok (.aload_n 2, 1) := by decide +kernel
theorem dL_law_1386 : decode cL_law 1386 = .ok (.aload_n 0, 1) := by decide +kernel
theorem dL_law_1387 : decode cL_law 1387 = .ok (.iload 4, 2) := by decide +kernel
theorem dL_law_1389 : decode cL_law 1389 = .ok (.iconst 1, 1) := by decide +kernel
theorem dL_law_1390 : decode cL_law 1390 = .ok (.iadd, 1) := by decide +kernel
theorem dL_law_1391 : decode cL_law 1391 = .ok (.iaload, 1) := by decide +kernel
theorem dL_law_1392 : decode cL_law 1392 = .ok (.invokevirtual 157, 3) := by decide +kernel
theorem dL_law_1395 : decode cL_law 1395 = .ok (.istore 6, 2) := by decide +kernel
theorem dL_law_1397 : decode cL_law 1397 = .ok (.aload_n 2, 1) := by decide +kernel
theorem dL_law_1398 : decode cL_law 1398 = .ok (.invokevirtual 89, 3) := by decide +kernel
theorem dL_law_1401 : decode cL_law 1401 = .ok (.iload 5, 2) := by decide +kernel
theorem dL_law_1403 : decode cL_law 1403 = .ok (.if_icmp .eq 5, 3) := by decide +kernel
theorem dL_law_1406 : decode cL_law 1406 = .ok (.iconst 0, 1) := by decide +kernel
theorem dL_law_1407 : decode cL_law 1407 = .ok (.ireturn, 1) := by decide +kernel
theorem dL_law_1408 : decode cL_law 1408 = .ok (.iload 5, 2) := by decide +kernel
theorem dL_law_1410 : decode cL_law 1410 = .ok (.ifCond .ne 15, 3) := by decide +kernel
theorem dL_law_1413 : decode cL_law 1413 = .ok (.aload_n 3, 1) := by decide +kernel
theorem dL_law_1414 : decode cL_law 1414 = .ok (.iconst 0, 1) := by decide +kernel
theorem dL_law_1415 : decode cL_law 1415 = .ok (.laload, 1) := by decide +kernel
theorem dL_law_1416 : decode cL_law 1416 = .ok (.iload 6, 2) := by decide +kernel
theorem dL_law_1418 : decode cL_law 1418 = .ok (.i2l, 1) := by decide +kernel
theorem dL_law_1419 : decode cL_law 1419 = .ok (.lcmp, 1) := by decide +kernel
theorem dL_law_1420 : decode cL_law 1420 = .ok (.ifCond .eq 5, 3) := by decide +kernel
theorem dL_law_1423 : decode cL_law 1423 = .ok (.iconst 0, 1) := by decide +kernel
theorem dL_law_1424 : decode cL_law 1424 = .ok (.ireturn, 1) := by decide +kernel
theorem dL_law_1425 : decode cL_law 1425 = .ok (.goto 3, 3) := by decide +kernel
theorem dL_law_1428 : decode cL_law 1428 = .ok (.iinc 4 7, 3) := by decide +kernel
theorem dL_law_1431 : decode cL_law 1431 = .ok (.goto (-1408), 3) := by decide +kernel
theorem dL_law_1434 : decode cL_law 1434 = .ok (.iconst 1, 1) := by decide +kernel
theorem dL_law_1435 : decode cL_law 1435 = .ok (.ireturn, 1) := by decide +kernel
end
section
/-! A WORLD AS A MAP: which cell is held at which address. The rows of the kit over lists of cells, turned to maps. -/
abbrev gk_G : Type := Nat → Option va_E
def gk_up (G : gk_G) (a : Nat) (e : va_E) : gk_G := fun q => if q = a then some e else G q
theorem gk_us (G : gk_G) (a : Nat) (e : va_E) : gk_up G a e a = some e := by simp [gk_up]
theorem gk_un (G : gk_G) {a b : Nat} (e : va_E) (h : b ≠ a) : gk_up G a e b = G b := by simp [gk_up, h]
theorem gk_ne {G : gk_G} {a b : Nat} {e1 e2 : va_E} (h1 : G a = some e1) (h2 : G b = some e2) (h : e1 ≠ e2) : a ≠ b := fun q => h (by subst q; exact Option.some.inj (h1.symm.trans h2))
theorem gk_keep {G : gk_G} {a b : Nat} {e ea eb : va_E} (ha : G a = some ea) (hb : G b = some eb) (h : eb ≠ ea) : gk_up G a e b = some eb := by rw [gk_un G e (gk_ne hb ha h)]; exact hb
theorem gk_keepN {G : gk_G} {a b : Nat} {e eb : va_E} (ha : G a = none) (hb : G b = some eb) : gk_up G a e b = some eb := by
  rw [gk_un G e (fun q => by rw [q, ha] at hb; cases hb)]
  exact hb
def gk_P (D : va_G) (A : Nat → Prop) (G : gk_G) (H : Heap) : Prop := ∀ (a : Nat) (e : va_E), G a = some e → A a ∧ va_at D vwCl (a, e) H
def gk_ws (G : gk_G) (n : Nat) : va_W := (List.range n).filterMap (fun q => (G q).map (fun e => (q, e)))
theorem gk_ws_mem {G : gk_G} {n q : Nat} {e : va_E} : (q, e) ∈ gk_ws G n ↔ q < n ∧ G q = some e := by
  unfold gk_ws
  rw [List.mem_filterMap]
  constructor
  · rintro ⟨a, ha, h⟩
    rw [List.mem_range] at ha
    cases hg : G a with
    | none => rw [hg] at h; cases h
    | some e2 =>
      rw [hg] at h
      have h2 := Option.some.inj h
      have h3 : a = q := congrArg Prod.fst h2
      have h4 : e2 = e := congrArg Prod.snd h2
      subst h3; subst h4
      exact ⟨ha, hg⟩
  · rintro ⟨h1, h2⟩
    exact ⟨q, List.mem_range.mpr h1, by rw [h2]; rfl⟩
theorem gk_ws_pw (G : gk_G) (n : Nat) : (gk_ws G n).Pairwise (fun x y => x.1 < y.1) := by
  unfold gk_ws
  refine List.Pairwise.filterMap _ (fun a b hab x hx y hy => ?_) List.pairwise_lt_range
  cases hg : G a with
  | none => rw [hg] at hx; cases hx
  | some e1 =>
    cases hg2 : G b with
    | none => rw [hg2] at hy; cases hy
    | some e2 =>
      rw [hg] at hx
      rw [hg2] at hy
      cases hx
      cases hy
      exact hab
theorem gk_ws_D {D : va_G} {A : Nat → Prop} {G : gk_G} {H : Heap} (h : gk_P D A G H) : va_D A (gk_ws G H.size) := by
  refine ⟨fun i j x y hi hj hxy => ?_, fun k q hq => ?_⟩
  · obtain ⟨li, ei⟩ := List.getElem?_eq_some_iff.mp hi
    obtain ⟨lj, ej⟩ := List.getElem?_eq_some_iff.mp hj
    have pw := List.pairwise_iff_getElem.mp (gk_ws_pw G H.size)
    rcases Nat.lt_trichotomy i j with h1 | h1 | h1
    · have := pw i j li lj h1
      rw [ei, ej] at this
      omega
    · exact h1
    · have := pw j i lj li h1
      rw [ei, ej] at this
      omega
  · obtain ⟨a, e⟩ := q
    exact (h a e (gk_ws_mem.mp (List.mem_of_getElem? hq)).2).1
theorem gk_open {D : va_G} {A : Nat → Prop} {G : gk_G} {H : Heap} (h : gk_P D A G H) : va_P D vwCl (gk_ws G H.size) H ∧ va_D A (gk_ws G H.size) ∧ ∀ (a : Nat) (e : va_E), G a = some e → ∃ k : Nat, (gk_ws G H.size)[k]? = some (a, e) := by
  refine ⟨fun k q hq => ?_, gk_ws_D h, fun a e hG => ?_⟩
  · obtain ⟨a, e⟩ := q
    exact (h a e (gk_ws_mem.mp (List.mem_of_getElem? hq)).2).2
  · exact List.getElem?_of_mem (gk_ws_mem.mpr ⟨(h a e hG).2.lt, hG⟩)
theorem gk_lt {D : va_G} {A : Nat → Prop} {G : gk_G} {H : Heap} (h : gk_P D A G H) {a : Nat} {e : va_E} (hG : G a = some e) : a < H.size := (h a e hG).2.lt
theorem gk_set {D : va_G} {A : Nat → Prop} {G : gk_G} {H H1 : Heap} {k a : Nat} {e e2 : va_E} (h : gk_P D A G H) (hk : (gk_ws G H.size)[k]? = some (a, e)) (hP : va_P D vwCl ((gk_ws G H.size).set k (a, e2)) H1) (hD : va_D A ((gk_ws G H.size).set k (a, e2))) : gk_P D A (gk_up G a e2) H1 := by
  have hl := (List.getElem?_eq_some_iff.mp hk).1
  intro q e3 hq
  by_cases hqa : q = a
  · subst hqa
    rw [gk_us] at hq
    cases hq
    have h1 : ((gk_ws G H.size).set k (q, e2))[k]? = some (q, e2) := List.getElem?_set_self hl
    exact ⟨hD.2 k _ h1, hP k _ h1⟩
  · rw [gk_un G e2 hqa] at hq
    obtain ⟨j, hj⟩ := (gk_open h).2.2 q e3 hq
    have hjk : j ≠ k := fun z => by
      subst z
      rw [hj] at hk
      exact hqa (congrArg Prod.fst (Option.some.inj hk))
    have h1 : ((gk_ws G H.size).set k (a, e2))[j]? = some (q, e3) := by rw [List.getElem?_set_ne (Ne.symm hjk)]; exact hj
    exact ⟨hD.2 j _ h1, hP j _ h1⟩
theorem gk_push {D : va_G} {A : Nat → Prop} {G : gk_G} {H H1 : Heap} {a : Nat} {e : va_E} (h : gk_P D A G H) (hP : va_P D vwCl (gk_ws G H.size ++ [(a, e)]) H1) (hD : va_D A (gk_ws G H.size ++ [(a, e)])) : gk_P D A (gk_up G a e) H1 ∧ G a = none := by
  have hlast : (gk_ws G H.size ++ [(a, e)])[(gk_ws G H.size).length]? = some (a, e) := by rw [List.getElem?_append_right (Nat.le_refl _), Nat.sub_self]; rfl
  have hn : G a = none := by
    cases hg : G a with
    | none => rfl
    | some e2 =>
      obtain ⟨j, hj⟩ := (gk_open h).2.2 a e2 hg
      have hl := (List.getElem?_eq_some_iff.mp hj).1
      have h1 : (gk_ws G H.size ++ [(a, e)])[j]? = some (a, e2) := by rw [List.getElem?_append_left hl]; exact hj
      have := hD.1 _ _ _ _ h1 hlast rfl
      omega
  refine ⟨fun q e3 hq => ?_, hn⟩
  by_cases hqa : q = a
  · subst hqa
    rw [gk_us] at hq
    cases hq
    exact ⟨hD.2 _ _ hlast, hP _ _ hlast⟩
  · rw [gk_un G e hqa] at hq
    obtain ⟨j, hj⟩ := (gk_open h).2.2 q e3 hq
    have hl := (List.getElem?_eq_some_iff.mp hj).1
    have h1 : (gk_ws G H.size ++ [(a, e)])[j]? = some (q, e3) := by rw [List.getElem?_append_left hl]; exact hj
    exact ⟨hD.2 _ _ h1, hP _ _ h1⟩
/-- the machine's side of a row: the interpreter, the code, the class, the words -/
def gk_C (p : Program) (s : State) (m : MethodId) (c : Code) (args : Array Value) (cc : ByteArray) (own : String) : Prop := p.tables.exec = Jvm.exec ∧ c.code = cc ∧ s.vm.findClass own = some m.cls ∧ ∀ w ∈ wsL_law, w.before args s = true
theorem gk_ra {s : State} {c1 c2 : ClassId} {ty : FieldType} (h1 : va_RA s c1 ty) (h2 : va_RA s c2 ty) : c1 = c2 := by
  cases ty with
  | object C =>
    obtain ⟨-, -, -, -, -, a⟩ := h1
    obtain ⟨-, -, -, -, -, b⟩ := h2
    exact Option.some.inj (a.symm.trans b)
  | _ => exact Option.some.inj (Eq.trans (Eq.symm h1) h2)
section GK1
variable {p : Program} {l : Launch} {e : Env} {R : Room} {s : State} {m : MethodId} {args : Array Value} {below : List Frame} {meth : Method} {c : Code} {H : Heap} {locs : List Loc} {cells slots : Nat} {Q : State → Prop}
variable {cc : ByteArray} {pc : Nat} {ls : Array Slot} {rest : List Value} {D : va_G} {A : Nat → Prop} {a : Nat} {tys : List (ClassId × FieldType)} {G : gk_G} {own : String}
theorem gk_get (hC : gk_C p s m c args cc own) (hK : va_K D vwCl tys s) (hP : gk_P D A G H) {ci index N k : Nat} {ref C : String} {T : u_T} {fs : List Value} (hG : G a = some (.inr (ci, fs))) (hc : vwCl[ci]? = some (C, T, N)) (hin : ∀ w ∈ u_ws C T N, w ∈ wsL_law) (hk : k < N) (hl : Cond.fieldLink own index ref (T k).2.1 (T k).2.2.1 ∈ wsL_law)
    (hsame : ∀ x, s.fieldFound? (T k).1 (T k).2.1 (T k).2.2.1 = some x → s.fieldFound? ref (T k).2.1 (T k).2.2.1 = some x) {v : Value} (hv : fs[k]? = some v) (hdg : decode cc pc = .ok (.getfield index, 3))
    (kk : W p l e R s m args below meth c H locs cells slots Q (F0 m (pc + 3) ls (v :: rest))) : W p l e R s m args below meth c H locs cells slots Q (F0 m pc ls (.ref a :: rest)) := by
  obtain ⟨hx, hb, hown, hts⟩ := hC
  obtain ⟨P, -, hi⟩ := gk_open hP
  obtain ⟨q0, hq⟩ := hi a _ hG
  exact va_get hx hb hts hin hown hK P q0 hq hc k hk (hts _ hl) hsame hv hdg kk
theorem gk_put (hC : gk_C p s m c args cc own) (hK : va_K D vwCl tys s) (hP : gk_P D A G H) (hS : va_S A s.heap H locs) {ci index N k : Nat} {ref C : String} {T : u_T} {fs : List Value} (hG : G a = some (.inr (ci, fs))) (hc : vwCl[ci]? = some (C, T, N)) (hin : ∀ w ∈ u_ws C T N, w ∈ wsL_law) (ty0 : Nat → FieldType) (hty : ∀ k, k < N → parseFieldDescriptor (T k).2.2.1 = some (ty0 k)) (hnm : ∀ a, a < N → ∀ b, b < N → a ≠ b → (T a).2.1 ≠ (T b).2.1) (hk : k < N) (hl : Cond.fieldLink own index ref (T k).2.1 (T k).2.2.1 ∈ wsL_law)
    (hsame : ∀ x, s.fieldFound? (T k).1 (T k).2.1 (T k).2.2.1 = some x → s.fieldFound? ref (T k).2.1 (T k).2.2.1 = some x) (hfin : (T k).2.2.2 = false) {v : Value} (hn : narrow (ty0 k) v = v) (hfit : fits (ty0 k) v = true) (hln : k < fs.length) (hdg : decode cc pc = .ok (.putfield index, 3))
    (kk : ∀ (H1 : Heap) (locs1 : List Loc), gk_P D A (gk_up G a (.inr (ci, fs.set k v))) H1 → va_S A s.heap H1 locs1 → W p l e R s m args below meth c H1 locs1 cells slots Q (F0 m (pc + 3) ls rest)) : W p l e R s m args below meth c H locs cells slots Q (F0 m pc ls (v :: .ref a :: rest)) := by
  obtain ⟨hx, hb, hown, hts⟩ := hC
  obtain ⟨P, hD, hi⟩ := gk_open hP
  obtain ⟨q0, hq⟩ := hi a _ hG
  exact va_put hx hb hts hin ty0 hty hnm hown hK P hD hS q0 hq hc k hk (hts _ hl) hsame hfin (hty k hk) hn hfit hln hdg (fun H1 locs1 P1 D1 S1 => kk H1 locs1 (gk_set hP hq P1 D1) S1)
theorem gk_putF (hC : gk_C p s m c args cc own) (hK : va_K D vwCl tys s) (hP : gk_P D A G H) (hS : va_S A s.heap H locs) {ci index N k : Nat} {ref C : String} {T : u_T} {fs : List Value} (hG : G a = some (.inr (ci, fs))) (hc : vwCl[ci]? = some (C, T, N)) (hin : ∀ w ∈ u_ws C T N, w ∈ wsL_law) (ty0 : Nat → FieldType) (hty : ∀ k, k < N → parseFieldDescriptor (T k).2.2.1 = some (ty0 k)) (hnm : ∀ a, a < N → ∀ b, b < N → a ≠ b → (T a).2.1 ≠ (T b).2.1) (hk : k < N) (hl : Cond.fieldLink own index ref (T k).2.1 (T k).2.2.1 ∈ wsL_law)
    (hsame : ∀ x, s.fieldFound? (T k).1 (T k).2.1 (T k).2.2.1 = some x → s.fieldFound? ref (T k).2.1 (T k).2.2.1 = some x) (hfin : (T k).2.2.2 = true) (hin2 : meth.name = "<init>") (hdecl : (T k).1 = own) {v : Value} (hn : narrow (ty0 k) v = v) (hfit : fits (ty0 k) v = true) (hln : k < fs.length) (hdg : decode cc pc = .ok (.putfield index, 3))
    (kk : ∀ (H1 : Heap) (locs1 : List Loc), gk_P D A (gk_up G a (.inr (ci, fs.set k v))) H1 → va_S A s.heap H1 locs1 → W p l e R s m args below meth c H1 locs1 cells slots Q (F0 m (pc + 3) ls rest)) : W p l e R s m args below meth c H locs cells slots Q (F0 m pc ls (v :: .ref a :: rest)) := by
  obtain ⟨hx, hb, hown, hts⟩ := hC
  obtain ⟨P, hD, hi⟩ := gk_open hP
  obtain ⟨q0, hq⟩ := hi a _ hG
  exact va_putF hx hb hts hin ty0 hty hnm hown hK P hD hS q0 hq hc k hk (hts _ hl) hsame hfin hin2 hdecl (hty k hk) hn hfit hln hdg (fun H1 locs1 P1 D1 S1 => kk H1 locs1 (gk_set hP hq P1 D1) S1)
theorem gk_iald (hC : gk_C p s m c args cc own) (hK : va_K D vwCl tys s) (hP : gk_P D A G H) (t0 : Nat) {cA : ClassId} {n : Nat} {f : Nat → Int32} (hG : G a = some (.inl (cA, n, .inl f))) (ht : tys[t0]? = some (cA, .int)) {i : Int32} (hin : vp_in i n) (hdg : decode cc pc = .ok (.iaload, 1))
    (kk : W p l e R s m args below meth c H locs cells slots Q (F0 m (pc + 1) ls (.int (f i.toNatClampNeg) :: rest))) : W p l e R s m args below meth c H locs cells slots Q (F0 m pc ls (.int i :: .ref a :: rest)) := by
  obtain ⟨hx, hb, hown, hts⟩ := hC
  obtain ⟨P, -, hi⟩ := gk_open hP
  obtain ⟨q0, hq⟩ := hi a _ hG
  exact va_iald hx hb hK P q0 t0 hq ht hin hdg kk
theorem gk_zald (hC : gk_C p s m c args cc own) (hK : va_K D vwCl tys s) (hP : gk_P D A G H) (t0 : Nat) {cA : ClassId} {n : Nat} {f : Nat → Int32} (hG : G a = some (.inl (cA, n, .inl f))) (ht : tys[t0]? = some (cA, .boolean)) {i : Int32} (hin : vp_in i n) (hdg : decode cc pc = .ok (.baload, 1))
    (kk : W p l e R s m args below meth c H locs cells slots Q (F0 m (pc + 1) ls (.int (f i.toNatClampNeg) :: rest))) : W p l e R s m args below meth c H locs cells slots Q (F0 m pc ls (.int i :: .ref a :: rest)) := by
  obtain ⟨hx, hb, hown, hts⟩ := hC
  obtain ⟨P, -, hi⟩ := gk_open hP
  obtain ⟨q0, hq⟩ := hi a _ hG
  exact va_zald hx hb hK P q0 t0 hq ht hin hdg kk
theorem gk_lald (hC : gk_C p s m c args cc own) (hK : va_K D vwCl tys s) (hP : gk_P D A G H) (t0 : Nat) {cA : ClassId} {n : Nat} {f : Nat → Int64} (hG : G a = some (.inl (cA, n, .inr (.inl f)))) (ht : tys[t0]? = some (cA, .long)) {i : Int32} (hin : vp_in i n) (hdg : decode cc pc = .ok (.laload, 1))
    (kk : W p l e R s m args below meth c H locs cells slots Q (F0 m (pc + 1) ls (.long (f i.toNatClampNeg) :: rest))) : W p l e R s m args below meth c H locs cells slots Q (F0 m pc ls (.int i :: .ref a :: rest)) := by
  obtain ⟨hx, hb, hown, hts⟩ := hC
  obtain ⟨P, -, hi⟩ := gk_open hP
  obtain ⟨q0, hq⟩ := hi a _ hG
  exact va_lald hx hb hK P q0 t0 hq ht hin hdg kk
theorem gk_aald (hC : gk_C p s m c args cc own) (hK : va_K D vwCl tys s) (hP : gk_P D A G H) (t0 : Nat) {cA : ClassId} {C : String} {n : Nat} {f : Nat → Option Nat} (hG : G a = some (.inl (cA, n, .inr (.inr (.inr (.inr f)))))) (ht : tys[t0]? = some (cA, .object C)) {i : Int32} (hin : vp_in i n) (hdg : decode cc pc = .ok (.aaload, 1))
    (kk : W p l e R s m args below meth c H locs cells slots Q (F0 m (pc + 1) ls (va_rf (f i.toNatClampNeg) :: rest))) : W p l e R s m args below meth c H locs cells slots Q (F0 m pc ls (.int i :: .ref a :: rest)) := by
  obtain ⟨hx, hb, hown, hts⟩ := hC
  obtain ⟨P, -, hi⟩ := gk_open hP
  obtain ⟨q0, hq⟩ := hi a _ hG
  exact va_aldq hx hb hK P q0 t0 hq ht hin hdg kk
theorem gk_alen (hC : gk_C p s m c args cc own) (hK : va_K D vwCl tys s) (hP : gk_P D A G H) (t0 : Nat) {cA : ClassId} {x : vp_A} (hG : G a = some (.inl (cA, x))) {ty : FieldType} (ht : tys[t0]? = some (cA, ty)) (hdg : decode cc pc = .ok (.arraylength, 1))
    (kk : W p l e R s m args below meth c H locs cells slots Q (F0 m (pc + 1) ls (.int (nI x.1) :: rest))) : W p l e R s m args below meth c H locs cells slots Q (F0 m pc ls (.ref a :: rest)) := by
  obtain ⟨hx, hb, hown, hts⟩ := hC
  obtain ⟨P, -, hi⟩ := gk_open hP
  obtain ⟨q0, hq⟩ := hi a _ hG
  exact va_alen hx hb hK P q0 t0 hq ht rfl hdg kk
theorem gk_iast (hC : gk_C p s m c args cc own) (hK : va_K D vwCl tys s) (hP : gk_P D A G H) (hS : va_S A s.heap H locs) (t0 : Nat) {cA : ClassId} {n : Nat} {f : Nat → Int32} (hG : G a = some (.inl (cA, n, .inl f))) (ht : tys[t0]? = some (cA, .int)) {i x : Int32} (hin : vp_in i n) (hdg : decode cc pc = .ok (.iastore, 1))
    (kk : ∀ (H1 : Heap) (locs1 : List Loc), gk_P D A (gk_up G a (.inl (cA, n, .inl (upd f i.toNatClampNeg x)))) H1 → va_S A s.heap H1 locs1 → W p l e R s m args below meth c H1 locs1 cells slots Q (F0 m (pc + 1) ls rest)) : W p l e R s m args below meth c H locs cells slots Q (F0 m pc ls (.int x :: .int i :: .ref a :: rest)) := by
  obtain ⟨hx, hb, hown, hts⟩ := hC
  obtain ⟨P, hD, hi⟩ := gk_open hP
  obtain ⟨q0, hq⟩ := hi a _ hG
  exact va_iast hx hb hK P hD hS q0 t0 hq ht hin hdg (fun H1 locs1 P1 D1 S1 => kk H1 locs1 (gk_set hP hq P1 D1) S1)
theorem gk_zast (hC : gk_C p s m c args cc own) (hK : va_K D vwCl tys s) (hP : gk_P D A G H) (hS : va_S A s.heap H locs) (t0 : Nat) {cA : ClassId} {n : Nat} {f : Nat → Int32} (hG : G a = some (.inl (cA, n, .inl f))) (ht : tys[t0]? = some (cA, .boolean)) {i x : Int32} (hin : vp_in i n) (hbit : vp_nar .boolean x = x) (hdg : decode cc pc = .ok (.bastore, 1))
    (kk : ∀ (H1 : Heap) (locs1 : List Loc), gk_P D A (gk_up G a (.inl (cA, n, .inl (upd f i.toNatClampNeg x)))) H1 → va_S A s.heap H1 locs1 → W p l e R s m args below meth c H1 locs1 cells slots Q (F0 m (pc + 1) ls rest)) : W p l e R s m args below meth c H locs cells slots Q (F0 m pc ls (.int x :: .int i :: .ref a :: rest)) := by
  obtain ⟨hx, hb, hown, hts⟩ := hC
  obtain ⟨P, hD, hi⟩ := gk_open hP
  obtain ⟨q0, hq⟩ := hi a _ hG
  refine va_zast hx hb hK P hD hS q0 t0 hq ht hin hdg (fun H1 locs1 P1 D1 S1 => ?_)
  rw [hbit] at P1 D1
  exact kk H1 locs1 (gk_set hP hq P1 D1) S1
theorem gk_last (hC : gk_C p s m c args cc own) (hK : va_K D vwCl tys s) (hP : gk_P D A G H) (hS : va_S A s.heap H locs) (t0 : Nat) {cA : ClassId} {n : Nat} {f : Nat → Int64} (hG : G a = some (.inl (cA, n, .inr (.inl f)))) (ht : tys[t0]? = some (cA, .long)) {i : Int32} {x : Int64} (hin : vp_in i n) (hdg : decode cc pc = .ok (.lastore, 1))
    (kk : ∀ (H1 : Heap) (locs1 : List Loc), gk_P D A (gk_up G a (.inl (cA, n, .inr (.inl (vp_updL f i.toNatClampNeg x))))) H1 → va_S A s.heap H1 locs1 → W p l e R s m args below meth c H1 locs1 cells slots Q (F0 m (pc + 1) ls rest)) : W p l e R s m args below meth c H locs cells slots Q (F0 m pc ls (.long x :: .int i :: .ref a :: rest)) := by
  obtain ⟨hx, hb, hown, hts⟩ := hC
  obtain ⟨P, hD, hi⟩ := gk_open hP
  obtain ⟨q0, hq⟩ := hi a _ hG
  exact va_last hx hb hK P hD hS q0 t0 hq ht hin hdg (fun H1 locs1 P1 D1 S1 => kk H1 locs1 (gk_set hP hq P1 D1) S1)
/-- a reference to an object of class number ci into an array over that class -/
theorem gk_aast (hC : gk_C p s m c args cc own) (hK : va_K D vwCl tys s) (hP : gk_P D A G H) (hS : va_S A s.heap H locs) (t0 : Nat) {cA : ClassId} {r : vw_C} {n v ci : Nat} {vs : List Value} {f : Nat → Option Nat} (hG : G a = some (.inl (cA, n, .inr (.inr (.inr (.inr f)))))) (ht : tys[t0]? = some (cA, .object r.1)) (hv : G v = some (.inr (ci, vs))) (hc : vwCl[ci]? = some r) {i : Int32} (hin : vp_in i n) (hdg : decode cc pc = .ok (.aastore, 1))
    (kk : ∀ (H1 : Heap) (locs1 : List Loc), gk_P D A (gk_up G a (.inl (cA, n, .inr (.inr (.inr (.inr (va_up f i.toNatClampNeg (some v)))))))) H1 → va_S A s.heap H1 locs1 → W p l e R s m args below meth c H1 locs1 cells slots Q (F0 m (pc + 1) ls rest)) : W p l e R s m args below meth c H locs cells slots Q (F0 m pc ls (.ref v :: .int i :: .ref a :: rest)) := by
  obtain ⟨hx, hb, hown, hts⟩ := hC
  obtain ⟨P, hD, hi⟩ := gk_open hP
  obtain ⟨q0, hq⟩ := hi a _ hG
  obtain ⟨q1, hq1⟩ := hi v _ hv
  exact va_astq hx hb hK P hD hS q0 t0 q1 ci hq ht hq1 hc hin hdg (fun H1 locs1 P1 D1 S1 => kk H1 locs1 (gk_set hP hq P1 D1) S1)
/-- a reference to an object of class number ci into an array over a class above it -/
theorem gk_aastM (hC : gk_C p s m c args cc own) (hK : va_K D vwCl tys s) (hP : gk_P D A G H) (hS : va_S A s.heap H locs) (t0 : Nat) {cA : ClassId} {E : String} {r : vw_C} {n v ci : Nat} {vs : List Value} {f : Nat → Option Nat} (hG : G a = some (.inl (cA, n, .inr (.inr (.inr (.inr f)))))) (ht : tys[t0]? = some (cA, .object E)) (hv : G v = some (.inr (ci, vs))) (hc : vwCl[ci]? = some r) (hasg : ∀ comp c0 : ClassId, s.vm.findClass E = some comp → s.vm.findClass r.1 = some c0 → s.vm.assignable c0 comp = true) {i : Int32} (hin : vp_in i n) (hdg : decode cc pc = .ok (.aastore, 1))
    (kk : ∀ (H1 : Heap) (locs1 : List Loc), gk_P D A (gk_up G a (.inl (cA, n, .inr (.inr (.inr (.inr (va_up f i.toNatClampNeg (some v)))))))) H1 → va_S A s.heap H1 locs1 → W p l e R s m args below meth c H1 locs1 cells slots Q (F0 m (pc + 1) ls rest)) : W p l e R s m args below meth c H locs cells slots Q (F0 m pc ls (.ref v :: .int i :: .ref a :: rest)) := by
  obtain ⟨hx, hb, hown, hts⟩ := hC
  obtain ⟨P, hD, hi⟩ := gk_open hP
  obtain ⟨q0, hq⟩ := hi a _ hG
  obtain ⟨q1, hq1⟩ := hi v _ hv
  exact va_astqM hx hb hK P hD hS q0 t0 hq ht (va_rAny hK P hq1 hc hasg) hin hdg (fun H1 locs1 P1 D1 S1 => kk H1 locs1 (gk_set hP hq P1 D1) S1)
theorem gk_aastN (hC : gk_C p s m c args cc own) (hK : va_K D vwCl tys s) (hP : gk_P D A G H) (hS : va_S A s.heap H locs) (t0 : Nat) {cA : ClassId} {C : String} {n : Nat} {f : Nat → Option Nat} (hG : G a = some (.inl (cA, n, .inr (.inr (.inr (.inr f)))))) (ht : tys[t0]? = some (cA, .object C)) {i : Int32} (hin : vp_in i n) (hdg : decode cc pc = .ok (.aastore, 1))
    (kk : ∀ (H1 : Heap) (locs1 : List Loc), gk_P D A (gk_up G a (.inl (cA, n, .inr (.inr (.inr (.inr (va_up f i.toNatClampNeg none))))))) H1 → va_S A s.heap H1 locs1 → W p l e R s m args below meth c H1 locs1 cells slots Q (F0 m (pc + 1) ls rest)) : W p l e R s m args below meth c H locs cells slots Q (F0 m pc ls (.null :: .int i :: .ref a :: rest)) := by
  obtain ⟨hx, hb, hown, hts⟩ := hC
  obtain ⟨P, hD, hi⟩ := gk_open hP
  obtain ⟨q0, hq⟩ := hi a _ hG
  exact va_astqN hx hb hK P hD hS q0 t0 hq ht hin hdg (fun H1 locs1 P1 D1 S1 => kk H1 locs1 (gk_set hP hq P1 D1) S1)
theorem gk_new (hC : gk_C p s m c args cc own) (hK : va_K D vwCl tys s) (hP : gk_P D A G H) (hS : va_S A s.heap H locs) (hA : ∀ q, s.heap.size ≤ q → A q) {ci index N : Nat} {C : String} {T : u_T} (hc : vwCl[ci]? = some (C, T, N)) (hin : ∀ w ∈ u_ws C T N, w ∈ wsL_law) (ty : Nat → FieldType) (hty : ∀ k, k < N → parseFieldDescriptor (T k).2.2.1 = some (ty k)) (hl : Cond.classLink own index C ∈ wsL_law) (hins : Cond.instantiable C N ∈ wsL_law) (hini : Cond.initialized C ∈ wsL_law) {fs : List Value} (hfs : ∀ j, j < N → defaultValue (ty j) = vp_V fs j) (hcells : cells + 1 ≤ R.cells) (hslots : slots + N ≤ R.slots) (hdg : decode cc pc = .ok (.new index, 3))
    (kk : ∀ (q : Nat) (H1 : Heap), G q = none → gk_P D A (gk_up G q (.inr (ci, fs))) H1 → va_S A s.heap H1 locs → W p l e R s m args below meth c H1 locs (cells + 1) (slots + N) Q (F0 m (pc + 3) ls (.ref q :: rest))) : W p l e R s m args below meth c H locs cells slots Q (F0 m pc ls rest) := by
  obtain ⟨hx, hb, hown, hts⟩ := hC
  obtain ⟨P, hD, hi⟩ := gk_open hP
  exact va_new hx hb hts hin ty hty hown (hts _ hl) (hts _ hins) (hts _ hini) hK P hD hS hA hc hfs hcells hslots hdg (fun q H1 P1 D1 S1 => kk q H1 (gk_push hP P1 D1).2 (gk_push hP P1 D1).1 S1)
theorem gk_newa (hC : gk_C p s m c args cc own) (hK : va_K D vwCl tys s) (hP : gk_P D A G H) (hS : va_S A s.heap H locs) (hA : ∀ q, s.heap.size ≤ q → A q) {atype : ArrayType} {ty : FieldType} (hl : Cond.arrayClass (newarray.typeOf atype) ∈ wsL_law) (hty : newarray.typeOf atype = ty) (t0 : Nat) {cA : ClassId} (ht : tys[t0]? = some (cA, ty)) {n : Int32} {N' : Nat} {a0 : vp_A} (ha : ∀ cA : ClassId, vp_cell cA a0 = arrV cA N' (fun _ => defaultValue ty)) (hn : ¬ n < 0) (hN : n.toNatClampNeg = N') (hbytes : N' * componentBytes ty ≤ 536870912) (hcells : cells + 1 ≤ R.cells) (hslots : slots + N' ≤ R.slots) (hdg : decode cc pc = .ok (.newarray atype, 2))
    (kk : ∀ (q : Nat) (H1 : Heap), G q = none → gk_P D A (gk_up G q (.inl (cA, a0))) H1 → va_S A s.heap H1 locs → W p l e R s m args below meth c H1 locs (cells + 1) (slots + N') Q (F0 m (pc + 2) ls (.ref q :: rest))) : W p l e R s m args below meth c H locs cells slots Q (F0 m pc ls (.int n :: rest)) := by
  obtain ⟨hx, hb, hown, hts⟩ := hC
  obtain ⟨P, hD, hi⟩ := gk_open hP
  refine va_newa hx hb (hts _ hl) hty hK P hD hS hA ha hn hN hbytes hcells hslots hdg (fun q cB H1 K1 P1 D1 S1 => ?_)
  have e1 : cB = cA := by
    have h1 := (K1.2 tys.length (cB, ty) (by rw [List.getElem?_append_right (Nat.le_refl _), Nat.sub_self]; rfl)).2
    exact gk_ra h1 (hK.2 t0 _ ht).2
  subst e1
  exact kk q H1 (gk_push hP P1 D1).2 (gk_push hP P1 D1).1 S1
theorem gk_newq (hC : gk_C p s m c args cc own) (hK : va_K D vwCl tys s) (hP : gk_P D A G H) (hS : va_S A s.heap H locs) (hA : ∀ q, s.heap.size ≤ q → A q) {C : String} {index : Nat} (hl : Cond.classLink own index C ∈ wsL_law) (hover : va_AO C s) (t0 : Nat) {cA : ClassId} (ht : tys[t0]? = some (cA, .object C)) {n : Int32} {N' : Nat} (hn : ¬ n < 0) (hN : n.toNatClampNeg = N') (hbytes : N' * 4 ≤ 536870912) (hcells : cells + 1 ≤ R.cells) (hslots : slots + N' ≤ R.slots) (hdg : decode cc pc = .ok (.anewarray index, 3))
    (kk : ∀ (q : Nat) (H1 : Heap), G q = none → gk_P D A (gk_up G q (.inl (cA, N', .inr (.inr (.inr (.inr (fun _ => none))))))) H1 → va_S A s.heap H1 locs → W p l e R s m args below meth c H1 locs (cells + 1) (slots + N') Q (F0 m (pc + 3) ls (.ref q :: rest))) : W p l e R s m args below meth c H locs cells slots Q (F0 m pc ls (.int n :: rest)) := by
  obtain ⟨hx, hb, hown, hts⟩ := hC
  obtain ⟨P, hD, hi⟩ := gk_open hP
  refine va_newq hx hb hown (hts _ hl) hover hK P hD hS hA hn hN hbytes hcells hslots hdg (fun q cB H1 K1 P1 D1 S1 => ?_)
  have e1 : cB = cA := by
    have h1 := (K1.2 tys.length (cB, .object C) (by rw [List.getElem?_append_right (Nat.le_refl _), Nat.sub_self]; rfl)).2
    exact gk_ra h1 (hK.2 t0 _ ht).2
  subst e1
  exact kk q H1 (gk_push hP P1 D1).2 (gk_push hP P1 D1).1 S1
/-- System.arraycopy between two arrays of references over one class, or within one -/
theorem gk_copy (hC : gk_C p s m c args cc own) (hml : c.maxLocals = ls.size) {index : Nat} (hl : Cond.methodLink own index arraycopyName ∈ wsL_law) (hnat : Cond.native arraycopyName ∈ wsL_law) (hstat : Cond.static arraycopyName ∈ wsL_law) (hini : Cond.initialized "java/lang/System" ∈ wsL_law)
    (hK : va_K D vwCl tys s) (hP : gk_P D A G H) (hS : va_S A s.heap H locs) (t0 : Nat) {a0 : Nat} {cA : ClassId} {n0 n1 : Nat} {f g : Nat → Option Nat} {E1 : String} (hG0 : G a0 = some (.inl (cA, n0, .inr (.inr (.inr (.inr f)))))) (hG1 : G a = some (.inl (cA, n1, .inr (.inr (.inr (.inr g)))))) (ht : tys[t0]? = some (cA, .object E1))
    {sp dp n : Int32} (h1 : ¬ sp < 0) (h2 : ¬ dp < 0) (h3 : ¬ n < 0) (h4 : sp.toNatClampNeg + n.toNatClampNeg ≤ n0) (h5 : dp.toNatClampNeg + n.toNatClampNeg ≤ n1)
    (hel : ∀ i : Nat, i < n.toNatClampNeg → ∀ y : Nat, f (sp.toNatClampNeg + i) = some y → ∃ (ci : Nat) (r : vw_C) (vs : List Value), G y = some (.inr (ci, vs)) ∧ vwCl[ci]? = some r ∧ ∀ comp c0 : ClassId, s.vm.findClass E1 = some comp → s.vm.findClass r.1 = some c0 → s.vm.assignable c0 comp = true)
    (hframes : 1 ≤ R.frames) (hlocals : (rest.map fun v => v.category).sum + (nativeFrameWords "java/lang/System" "arraycopy" 5 + 11) ≤ R.locals) (hdg : decode cc pc = .ok (.invokestatic index, 3))
    (kk : ∀ (H1 : Heap) (locs1 : List Loc), gk_P D A (gk_up G a (.inl (cA, n1, .inr (.inr (.inr (.inr (va_cpy f g sp.toNatClampNeg dp.toNatClampNeg n.toNatClampNeg))))))) H1 → va_S A s.heap H1 locs1 → W p l e R s m args below meth c H1 locs1 cells slots Q (F0 m (pc + 3) ls rest)) : W p l e R s m args below meth c H locs cells slots Q (F0 m pc ls (.int n :: .int dp :: .ref a :: .int sp :: .ref a0 :: rest)) := by
  obtain ⟨hx, hb, hown, hts⟩ := hC
  obtain ⟨P, hD, hi⟩ := gk_open hP
  obtain ⟨q0, hq⟩ := hi a0 _ hG0
  obtain ⟨q1, hq1⟩ := hi a _ hG1
  refine va_copyM hx hb hml hown (hts _ hl) (hts _ hnat) (hts _ hstat) (hts _ hini) hK P hD hS q0 q1 t0 t0 hq hq1 ht ht h1 h2 h3 h4 h5 (fun i hi2 y hy => ?_) hframes hlocals hdg (fun H1 locs1 P1 D1 S1 => kk H1 locs1 (gk_set hP hq1 P1 D1) S1)
  obtain ⟨ci, r, vs, g1, g2, g3⟩ := hel i hi2 y hy
  obtain ⟨q2, hq2⟩ := hi y _ g1
  exact va_rAny hK P hq2 g2 g3
theorem gk_recv (hK : va_K D vwCl tys s) (hP : gk_P D A G H) {ci : Nat} {r : vw_C} {fs : List Value} (hG : G a = some (.inr (ci, fs))) (hc : vwCl[ci]? = some r) : ∃ cell : Cell, H[a]? = some cell ∧ cell.vm.isStatics = false ∧ s.vm.findClass r.1 = some cell.cls := by
  obtain ⟨P, -, hi⟩ := gk_open hP
  obtain ⟨q0, hq⟩ := hi a _ hG
  exact va_recv hK P hc hq
theorem gk_cast (hC : gk_C p s m c args cc own) (hK : va_K D vwCl tys s) (hP : gk_P D A G H) {ci index : Nat} {r : vw_C} {fs : List Value} (hG : G a = some (.inr (ci, fs))) (hc : vwCl[ci]? = some r) (hl : Cond.classLink own index r.1 ∈ wsL_law) (hdg : decode cc pc = .ok (.checkcast index, 3))
    (kk : W p l e R s m args below meth c H locs cells slots Q (F0 m (pc + 3) ls (.ref a :: rest))) : W p l e R s m args below meth c H locs cells slots Q (F0 m pc ls (.ref a :: rest)) :=
  va_castE hC.1 hC.2.1 hC.2.2.1 (hC.2.2.2 _ hl) (gk_recv hK hP hG hc) hdg kk
end GK1
end
section
/-! each word of the law by its place -/
theorem qm_1 : ∀ w ∈ wsL_law0_r1, w ∈ wsL_law := fun w h => by simp only [wsL_law, wsL_law0, List.mem_append, h, true_or, or_true]
theorem q_1_0 : Cond.classLink RL 8 RX4 ∈ wsL_law := qm_1 _ (List.mem_of_getElem? (i := 0) rfl)
theorem q_1_1 : Cond.instantiable RX4 4 ∈ wsL_law := qm_1 _ (List.mem_of_getElem? (i := 1) rfl)
theorem q_1_2 : Cond.initialized RX4 ∈ wsL_law := qm_1 _ (List.mem_of_getElem? (i := 2) rfl)
theorem q_1_3 : Cond.classLink RL 80 RX5 ∈ wsL_law := qm_1 _ (List.mem_of_getElem? (i := 3) rfl)
theorem q_1_4 : Cond.instantiable RX5 23 ∈ wsL_law := qm_1 _ (List.mem_of_getElem? (i := 4) rfl)
theorem q_1_5 : Cond.initialized RX5 ∈ wsL_law := qm_1 _ (List.mem_of_getElem? (i := 5) rfl)
theorem q_1_6 : Cond.arrayClass .long ∈ wsL_law := qm_1 _ (List.mem_of_getElem? (i := 6) rfl)
theorem q_1_7 : Cond.methodLink RL 79 yX4_init ∈ wsL_law := qm_1 _ (List.mem_of_getElem? (i := 7) rfl)
theorem q_1_8 : Cond.instanceMethod yX4_init ∈ wsL_law := qm_1 _ (List.mem_of_getElem? (i := 8) rfl)
theorem q_1_9 : Cond.code yX4_init cX4_init 2 none ∈ wsL_law := qm_1 _ (List.mem_of_getElem? (i := 9) rfl)
theorem q_1_10 : Cond.methodLink RX4 1 objectInit ∈ wsL_law := qm_1 _ (List.mem_of_getElem? (i := 10) rfl)
theorem q_1_11 : Cond.instanceMethod objectInit ∈ wsL_law := qm_1 _ (List.mem_of_getElem? (i := 11) rfl)
theorem q_1_12 : Cond.code objectInit ⟨#[0xb1]⟩ 1 none ∈ wsL_law := qm_1 _ (List.mem_of_getElem? (i := 12) rfl)
theorem q_1_13 : Cond.classLink RX4 9 RX3 ∈ wsL_law := qm_1 _ (List.mem_of_getElem? (i := 13) rfl)
theorem q_1_14 : Cond.fieldLink RX4 11 "LogTurner" "rules" "[LLogTurner$Rule;" ∈ wsL_law := qm_1 _ (List.mem_of_getElem? (i := 14) rfl)
theorem q_1_15 : Cond.classLink RX4 15 RX1 ∈ wsL_law := qm_1 _ (List.mem_of_getElem? (i := 15) rfl)
theorem q_1_16 : Cond.fieldLink RX4 17 "LogTurner" "files" "[LLogTurner$LogFile;" ∈ wsL_law := qm_1 _ (List.mem_of_getElem? (i := 16) rfl)
theorem q_1_17 : Cond.classLink RX4 21 RX0 ∈ wsL_law := qm_1 _ (List.mem_of_getElem? (i := 17) rfl)
theorem q_1_18 : Cond.fieldLink RX4 23 "LogTurner" "holders" "[LLogTurner$Holder;" ∈ wsL_law := qm_1 _ (List.mem_of_getElem? (i := 18) rfl)
theorem q_1_19 : Cond.instantiable RX3 10 ∈ wsL_law := qm_1 _ (List.mem_of_getElem? (i := 19) rfl)
theorem q_1_20 : Cond.initialized RX3 ∈ wsL_law := qm_1 _ (List.mem_of_getElem? (i := 20) rfl)
theorem q_1_21 : Cond.instantiable RX1 7 ∈ wsL_law := qm_1 _ (List.mem_of_getElem? (i := 21) rfl)
theorem q_1_22 : Cond.initialized RX1 ∈ wsL_law := qm_1 _ (List.mem_of_getElem? (i := 22) rfl)
theorem q_1_23 : Cond.instantiable RX0 2 ∈ wsL_law := qm_1 _ (List.mem_of_getElem? (i := 23) rfl)
theorem qm_2 : ∀ w ∈ wsL_law0_r2, w ∈ wsL_law := fun w h => by simp only [wsL_law, wsL_law0, List.mem_append, h, true_or, or_true]
theorem q_2_0 : Cond.initialized RX0 ∈ wsL_law := qm_2 _ (List.mem_of_getElem? (i := 0) rfl)
theorem q_2_1 : Cond.methodLink RX4 27 yX3_init ∈ wsL_law := qm_2 _ (List.mem_of_getElem? (i := 1) rfl)
theorem q_2_2 : Cond.instanceMethod yX3_init ∈ wsL_law := qm_2 _ (List.mem_of_getElem? (i := 2) rfl)
theorem q_2_3 : Cond.code yX3_init cX3_init 2 none ∈ wsL_law := qm_2 _ (List.mem_of_getElem? (i := 3) rfl)
theorem q_2_4 : Cond.methodLink RX3 3 objectInit ∈ wsL_law := qm_2 _ (List.mem_of_getElem? (i := 4) rfl)
theorem q_2_5 : Cond.fieldLink RX3 9 "LogTurner$Rule" "weekday" "I" ∈ wsL_law := qm_2 _ (List.mem_of_getElem? (i := 5) rfl)
theorem q_2_6 : Cond.fieldLink RX3 15 "LogTurner$Rule" "monthly" "I" ∈ wsL_law := qm_2 _ (List.mem_of_getElem? (i := 6) rfl)
theorem q_2_7 : Cond.fieldLink RX3 18 "LogTurner$Rule" "keep" "I" ∈ wsL_law := qm_2 _ (List.mem_of_getElem? (i := 7) rfl)
theorem q_2_8 : Cond.fieldLink RX3 21 "LogTurner$Rule" "number" "I" ∈ wsL_law := qm_2 _ (List.mem_of_getElem? (i := 8) rfl)
theorem q_2_9 : Cond.methodLink RX4 30 yX1_init ∈ wsL_law := qm_2 _ (List.mem_of_getElem? (i := 9) rfl)
theorem q_2_10 : Cond.instanceMethod yX1_init ∈ wsL_law := qm_2 _ (List.mem_of_getElem? (i := 10) rfl)
theorem q_2_11 : Cond.code yX1_init cX1_init 3 none ∈ wsL_law := qm_2 _ (List.mem_of_getElem? (i := 11) rfl)
theorem q_2_12 : Cond.methodLink RX1 1 objectInit ∈ wsL_law := qm_2 _ (List.mem_of_getElem? (i := 12) rfl)
theorem q_2_13 : Cond.classLink RX1 7 RJx4a65c ∈ wsL_law := qm_2 _ (List.mem_of_getElem? (i := 13) rfl)
theorem q_2_14 : Cond.instantiable RJx4a65c 3 ∈ wsL_law := qm_2 _ (List.mem_of_getElem? (i := 14) rfl)
theorem q_2_15 : Cond.initialized RJx4a65c ∈ wsL_law := qm_2 _ (List.mem_of_getElem? (i := 15) rfl)
theorem q_2_16 : Cond.fieldLink RX1 10 "LogTurner$LogFile" "oldParts" "Ljava/util/ArrayList;" ∈ wsL_law := qm_2 _ (List.mem_of_getElem? (i := 16) rfl)
theorem q_2_17 : Cond.classLink RX1 16 RX2 ∈ wsL_law := qm_2 _ (List.mem_of_getElem? (i := 17) rfl)
theorem q_2_18 : Cond.instantiable RX2 3 ∈ wsL_law := qm_2 _ (List.mem_of_getElem? (i := 18) rfl)
theorem q_2_19 : Cond.initialized RX2 ∈ wsL_law := qm_2 _ (List.mem_of_getElem? (i := 19) rfl)
theorem q_2_20 : Cond.fieldLink RX1 19 "LogTurner$LogFile" "livePart" "LLogTurner$Part;" ∈ wsL_law := qm_2 _ (List.mem_of_getElem? (i := 20) rfl)
theorem q_2_21 : Cond.fieldLink RX1 23 "LogTurner$LogFile" "number" "I" ∈ wsL_law := qm_2 _ (List.mem_of_getElem? (i := 21) rfl)
theorem q_2_22 : Cond.fieldLink RX1 27 "LogTurner$LogFile" "rule" "LLogTurner$Rule;" ∈ wsL_law := qm_2 _ (List.mem_of_getElem? (i := 22) rfl)
theorem q_2_23 : Cond.methodLink RX1 9 yJx4a65c_init_da8c8 ∈ wsL_law := qm_2 _ (List.mem_of_getElem? (i := 23) rfl)
theorem qm_3 : ∀ w ∈ wsL_law0_r3, w ∈ wsL_law := fun w h => by simp only [wsL_law, wsL_law0, List.mem_append, h, true_or, or_true]
theorem q_3_0 : Cond.instanceMethod yJx4a65c_init_da8c8 ∈ wsL_law := qm_3 _ (List.mem_of_getElem? (i := 0) rfl)
theorem q_3_1 : Cond.code yJx4a65c_init_da8c8 cJx4a65c_init_da8c8 1 none ∈ wsL_law := qm_3 _ (List.mem_of_getElem? (i := 1) rfl)
theorem q_3_2 : Cond.fieldLink RJx4a65c 39 "java/util/ArrayList" "DEFAULTCAPACITY_EMPTY_ELEMENTDATA" "[Ljava/lang/Object;" ∈ wsL_law := qm_3 _ (List.mem_of_getElem? (i := 2) rfl)
theorem q_3_3 : Cond.fieldLink RJx4a65c 9 "java/util/ArrayList" "elementData" "[Ljava/lang/Object;" ∈ wsL_law := qm_3 _ (List.mem_of_getElem? (i := 3) rfl)
theorem q_3_4 : Cond.methodLink RJx4a65c 1 yJxc12de_init_da8c8 ∈ wsL_law := qm_3 _ (List.mem_of_getElem? (i := 4) rfl)
theorem q_3_5 : Cond.instanceMethod yJxc12de_init_da8c8 ∈ wsL_law := qm_3 _ (List.mem_of_getElem? (i := 5) rfl)
theorem q_3_6 : Cond.initialized RJxc12de ∈ wsL_law := qm_3 _ (List.mem_of_getElem? (i := 6) rfl)
theorem q_3_7 : Cond.code yJxc12de_init_da8c8 cJxc12de_init_da8c8 1 none ∈ wsL_law := qm_3 _ (List.mem_of_getElem? (i := 7) rfl)
theorem q_3_8 : Cond.fieldLink RJxc12de 7 "java/util/AbstractList" "modCount" "I" ∈ wsL_law := qm_3 _ (List.mem_of_getElem? (i := 8) rfl)
theorem q_3_9 : Cond.methodLink RJxc12de 1 yJxa1e45_init_da8c8 ∈ wsL_law := qm_3 _ (List.mem_of_getElem? (i := 9) rfl)
theorem q_3_10 : Cond.instanceMethod yJxa1e45_init_da8c8 ∈ wsL_law := qm_3 _ (List.mem_of_getElem? (i := 10) rfl)
theorem q_3_11 : Cond.initialized RJxa1e45 ∈ wsL_law := qm_3 _ (List.mem_of_getElem? (i := 11) rfl)
theorem q_3_12 : Cond.code yJxa1e45_init_da8c8 cJxa1e45_init_da8c8 1 none ∈ wsL_law := qm_3 _ (List.mem_of_getElem? (i := 12) rfl)
theorem q_3_13 : Cond.methodLink RJxa1e45 1 objectInit ∈ wsL_law := qm_3 _ (List.mem_of_getElem? (i := 13) rfl)
theorem q_3_14 : Cond.instanceMethod yX2_init ∈ wsL_law := qm_3 _ (List.mem_of_getElem? (i := 14) rfl)
theorem q_3_15 : Cond.code yX2_init cX2_init 1 none ∈ wsL_law := qm_3 _ (List.mem_of_getElem? (i := 15) rfl)
theorem q_3_16 : Cond.methodLink RX2 1 objectInit ∈ wsL_law := qm_3 _ (List.mem_of_getElem? (i := 16) rfl)
theorem q_3_17 : Cond.instanceMethod yX0_init ∈ wsL_law := qm_3 _ (List.mem_of_getElem? (i := 17) rfl)
theorem q_3_18 : Cond.code yX0_init cX0_init 1 none ∈ wsL_law := qm_3 _ (List.mem_of_getElem? (i := 18) rfl)
theorem q_3_19 : Cond.methodLink RX0 1 objectInit ∈ wsL_law := qm_3 _ (List.mem_of_getElem? (i := 19) rfl)
theorem q_3_20 : Cond.methodLink RL 82 yX5_init ∈ wsL_law := qm_3 _ (List.mem_of_getElem? (i := 20) rfl)
theorem q_3_21 : Cond.instanceMethod yX5_init ∈ wsL_law := qm_3 _ (List.mem_of_getElem? (i := 21) rfl)
theorem q_3_22 : Cond.code yX5_init cX5_init 2 none ∈ wsL_law := qm_3 _ (List.mem_of_getElem? (i := 22) rfl)
theorem q_3_23 : Cond.methodLink RX5 1 objectInit ∈ wsL_law := qm_3 _ (List.mem_of_getElem? (i := 23) rfl)
theorem qm_4 : ∀ w ∈ wsL_law0_r4, w ∈ wsL_law := fun w h => by simp only [wsL_law, wsL_law0, List.mem_append, h, true_or, or_true]
theorem q_4_0 : Cond.arrayClass .int ∈ wsL_law := qm_4 _ (List.mem_of_getElem? (i := 0) rfl)
theorem q_4_1 : Cond.fieldLink RX5 7 "LogTurnerModel" "size" "[I" ∈ wsL_law := qm_4 _ (List.mem_of_getElem? (i := 1) rfl)
theorem q_4_2 : Cond.fieldLink RX5 13 "LogTurnerModel" "weekday" "[I" ∈ wsL_law := qm_4 _ (List.mem_of_getElem? (i := 2) rfl)
theorem q_4_3 : Cond.fieldLink RX5 16 "LogTurnerModel" "monthly" "[I" ∈ wsL_law := qm_4 _ (List.mem_of_getElem? (i := 3) rfl)
theorem q_4_4 : Cond.fieldLink RX5 19 "LogTurnerModel" "least" "[I" ∈ wsL_law := qm_4 _ (List.mem_of_getElem? (i := 4) rfl)
theorem q_4_5 : Cond.fieldLink RX5 22 "LogTurnerModel" "keep" "[I" ∈ wsL_law := qm_4 _ (List.mem_of_getElem? (i := 5) rfl)
theorem q_4_6 : Cond.fieldLink RX5 25 "LogTurnerModel" "greatest" "[I" ∈ wsL_law := qm_4 _ (List.mem_of_getElem? (i := 6) rfl)
theorem q_4_7 : Cond.arrayClass .boolean ∈ wsL_law := qm_4 _ (List.mem_of_getElem? (i := 7) rfl)
theorem q_4_8 : Cond.fieldLink RX5 28 "LogTurnerModel" "squeezes" "[Z" ∈ wsL_law := qm_4 _ (List.mem_of_getElem? (i := 8) rfl)
theorem q_4_9 : Cond.fieldLink RX5 32 "LogTurnerModel" "dates" "[Z" ∈ wsL_law := qm_4 _ (List.mem_of_getElem? (i := 9) rfl)
theorem q_4_10 : Cond.fieldLink RX5 35 "LogTurnerModel" "tells" "[Z" ∈ wsL_law := qm_4 _ (List.mem_of_getElem? (i := 10) rfl)
theorem q_4_11 : Cond.fieldLink RX5 38 "LogTurnerModel" "rule" "[I" ∈ wsL_law := qm_4 _ (List.mem_of_getElem? (i := 11) rfl)
theorem q_4_12 : Cond.fieldLink RX5 41 "LogTurnerModel" "alive" "[I" ∈ wsL_law := qm_4 _ (List.mem_of_getElem? (i := 12) rfl)
theorem q_4_13 : Cond.fieldLink RX5 44 "LogTurnerModel" "last" "[I" ∈ wsL_law := qm_4 _ (List.mem_of_getElem? (i := 13) rfl)
theorem q_4_14 : Cond.fieldLink RX5 47 "LogTurnerModel" "turned" "[Z" ∈ wsL_law := qm_4 _ (List.mem_of_getElem? (i := 14) rfl)
theorem q_4_15 : Cond.fieldLink RX5 50 "LogTurnerModel" "away" "[I" ∈ wsL_law := qm_4 _ (List.mem_of_getElem? (i := 15) rfl)
theorem q_4_16 : Cond.fieldLink RX5 53 "LogTurnerModel" "of" "[I" ∈ wsL_law := qm_4 _ (List.mem_of_getElem? (i := 16) rfl)
theorem q_4_17 : Cond.fieldLink RX5 56 "LogTurnerModel" "many" "[I" ∈ wsL_law := qm_4 _ (List.mem_of_getElem? (i := 17) rfl)
theorem q_4_18 : Cond.fieldLink RX5 59 "LogTurnerModel" "from" "[I" ∈ wsL_law := qm_4 _ (List.mem_of_getElem? (i := 18) rfl)
theorem q_4_19 : Cond.fieldLink RX5 62 "LogTurnerModel" "squeezed" "[Z" ∈ wsL_law := qm_4 _ (List.mem_of_getElem? (i := 19) rfl)
theorem q_4_20 : Cond.fieldLink RX5 65 "LogTurnerModel" "file" "[I" ∈ wsL_law := qm_4 _ (List.mem_of_getElem? (i := 20) rfl)
theorem q_4_21 : Cond.fieldLink RX5 68 "LogTurnerModel" "part" "[I" ∈ wsL_law := qm_4 _ (List.mem_of_getElem? (i := 21) rfl)
theorem q_4_22 : Cond.methodLink RL 83 yL_setDue ∈ wsL_law := qm_4 _ (List.mem_of_getElem? (i := 22) rfl)
theorem q_4_23 : Cond.static yL_setDue ∈ wsL_law := qm_4 _ (List.mem_of_getElem? (i := 23) rfl)
theorem qm_5 : ∀ w ∈ wsL_law0_r5, w ∈ wsL_law := fun w h => by simp only [wsL_law, wsL_law0, List.mem_append, h, true_or, or_true]
theorem q_5_0 : Cond.initialized RL ∈ wsL_law := qm_5 _ (List.mem_of_getElem? (i := 0) rfl)
theorem q_5_1 : Cond.codeWith yL_setDue cL_setDue 7 (some .int) [(0, 11, 14, 13), (0, 11, 18, 15)] ∈ wsL_law := qm_5 _ (List.mem_of_getElem? (i := 1) rfl)
theorem q_5_2 : Cond.classLink RL 13 "java/lang/IndexOutOfBoundsException" ∈ wsL_law := qm_5 _ (List.mem_of_getElem? (i := 2) rfl)
theorem q_5_3 : Cond.classLink RL 15 "java/lang/IllegalArgumentException" ∈ wsL_law := qm_5 _ (List.mem_of_getElem? (i := 3) rfl)
theorem q_5_4 : Cond.methodLink RL 7 yX4_setDue ∈ wsL_law := qm_5 _ (List.mem_of_getElem? (i := 4) rfl)
theorem q_5_5 : Cond.instanceMethod yX4_setDue ∈ wsL_law := qm_5 _ (List.mem_of_getElem? (i := 5) rfl)
theorem q_5_6 : Cond.selects RX4 yX4_setDue yX4_setDue ∈ wsL_law := qm_5 _ (List.mem_of_getElem? (i := 6) rfl)
theorem q_5_7 : Cond.code yX4_setDue cX4_setDue 7 none ∈ wsL_law := qm_5 _ (List.mem_of_getElem? (i := 7) rfl)
theorem q_5_8 : Cond.fieldLink RX4 42 "LogTurner$Rule" "size" "I" ∈ wsL_law := qm_5 _ (List.mem_of_getElem? (i := 8) rfl)
theorem q_5_9 : Cond.fieldLink RX4 46 "LogTurner$Rule" "weekday" "I" ∈ wsL_law := qm_5 _ (List.mem_of_getElem? (i := 9) rfl)
theorem q_5_10 : Cond.fieldLink RX4 49 "LogTurner$Rule" "monthly" "I" ∈ wsL_law := qm_5 _ (List.mem_of_getElem? (i := 10) rfl)
theorem q_5_11 : Cond.fieldLink RX4 52 "LogTurner$Rule" "least" "I" ∈ wsL_law := qm_5 _ (List.mem_of_getElem? (i := 11) rfl)
theorem q_5_12 : Cond.methodLink RX4 34 yX4_ruleOf ∈ wsL_law := qm_5 _ (List.mem_of_getElem? (i := 12) rfl)
theorem q_5_13 : Cond.instanceMethod yX4_ruleOf ∈ wsL_law := qm_5 _ (List.mem_of_getElem? (i := 13) rfl)
theorem q_5_14 : Cond.selects RX4 yX4_ruleOf yX4_ruleOf ∈ wsL_law := qm_5 _ (List.mem_of_getElem? (i := 14) rfl)
theorem q_5_15 : Cond.code yX4_ruleOf cX4_ruleOf 2 (some (.object "LogTurner$Rule")) ∈ wsL_law := qm_5 _ (List.mem_of_getElem? (i := 15) rfl)
theorem q_5_16 : Cond.classLink RX4 168 "java/lang/IndexOutOfBoundsException" ∈ wsL_law := qm_5 _ (List.mem_of_getElem? (i := 16) rfl)
theorem q_5_17 : Cond.initialized "java/lang/IndexOutOfBoundsException" ∈ wsL_law := qm_5 _ (List.mem_of_getElem? (i := 17) rfl)
theorem q_5_18 : Cond.methodLink RX4 38 yX4_requireRange ∈ wsL_law := qm_5 _ (List.mem_of_getElem? (i := 18) rfl)
theorem q_5_19 : Cond.static yX4_requireRange ∈ wsL_law := qm_5 _ (List.mem_of_getElem? (i := 19) rfl)
theorem q_5_20 : Cond.code yX4_requireRange cX4_requireRange 3 none ∈ wsL_law := qm_5 _ (List.mem_of_getElem? (i := 20) rfl)
theorem q_5_21 : Cond.classLink RX4 183 "java/lang/IllegalArgumentException" ∈ wsL_law := qm_5 _ (List.mem_of_getElem? (i := 21) rfl)
theorem q_5_22 : Cond.initialized "java/lang/IllegalArgumentException" ∈ wsL_law := qm_5 _ (List.mem_of_getElem? (i := 22) rfl)
theorem q_5_23 : Cond.methodLink RL 88 yX5_setDue ∈ wsL_law := qm_5 _ (List.mem_of_getElem? (i := 23) rfl)
theorem qm_6 : ∀ w ∈ wsL_law0_r6, w ∈ wsL_law := fun w h => by simp only [wsL_law, wsL_law0, List.mem_append, h, true_or, or_true]
theorem q_6_0 : Cond.instanceMethod yX5_setDue ∈ wsL_law := qm_6 _ (List.mem_of_getElem? (i := 0) rfl)
theorem q_6_1 : Cond.selects RX5 yX5_setDue yX5_setDue ∈ wsL_law := qm_6 _ (List.mem_of_getElem? (i := 1) rfl)
theorem q_6_2 : Cond.code yX5_setDue cX5_setDue 7 none ∈ wsL_law := qm_6 _ (List.mem_of_getElem? (i := 2) rfl)
theorem q_6_3 : Cond.methodLink RX5 75 yX5_in ∈ wsL_law := qm_6 _ (List.mem_of_getElem? (i := 3) rfl)
theorem q_6_4 : Cond.static yX5_in ∈ wsL_law := qm_6 _ (List.mem_of_getElem? (i := 4) rfl)
theorem q_6_5 : Cond.code yX5_in cX5_in 3 (some .boolean) ∈ wsL_law := qm_6 _ (List.mem_of_getElem? (i := 5) rfl)
theorem q_6_6 : Cond.methodLink RX5 79 yX5_isRule ∈ wsL_law := qm_6 _ (List.mem_of_getElem? (i := 6) rfl)
theorem q_6_7 : Cond.static yX5_isRule ∈ wsL_law := qm_6 _ (List.mem_of_getElem? (i := 7) rfl)
theorem q_6_8 : Cond.code yX5_isRule cX5_isRule 1 (some .boolean) ∈ wsL_law := qm_6 _ (List.mem_of_getElem? (i := 8) rfl)
theorem q_6_9 : Cond.methodLink RX5 83 yX5_goes ∈ wsL_law := qm_6 _ (List.mem_of_getElem? (i := 9) rfl)
theorem q_6_10 : Cond.instanceMethod yX5_goes ∈ wsL_law := qm_6 _ (List.mem_of_getElem? (i := 10) rfl)
theorem q_6_11 : Cond.selects RX5 yX5_goes yX5_goes ∈ wsL_law := qm_6 _ (List.mem_of_getElem? (i := 11) rfl)
theorem q_6_12 : Cond.code yX5_goes cX5_goes 4 (some .boolean) ∈ wsL_law := qm_6 _ (List.mem_of_getElem? (i := 12) rfl)
theorem q_6_13 : Cond.fieldLink RX5 71 "LogTurnerModel" "thrown" "I" ∈ wsL_law := qm_6 _ (List.mem_of_getElem? (i := 13) rfl)
theorem q_6_14 : Cond.methodLink RL 89 yX5_thrown ∈ wsL_law := qm_6 _ (List.mem_of_getElem? (i := 14) rfl)
theorem q_6_15 : Cond.instanceMethod yX5_thrown ∈ wsL_law := qm_6 _ (List.mem_of_getElem? (i := 15) rfl)
theorem q_6_16 : Cond.selects RX5 yX5_thrown yX5_thrown ∈ wsL_law := qm_6 _ (List.mem_of_getElem? (i := 16) rfl)
theorem q_6_17 : Cond.code yX5_thrown cX5_thrown 1 (some .int) ∈ wsL_law := qm_6 _ (List.mem_of_getElem? (i := 17) rfl)
theorem q_6_18 : Cond.methodLink RL 92 yL_setOld ∈ wsL_law := qm_6 _ (List.mem_of_getElem? (i := 18) rfl)
theorem q_6_19 : Cond.static yL_setOld ∈ wsL_law := qm_6 _ (List.mem_of_getElem? (i := 19) rfl)
theorem q_6_20 : Cond.codeWith yL_setOld cL_setOld 8 (some .int) [(0, 13, 16, 13), (0, 13, 20, 15)] ∈ wsL_law := qm_6 _ (List.mem_of_getElem? (i := 20) rfl)
theorem q_6_21 : Cond.methodLink RL 17 yX4_setOld ∈ wsL_law := qm_6 _ (List.mem_of_getElem? (i := 21) rfl)
theorem q_6_22 : Cond.instanceMethod yX4_setOld ∈ wsL_law := qm_6 _ (List.mem_of_getElem? (i := 22) rfl)
theorem q_6_23 : Cond.selects RX4 yX4_setOld yX4_setOld ∈ wsL_law := qm_6 _ (List.mem_of_getElem? (i := 23) rfl)
theorem qm_7 : ∀ w ∈ wsL_law0_r7, w ∈ wsL_law := fun w h => by simp only [wsL_law, wsL_law0, List.mem_append, h, true_or, or_true]
theorem q_7_0 : Cond.code yX4_setOld cX4_setOld 8 none ∈ wsL_law := qm_7 _ (List.mem_of_getElem? (i := 0) rfl)
theorem q_7_1 : Cond.fieldLink RX4 55 "LogTurner$Rule" "keep" "I" ∈ wsL_law := qm_7 _ (List.mem_of_getElem? (i := 1) rfl)
theorem q_7_2 : Cond.fieldLink RX4 58 "LogTurner$Rule" "greatest" "I" ∈ wsL_law := qm_7 _ (List.mem_of_getElem? (i := 2) rfl)
theorem q_7_3 : Cond.fieldLink RX4 61 "LogTurner$Rule" "squeezes" "Z" ∈ wsL_law := qm_7 _ (List.mem_of_getElem? (i := 3) rfl)
theorem q_7_4 : Cond.fieldLink RX4 65 "LogTurner$Rule" "dates" "Z" ∈ wsL_law := qm_7 _ (List.mem_of_getElem? (i := 4) rfl)
theorem q_7_5 : Cond.fieldLink RX4 68 "LogTurner$Rule" "tells" "Z" ∈ wsL_law := qm_7 _ (List.mem_of_getElem? (i := 5) rfl)
theorem q_7_6 : Cond.methodLink RL 95 yX5_setOld ∈ wsL_law := qm_7 _ (List.mem_of_getElem? (i := 6) rfl)
theorem q_7_7 : Cond.instanceMethod yX5_setOld ∈ wsL_law := qm_7 _ (List.mem_of_getElem? (i := 7) rfl)
theorem q_7_8 : Cond.selects RX5 yX5_setOld yX5_setOld ∈ wsL_law := qm_7 _ (List.mem_of_getElem? (i := 8) rfl)
theorem q_7_9 : Cond.code yX5_setOld cX5_setOld 7 none ∈ wsL_law := qm_7 _ (List.mem_of_getElem? (i := 9) rfl)
theorem q_7_10 : Cond.methodLink RL 96 yL_give ∈ wsL_law := qm_7 _ (List.mem_of_getElem? (i := 10) rfl)
theorem q_7_11 : Cond.static yL_give ∈ wsL_law := qm_7 _ (List.mem_of_getElem? (i := 11) rfl)
theorem q_7_12 : Cond.codeWith yL_give cL_give 5 (some .int) [(0, 10, 13, 13)] ∈ wsL_law := qm_7 _ (List.mem_of_getElem? (i := 12) rfl)
theorem q_7_13 : Cond.methodLink RL 21 yX4_give ∈ wsL_law := qm_7 _ (List.mem_of_getElem? (i := 13) rfl)
theorem q_7_14 : Cond.instanceMethod yX4_give ∈ wsL_law := qm_7 _ (List.mem_of_getElem? (i := 14) rfl)
theorem q_7_15 : Cond.selects RX4 yX4_give yX4_give ∈ wsL_law := qm_7 _ (List.mem_of_getElem? (i := 15) rfl)
theorem q_7_16 : Cond.code yX4_give cX4_give 6 (some .int) ∈ wsL_law := qm_7 _ (List.mem_of_getElem? (i := 16) rfl)
theorem q_7_17 : Cond.fieldLink RX4 75 "LogTurner$LogFile" "rule" "LLogTurner$Rule;" ∈ wsL_law := qm_7 _ (List.mem_of_getElem? (i := 17) rfl)
theorem q_7_18 : Cond.fieldLink RX4 79 "LogTurner$Rule" "number" "I" ∈ wsL_law := qm_7 _ (List.mem_of_getElem? (i := 18) rfl)
theorem q_7_19 : Cond.methodLink RX4 71 yX4_fileOf ∈ wsL_law := qm_7 _ (List.mem_of_getElem? (i := 19) rfl)
theorem q_7_20 : Cond.instanceMethod yX4_fileOf ∈ wsL_law := qm_7 _ (List.mem_of_getElem? (i := 20) rfl)
theorem q_7_21 : Cond.selects RX4 yX4_fileOf yX4_fileOf ∈ wsL_law := qm_7 _ (List.mem_of_getElem? (i := 21) rfl)
theorem q_7_22 : Cond.code yX4_fileOf cX4_fileOf 2 (some (.object "LogTurner$LogFile")) ∈ wsL_law := qm_7 _ (List.mem_of_getElem? (i := 22) rfl)
theorem q_7_23 : Cond.methodLink RL 99 yX5_give ∈ wsL_law := qm_7 _ (List.mem_of_getElem? (i := 23) rfl)
theorem qm_8 : ∀ w ∈ wsL_law0_r8, w ∈ wsL_law := fun w h => by simp only [wsL_law, wsL_law0, List.mem_append, h, true_or, or_true]
theorem q_8_0 : Cond.instanceMethod yX5_give ∈ wsL_law := qm_8 _ (List.mem_of_getElem? (i := 0) rfl)
theorem q_8_1 : Cond.selects RX5 yX5_give yX5_give ∈ wsL_law := qm_8 _ (List.mem_of_getElem? (i := 1) rfl)
theorem q_8_2 : Cond.code yX5_give cX5_give 4 (some .int) ∈ wsL_law := qm_8 _ (List.mem_of_getElem? (i := 2) rfl)
theorem q_8_3 : Cond.methodLink RX5 87 yX5_isFile ∈ wsL_law := qm_8 _ (List.mem_of_getElem? (i := 3) rfl)
theorem q_8_4 : Cond.static yX5_isFile ∈ wsL_law := qm_8 _ (List.mem_of_getElem? (i := 4) rfl)
theorem q_8_5 : Cond.code yX5_isFile cX5_isFile 1 (some .boolean) ∈ wsL_law := qm_8 _ (List.mem_of_getElem? (i := 5) rfl)
theorem q_8_6 : Cond.methodLink RL 100 yL_open ∈ wsL_law := qm_8 _ (List.mem_of_getElem? (i := 6) rfl)
theorem q_8_7 : Cond.static yL_open ∈ wsL_law := qm_8 _ (List.mem_of_getElem? (i := 7) rfl)
theorem q_8_8 : Cond.codeWith yL_open cL_open 4 (some .int) [(0, 6, 9, 13)] ∈ wsL_law := qm_8 _ (List.mem_of_getElem? (i := 8) rfl)
theorem q_8_9 : Cond.methodLink RL 25 yX4_open ∈ wsL_law := qm_8 _ (List.mem_of_getElem? (i := 9) rfl)
theorem q_8_10 : Cond.instanceMethod yX4_open ∈ wsL_law := qm_8 _ (List.mem_of_getElem? (i := 10) rfl)
theorem q_8_11 : Cond.selects RX4 yX4_open yX4_open ∈ wsL_law := qm_8 _ (List.mem_of_getElem? (i := 11) rfl)
theorem q_8_12 : Cond.code yX4_open cX4_open 5 none ∈ wsL_law := qm_8 _ (List.mem_of_getElem? (i := 12) rfl)
theorem q_8_13 : Cond.fieldLink RX4 86 "LogTurner$Holder" "file" "LLogTurner$LogFile;" ∈ wsL_law := qm_8 _ (List.mem_of_getElem? (i := 13) rfl)
theorem q_8_14 : Cond.fieldLink RX4 90 "LogTurner$LogFile" "livePart" "LLogTurner$Part;" ∈ wsL_law := qm_8 _ (List.mem_of_getElem? (i := 14) rfl)
theorem q_8_15 : Cond.fieldLink RX4 94 "LogTurner$Holder" "part" "LLogTurner$Part;" ∈ wsL_law := qm_8 _ (List.mem_of_getElem? (i := 15) rfl)
theorem q_8_16 : Cond.methodLink RX4 82 yX4_holderOf ∈ wsL_law := qm_8 _ (List.mem_of_getElem? (i := 16) rfl)
theorem q_8_17 : Cond.instanceMethod yX4_holderOf ∈ wsL_law := qm_8 _ (List.mem_of_getElem? (i := 17) rfl)
theorem q_8_18 : Cond.selects RX4 yX4_holderOf yX4_holderOf ∈ wsL_law := qm_8 _ (List.mem_of_getElem? (i := 18) rfl)
theorem q_8_19 : Cond.code yX4_holderOf cX4_holderOf 2 (some (.object "LogTurner$Holder")) ∈ wsL_law := qm_8 _ (List.mem_of_getElem? (i := 19) rfl)
theorem q_8_20 : Cond.methodLink RL 103 yX5_open ∈ wsL_law := qm_8 _ (List.mem_of_getElem? (i := 20) rfl)
theorem q_8_21 : Cond.instanceMethod yX5_open ∈ wsL_law := qm_8 _ (List.mem_of_getElem? (i := 21) rfl)
theorem q_8_22 : Cond.selects RX5 yX5_open yX5_open ∈ wsL_law := qm_8 _ (List.mem_of_getElem? (i := 22) rfl)
theorem q_8_23 : Cond.code yX5_open cX5_open 3 none ∈ wsL_law := qm_8 _ (List.mem_of_getElem? (i := 23) rfl)
theorem qm_9 : ∀ w ∈ wsL_law0_r9, w ∈ wsL_law := fun w h => by simp only [wsL_law, wsL_law0, List.mem_append, h, true_or, or_true]
theorem q_9_0 : Cond.methodLink RX5 90 yX5_isHolder ∈ wsL_law := qm_9 _ (List.mem_of_getElem? (i := 0) rfl)
theorem q_9_1 : Cond.static yX5_isHolder ∈ wsL_law := qm_9 _ (List.mem_of_getElem? (i := 1) rfl)
theorem q_9_2 : Cond.code yX5_isHolder cX5_isHolder 1 (some .boolean) ∈ wsL_law := qm_9 _ (List.mem_of_getElem? (i := 2) rfl)
theorem q_9_3 : Cond.methodLink RL 104 yL_shut ∈ wsL_law := qm_9 _ (List.mem_of_getElem? (i := 3) rfl)
theorem q_9_4 : Cond.static yL_shut ∈ wsL_law := qm_9 _ (List.mem_of_getElem? (i := 4) rfl)
theorem q_9_5 : Cond.codeWith yL_shut cL_shut 4 (some .int) [(0, 16, 19, 13)] ∈ wsL_law := qm_9 _ (List.mem_of_getElem? (i := 5) rfl)
theorem q_9_6 : Cond.methodLink RL 29 yX4_shut ∈ wsL_law := qm_9 _ (List.mem_of_getElem? (i := 6) rfl)
theorem q_9_7 : Cond.instanceMethod yX4_shut ∈ wsL_law := qm_9 _ (List.mem_of_getElem? (i := 7) rfl)
theorem q_9_8 : Cond.selects RX4 yX4_shut yX4_shut ∈ wsL_law := qm_9 _ (List.mem_of_getElem? (i := 8) rfl)
theorem q_9_9 : Cond.code yX4_shut cX4_shut 4 (some .boolean) ∈ wsL_law := qm_9 _ (List.mem_of_getElem? (i := 9) rfl)
theorem q_9_10 : Cond.methodLink RL 107 yX5_shut ∈ wsL_law := qm_9 _ (List.mem_of_getElem? (i := 10) rfl)
theorem q_9_11 : Cond.instanceMethod yX5_shut ∈ wsL_law := qm_9 _ (List.mem_of_getElem? (i := 11) rfl)
theorem q_9_12 : Cond.selects RX5 yX5_shut yX5_shut ∈ wsL_law := qm_9 _ (List.mem_of_getElem? (i := 12) rfl)
theorem q_9_13 : Cond.code yX5_shut cX5_shut 3 (some .boolean) ∈ wsL_law := qm_9 _ (List.mem_of_getElem? (i := 13) rfl)
theorem q_9_14 : Cond.methodLink RL 108 yL_tell ∈ wsL_law := qm_9 _ (List.mem_of_getElem? (i := 14) rfl)
theorem q_9_15 : Cond.static yL_tell ∈ wsL_law := qm_9 _ (List.mem_of_getElem? (i := 15) rfl)
theorem q_9_16 : Cond.codeWith yL_tell cL_tell 4 (some .int) [(0, 16, 19, 13), (0, 16, 22, 36)] ∈ wsL_law := qm_9 _ (List.mem_of_getElem? (i := 16) rfl)
theorem q_9_17 : Cond.classLink RL 36 "java/lang/IllegalStateException" ∈ wsL_law := qm_9 _ (List.mem_of_getElem? (i := 17) rfl)
theorem q_9_18 : Cond.methodLink RL 33 yX4_tell ∈ wsL_law := qm_9 _ (List.mem_of_getElem? (i := 18) rfl)
theorem q_9_19 : Cond.instanceMethod yX4_tell ∈ wsL_law := qm_9 _ (List.mem_of_getElem? (i := 19) rfl)
theorem q_9_20 : Cond.selects RX4 yX4_tell yX4_tell ∈ wsL_law := qm_9 _ (List.mem_of_getElem? (i := 20) rfl)
theorem q_9_21 : Cond.code yX4_tell cX4_tell 5 (some .boolean) ∈ wsL_law := qm_9 _ (List.mem_of_getElem? (i := 21) rfl)
theorem q_9_22 : Cond.classLink RX4 97 "java/lang/IllegalStateException" ∈ wsL_law := qm_9 _ (List.mem_of_getElem? (i := 22) rfl)
theorem q_9_23 : Cond.initialized "java/lang/IllegalStateException" ∈ wsL_law := qm_9 _ (List.mem_of_getElem? (i := 23) rfl)
theorem qm_10 : ∀ w ∈ wsL_law0_r10, w ∈ wsL_law := fun w h => by simp only [wsL_law, wsL_law0, List.mem_append, h, true_or, or_true]
theorem q_10_0 : Cond.methodLink RL 110 yX5_tell ∈ wsL_law := qm_10 _ (List.mem_of_getElem? (i := 0) rfl)
theorem q_10_1 : Cond.instanceMethod yX5_tell ∈ wsL_law := qm_10 _ (List.mem_of_getElem? (i := 1) rfl)
theorem q_10_2 : Cond.selects RX5 yX5_tell yX5_tell ∈ wsL_law := qm_10 _ (List.mem_of_getElem? (i := 2) rfl)
theorem q_10_3 : Cond.code yX5_tell cX5_tell 4 (some .boolean) ∈ wsL_law := qm_10 _ (List.mem_of_getElem? (i := 3) rfl)
theorem q_10_4 : Cond.methodLink RL 111 yL_write ∈ wsL_law := qm_10 _ (List.mem_of_getElem? (i := 4) rfl)
theorem q_10_5 : Cond.static yL_write ∈ wsL_law := qm_10 _ (List.mem_of_getElem? (i := 5) rfl)
theorem q_10_6 : Cond.codeWith yL_write cL_write 5 (some .int) [(0, 10, 13, 13), (0, 10, 17, 15), (0, 10, 21, 36)] ∈ wsL_law := qm_10 _ (List.mem_of_getElem? (i := 6) rfl)
theorem q_10_7 : Cond.methodLink RL 38 yX4_write ∈ wsL_law := qm_10 _ (List.mem_of_getElem? (i := 7) rfl)
theorem q_10_8 : Cond.instanceMethod yX4_write ∈ wsL_law := qm_10 _ (List.mem_of_getElem? (i := 8) rfl)
theorem q_10_9 : Cond.selects RX4 yX4_write yX4_write ∈ wsL_law := qm_10 _ (List.mem_of_getElem? (i := 9) rfl)
theorem q_10_10 : Cond.code yX4_write cX4_write 4 (some .int) ∈ wsL_law := qm_10 _ (List.mem_of_getElem? (i := 10) rfl)
theorem q_10_11 : Cond.fieldLink RX4 104 "LogTurner$Part" "lineCount" "I" ∈ wsL_law := qm_10 _ (List.mem_of_getElem? (i := 11) rfl)
theorem q_10_12 : Cond.methodLink RL 113 yX5_write ∈ wsL_law := qm_10 _ (List.mem_of_getElem? (i := 12) rfl)
theorem q_10_13 : Cond.instanceMethod yX5_write ∈ wsL_law := qm_10 _ (List.mem_of_getElem? (i := 13) rfl)
theorem q_10_14 : Cond.selects RX5 yX5_write yX5_write ∈ wsL_law := qm_10 _ (List.mem_of_getElem? (i := 14) rfl)
theorem q_10_15 : Cond.code yX5_write cX5_write 5 (some .int) ∈ wsL_law := qm_10 _ (List.mem_of_getElem? (i := 15) rfl)
theorem q_10_16 : Cond.methodLink RL 114 yL_advance ∈ wsL_law := qm_10 _ (List.mem_of_getElem? (i := 16) rfl)
theorem q_10_17 : Cond.static yL_advance ∈ wsL_law := qm_10 _ (List.mem_of_getElem? (i := 17) rfl)
theorem q_10_18 : Cond.codeWith yL_advance cL_advance 4 (some .int) [(0, 9, 12, 15), (0, 9, 15, 36)] ∈ wsL_law := qm_10 _ (List.mem_of_getElem? (i := 18) rfl)
theorem q_10_19 : Cond.methodLink RL 41 yX4_advance ∈ wsL_law := qm_10 _ (List.mem_of_getElem? (i := 19) rfl)
theorem q_10_20 : Cond.instanceMethod yX4_advance ∈ wsL_law := qm_10 _ (List.mem_of_getElem? (i := 20) rfl)
theorem q_10_21 : Cond.selects RX4 yX4_advance yX4_advance ∈ wsL_law := qm_10 _ (List.mem_of_getElem? (i := 21) rfl)
theorem q_10_22 : Cond.code yX4_advance cX4_advance 2 (some .int) ∈ wsL_law := qm_10 _ (List.mem_of_getElem? (i := 22) rfl)
theorem q_10_23 : Cond.fieldLink RX4 109 "LogTurner" "today" "I" ∈ wsL_law := qm_10 _ (List.mem_of_getElem? (i := 23) rfl)
theorem qm_11 : ∀ w ∈ wsL_law0_r11, w ∈ wsL_law := fun w h => by simp only [wsL_law, wsL_law0, List.mem_append, h, true_or, or_true]
theorem q_11_0 : Cond.methodLink RL 116 yX5_advance ∈ wsL_law := qm_11 _ (List.mem_of_getElem? (i := 0) rfl)
theorem q_11_1 : Cond.instanceMethod yX5_advance ∈ wsL_law := qm_11 _ (List.mem_of_getElem? (i := 1) rfl)
theorem q_11_2 : Cond.selects RX5 yX5_advance yX5_advance ∈ wsL_law := qm_11 _ (List.mem_of_getElem? (i := 2) rfl)
theorem q_11_3 : Cond.code yX5_advance cX5_advance 3 (some .int) ∈ wsL_law := qm_11 _ (List.mem_of_getElem? (i := 3) rfl)
theorem q_11_4 : Cond.fieldLink RX5 93 "LogTurnerModel" "day" "I" ∈ wsL_law := qm_11 _ (List.mem_of_getElem? (i := 4) rfl)
theorem q_11_5 : Cond.methodLink RL 117 yX4_run ∈ wsL_law := qm_11 _ (List.mem_of_getElem? (i := 5) rfl)
theorem q_11_6 : Cond.instanceMethod yX4_run ∈ wsL_law := qm_11 _ (List.mem_of_getElem? (i := 6) rfl)
theorem q_11_7 : Cond.selects RX4 yX4_run yX4_run ∈ wsL_law := qm_11 _ (List.mem_of_getElem? (i := 7) rfl)
theorem q_11_8 : Cond.code yX4_run cX4_run 3 (some .int) ∈ wsL_law := qm_11 _ (List.mem_of_getElem? (i := 8) rfl)
theorem q_11_9 : Cond.methodLink RX4 114 yX4_isDueOn ∈ wsL_law := qm_11 _ (List.mem_of_getElem? (i := 9) rfl)
theorem q_11_10 : Cond.static yX4_isDueOn ∈ wsL_law := qm_11 _ (List.mem_of_getElem? (i := 10) rfl)
theorem q_11_11 : Cond.code yX4_isDueOn cX4_isDueOn 5 (some .boolean) ∈ wsL_law := qm_11 _ (List.mem_of_getElem? (i := 11) rfl)
theorem q_11_12 : Cond.fieldLink RX4 130 "LogTurner$LogFile" "lastTurn" "I" ∈ wsL_law := qm_11 _ (List.mem_of_getElem? (i := 12) rfl)
theorem q_11_13 : Cond.methodLink RX4 188 yX4_isTooSoon ∈ wsL_law := qm_11 _ (List.mem_of_getElem? (i := 13) rfl)
theorem q_11_14 : Cond.static yX4_isTooSoon ∈ wsL_law := qm_11 _ (List.mem_of_getElem? (i := 14) rfl)
theorem q_11_15 : Cond.code yX4_isTooSoon cX4_isTooSoon 2 (some .boolean) ∈ wsL_law := qm_11 _ (List.mem_of_getElem? (i := 15) rfl)
theorem q_11_16 : Cond.fieldLink RX4 198 "LogTurner$LogFile" "everTurned" "Z" ∈ wsL_law := qm_11 _ (List.mem_of_getElem? (i := 16) rfl)
theorem q_11_17 : Cond.methodLink RX4 191 yX4_hasWeekdayCome ∈ wsL_law := qm_11 _ (List.mem_of_getElem? (i := 17) rfl)
theorem q_11_18 : Cond.static yX4_hasWeekdayCome ∈ wsL_law := qm_11 _ (List.mem_of_getElem? (i := 18) rfl)
theorem q_11_19 : Cond.code yX4_hasWeekdayCome cX4_hasWeekdayCome 4 (some .boolean) ∈ wsL_law := qm_11 _ (List.mem_of_getElem? (i := 19) rfl)
theorem q_11_20 : Cond.methodLink RX4 201 yJ9_floorMod_7cf53 ∈ wsL_law := qm_11 _ (List.mem_of_getElem? (i := 20) rfl)
theorem q_11_21 : Cond.static yJ9_floorMod_7cf53 ∈ wsL_law := qm_11 _ (List.mem_of_getElem? (i := 21) rfl)
theorem q_11_22 : Cond.initialized RJ9 ∈ wsL_law := qm_11 _ (List.mem_of_getElem? (i := 22) rfl)
theorem q_11_23 : Cond.code yJ9_floorMod_7cf53 cJ9_floorMod_7cf53 3 (some .int) ∈ wsL_law := qm_11 _ (List.mem_of_getElem? (i := 23) rfl)
theorem qm_12 : ∀ w ∈ wsL_law0_r12, w ∈ wsL_law := fun w h => by simp only [wsL_law, wsL_law0, List.mem_append, h, true_or, or_true]
theorem q_12_0 : Cond.methodLink RX4 195 yX4_hasMonthlyCome ∈ wsL_law := qm_12 _ (List.mem_of_getElem? (i := 0) rfl)
theorem q_12_1 : Cond.static yX4_hasMonthlyCome ∈ wsL_law := qm_12 _ (List.mem_of_getElem? (i := 1) rfl)
theorem q_12_2 : Cond.code yX4_hasMonthlyCome cX4_hasMonthlyCome 4 (some .boolean) ∈ wsL_law := qm_12 _ (List.mem_of_getElem? (i := 2) rfl)
theorem q_12_3 : Cond.methodLink RX4 118 yX4_turnToday ∈ wsL_law := qm_12 _ (List.mem_of_getElem? (i := 3) rfl)
theorem q_12_4 : Cond.instanceMethod yX4_turnToday ∈ wsL_law := qm_12 _ (List.mem_of_getElem? (i := 4) rfl)
theorem q_12_5 : Cond.selects RX4 yX4_turnToday yX4_turnToday ∈ wsL_law := qm_12 _ (List.mem_of_getElem? (i := 5) rfl)
theorem q_12_6 : Cond.code yX4_turnToday cX4_turnToday 3 (some .int) ∈ wsL_law := qm_12 _ (List.mem_of_getElem? (i := 6) rfl)
theorem q_12_7 : Cond.fieldLink RX4 137 "LogTurner$LogFile" "oldParts" "Ljava/util/ArrayList;" ∈ wsL_law := qm_12 _ (List.mem_of_getElem? (i := 7) rfl)
theorem q_12_8 : Cond.fieldLink RX4 150 "LogTurner$Part" "turnDay" "I" ∈ wsL_law := qm_12 _ (List.mem_of_getElem? (i := 8) rfl)
theorem q_12_9 : Cond.classLink RX4 105 RX2 ∈ wsL_law := qm_12 _ (List.mem_of_getElem? (i := 9) rfl)
theorem q_12_10 : Cond.methodLink RX4 141 yJx4a65c_size_8abf5 ∈ wsL_law := qm_12 _ (List.mem_of_getElem? (i := 10) rfl)
theorem q_12_11 : Cond.instanceMethod yJx4a65c_size_8abf5 ∈ wsL_law := qm_12 _ (List.mem_of_getElem? (i := 11) rfl)
theorem q_12_12 : Cond.selects RJx4a65c yJx4a65c_size_8abf5 yJx4a65c_size_8abf5 ∈ wsL_law := qm_12 _ (List.mem_of_getElem? (i := 12) rfl)
theorem q_12_13 : Cond.code yJx4a65c_size_8abf5 cJx4a65c_size_8abf5 1 (some .int) ∈ wsL_law := qm_12 _ (List.mem_of_getElem? (i := 13) rfl)
theorem q_12_14 : Cond.fieldLink RJx4a65c 48 "java/util/ArrayList" "size" "I" ∈ wsL_law := qm_12 _ (List.mem_of_getElem? (i := 14) rfl)
theorem q_12_15 : Cond.methodLink RX4 207 yJx4a65c_add_9ea2d ∈ wsL_law := qm_12 _ (List.mem_of_getElem? (i := 15) rfl)
theorem q_12_16 : Cond.instanceMethod yJx4a65c_add_9ea2d ∈ wsL_law := qm_12 _ (List.mem_of_getElem? (i := 16) rfl)
theorem q_12_17 : Cond.selects RJx4a65c yJx4a65c_add_9ea2d yJx4a65c_add_9ea2d ∈ wsL_law := qm_12 _ (List.mem_of_getElem? (i := 17) rfl)
theorem q_12_18 : Cond.code yJx4a65c_add_9ea2d cJx4a65c_add_9ea2d 2 (some .boolean) ∈ wsL_law := qm_12 _ (List.mem_of_getElem? (i := 18) rfl)
theorem q_12_19 : Cond.fieldLink RJx4a65c 63 "java/util/ArrayList" "modCount" "I" ∈ wsL_law := qm_12 _ (List.mem_of_getElem? (i := 19) rfl)
theorem q_12_20 : Cond.sameField "java/util/ArrayList" "java/util/AbstractList" "modCount" "I" ∈ wsL_law := qm_12 _ (List.mem_of_getElem? (i := 20) rfl)
theorem q_12_21 : Cond.methodLink RJx4a65c 131 yJx4a65c_add_72be8 ∈ wsL_law := qm_12 _ (List.mem_of_getElem? (i := 21) rfl)
theorem q_12_22 : Cond.instanceMethod yJx4a65c_add_72be8 ∈ wsL_law := qm_12 _ (List.mem_of_getElem? (i := 22) rfl)
theorem q_12_23 : Cond.selects RJx4a65c yJx4a65c_add_72be8 yJx4a65c_add_72be8 ∈ wsL_law := qm_12 _ (List.mem_of_getElem? (i := 23) rfl)
theorem qm_13 : ∀ w ∈ wsL_law0_r13, w ∈ wsL_law := fun w h => by simp only [wsL_law, wsL_law0, List.mem_append, h, true_or, or_true]
theorem q_13_0 : Cond.code yJx4a65c_add_72be8 cJx4a65c_add_72be8 4 none ∈ wsL_law := qm_13 _ (List.mem_of_getElem? (i := 0) rfl)
theorem q_13_1 : Cond.methodLink RJx4a65c 129 yJx4a65c_grow_d5877 ∈ wsL_law := qm_13 _ (List.mem_of_getElem? (i := 1) rfl)
theorem q_13_2 : Cond.instanceMethod yJx4a65c_grow_d5877 ∈ wsL_law := qm_13 _ (List.mem_of_getElem? (i := 2) rfl)
theorem q_13_3 : Cond.selects RJx4a65c yJx4a65c_grow_d5877 yJx4a65c_grow_d5877 ∈ wsL_law := qm_13 _ (List.mem_of_getElem? (i := 3) rfl)
theorem q_13_4 : Cond.code yJx4a65c_grow_d5877 cJx4a65c_grow_d5877 1 (some (.array (.object "java/lang/Object"))) ∈ wsL_law := qm_13 _ (List.mem_of_getElem? (i := 4) rfl)
theorem q_13_5 : Cond.methodLink RJx4a65c 69 yJx4a65c_grow_92f84 ∈ wsL_law := qm_13 _ (List.mem_of_getElem? (i := 5) rfl)
theorem q_13_6 : Cond.instanceMethod yJx4a65c_grow_92f84 ∈ wsL_law := qm_13 _ (List.mem_of_getElem? (i := 6) rfl)
theorem q_13_7 : Cond.selects RJx4a65c yJx4a65c_grow_92f84 yJx4a65c_grow_92f84 ∈ wsL_law := qm_13 _ (List.mem_of_getElem? (i := 7) rfl)
theorem q_13_8 : Cond.code yJx4a65c_grow_92f84 cJx4a65c_grow_92f84 4 (some (.array (.object "java/lang/Object"))) ∈ wsL_law := qm_13 _ (List.mem_of_getElem? (i := 8) rfl)
theorem q_13_9 : Cond.methodLink RJx4a65c 79 Lib.Math.max.name ∈ wsL_law := qm_13 _ (List.mem_of_getElem? (i := 9) rfl)
theorem q_13_10 : Cond.static Lib.Math.max.name ∈ wsL_law := qm_13 _ (List.mem_of_getElem? (i := 10) rfl)
theorem q_13_11 : Cond.initialized "java/lang/Math" ∈ wsL_law := qm_13 _ (List.mem_of_getElem? (i := 11) rfl)
theorem q_13_12 : Cond.code Lib.Math.max.name Lib.Math.max.code 2 (some .int) ∈ wsL_law := qm_13 _ (List.mem_of_getElem? (i := 12) rfl)
theorem q_13_13 : Cond.classLink RJx4a65c 7 "java/lang/Object" ∈ wsL_law := qm_13 _ (List.mem_of_getElem? (i := 13) rfl)
theorem q_13_14 : Cond.methodLink RJx4a65c 73 yJ8_newLength_cabcc ∈ wsL_law := qm_13 _ (List.mem_of_getElem? (i := 14) rfl)
theorem q_13_15 : Cond.static yJ8_newLength_cabcc ∈ wsL_law := qm_13 _ (List.mem_of_getElem? (i := 15) rfl)
theorem q_13_16 : Cond.initialized RJ8 ∈ wsL_law := qm_13 _ (List.mem_of_getElem? (i := 16) rfl)
theorem q_13_17 : Cond.code yJ8_newLength_cabcc cJ8_newLength_cabcc 4 (some .int) ∈ wsL_law := qm_13 _ (List.mem_of_getElem? (i := 17) rfl)
theorem q_13_18 : Cond.methodLink RJ8 194 Lib.Math.max.name ∈ wsL_law := qm_13 _ (List.mem_of_getElem? (i := 18) rfl)
theorem q_13_19 : Cond.constant RJ8 200 (2147483639) ∈ wsL_law := qm_13 _ (List.mem_of_getElem? (i := 19) rfl)
theorem q_13_20 : Cond.methodLink RJ8 201 yJ8_hugeLength_7cf53 ∈ wsL_law := qm_13 _ (List.mem_of_getElem? (i := 20) rfl)
theorem q_13_21 : Cond.static yJ8_hugeLength_7cf53 ∈ wsL_law := qm_13 _ (List.mem_of_getElem? (i := 21) rfl)
theorem q_13_22 : Cond.code yJ8_hugeLength_7cf53 cJ8_hugeLength_7cf53 3 (some .int) ∈ wsL_law := qm_13 _ (List.mem_of_getElem? (i := 22) rfl)
theorem q_13_23 : Cond.methodLink RJx4a65c 66 yJ7_copyOf_1904c ∈ wsL_law := qm_13 _ (List.mem_of_getElem? (i := 23) rfl)
theorem qm_14 : ∀ w ∈ wsL_law0_r14, w ∈ wsL_law := fun w h => by simp only [wsL_law, wsL_law0, List.mem_append, h, true_or, or_true]
theorem q_14_0 : Cond.static yJ7_copyOf_1904c ∈ wsL_law := qm_14 _ (List.mem_of_getElem? (i := 0) rfl)
theorem q_14_1 : Cond.initialized RJ7 ∈ wsL_law := qm_14 _ (List.mem_of_getElem? (i := 1) rfl)
theorem q_14_2 : Cond.code yJ7_copyOf_1904c cJ7_copyOf_1904c 2 (some (.array (.object "java/lang/Object"))) ∈ wsL_law := qm_14 _ (List.mem_of_getElem? (i := 2) rfl)
theorem q_14_3 : Cond.methodLink RJ7 86 ⟨"java/lang/Object", "getClass", "()Ljava/lang/Class;"⟩ ∈ wsL_law := qm_14 _ (List.mem_of_getElem? (i := 3) rfl)
theorem q_14_4 : Cond.selects "[Ljava/lang/Object;" ⟨"java/lang/Object", "getClass", "()Ljava/lang/Class;"⟩ ⟨"java/lang/Object", "getClass", "()Ljava/lang/Class;"⟩ ∈ wsL_law := qm_14 _ (List.mem_of_getElem? (i := 4) rfl)
theorem q_14_5 : Cond.instanceMethod ⟨"java/lang/Object", "getClass", "()Ljava/lang/Class;"⟩ ∈ wsL_law := qm_14 _ (List.mem_of_getElem? (i := 5) rfl)
theorem q_14_6 : Cond.native ⟨"java/lang/Object", "getClass", "()Ljava/lang/Class;"⟩ ∈ wsL_law := qm_14 _ (List.mem_of_getElem? (i := 6) rfl)
theorem q_14_7 : Cond.methodLink RJ7 300 yJ7_copyOf_6403c ∈ wsL_law := qm_14 _ (List.mem_of_getElem? (i := 7) rfl)
theorem q_14_8 : Cond.static yJ7_copyOf_6403c ∈ wsL_law := qm_14 _ (List.mem_of_getElem? (i := 8) rfl)
theorem q_14_9 : Cond.code yJ7_copyOf_6403c cJ7_copyOf_6403c 4 (some (.array (.object "java/lang/Object"))) ∈ wsL_law := qm_14 _ (List.mem_of_getElem? (i := 9) rfl)
theorem q_14_10 : Cond.classLink RJ7 110 "[Ljava/lang/Object;" ∈ wsL_law := qm_14 _ (List.mem_of_getElem? (i := 10) rfl)
theorem q_14_11 : Cond.classLink RJ7 2 "java/lang/Object" ∈ wsL_law := qm_14 _ (List.mem_of_getElem? (i := 11) rfl)
theorem q_14_12 : Cond.methodLink RJ7 304 Lib.Math.min.name ∈ wsL_law := qm_14 _ (List.mem_of_getElem? (i := 12) rfl)
theorem q_14_13 : Cond.static Lib.Math.min.name ∈ wsL_law := qm_14 _ (List.mem_of_getElem? (i := 13) rfl)
theorem q_14_14 : Cond.code Lib.Math.min.name Lib.Math.min.code 2 (some .int) ∈ wsL_law := qm_14 _ (List.mem_of_getElem? (i := 14) rfl)
theorem q_14_15 : Cond.methodLink RJ7 150 arraycopyName ∈ wsL_law := qm_14 _ (List.mem_of_getElem? (i := 15) rfl)
theorem q_14_16 : Cond.native arraycopyName ∈ wsL_law := qm_14 _ (List.mem_of_getElem? (i := 16) rfl)
theorem q_14_17 : Cond.static arraycopyName ∈ wsL_law := qm_14 _ (List.mem_of_getElem? (i := 17) rfl)
theorem q_14_18 : Cond.initialized "java/lang/System" ∈ wsL_law := qm_14 _ (List.mem_of_getElem? (i := 18) rfl)
theorem q_14_19 : Cond.methodLink RX4 133 yX4_markTurnedToday ∈ wsL_law := qm_14 _ (List.mem_of_getElem? (i := 19) rfl)
theorem q_14_20 : Cond.instanceMethod yX4_markTurnedToday ∈ wsL_law := qm_14 _ (List.mem_of_getElem? (i := 20) rfl)
theorem q_14_21 : Cond.selects RX4 yX4_markTurnedToday yX4_markTurnedToday ∈ wsL_law := qm_14 _ (List.mem_of_getElem? (i := 21) rfl)
theorem q_14_22 : Cond.code yX4_markTurnedToday cX4_markTurnedToday 2 none ∈ wsL_law := qm_14 _ (List.mem_of_getElem? (i := 22) rfl)
theorem q_14_23 : Cond.methodLink RX4 212 yX4_squeezeOldParts ∈ wsL_law := qm_14 _ (List.mem_of_getElem? (i := 23) rfl)
theorem qm_15 : ∀ w ∈ wsL_law0_r15, w ∈ wsL_law := fun w h => by simp only [wsL_law, wsL_law0, List.mem_append, h, true_or, or_true]
theorem q_15_0 : Cond.instanceMethod yX4_squeezeOldParts ∈ wsL_law := qm_15 _ (List.mem_of_getElem? (i := 0) rfl)
theorem q_15_1 : Cond.selects RX4 yX4_squeezeOldParts yX4_squeezeOldParts ∈ wsL_law := qm_15 _ (List.mem_of_getElem? (i := 1) rfl)
theorem q_15_2 : Cond.code yX4_squeezeOldParts cX4_squeezeOldParts 4 none ∈ wsL_law := qm_15 _ (List.mem_of_getElem? (i := 2) rfl)
theorem q_15_3 : Cond.classLink RX4 105 "LogTurner$Part" ∈ wsL_law := qm_15 _ (List.mem_of_getElem? (i := 3) rfl)
theorem q_15_4 : Cond.fieldLink RX4 157 "LogTurner$Part" "squeezed" "Z" ∈ wsL_law := qm_15 _ (List.mem_of_getElem? (i := 4) rfl)
theorem q_15_5 : Cond.methodLink RX4 179 yJx4a65c_get_915e3 ∈ wsL_law := qm_15 _ (List.mem_of_getElem? (i := 5) rfl)
theorem q_15_6 : Cond.instanceMethod yJx4a65c_get_915e3 ∈ wsL_law := qm_15 _ (List.mem_of_getElem? (i := 6) rfl)
theorem q_15_7 : Cond.selects RJx4a65c yJx4a65c_get_915e3 yJx4a65c_get_915e3 ∈ wsL_law := qm_15 _ (List.mem_of_getElem? (i := 7) rfl)
theorem q_15_8 : Cond.code yJx4a65c_get_915e3 cJx4a65c_get_915e3 2 (some (.object "java/lang/Object")) ∈ wsL_law := qm_15 _ (List.mem_of_getElem? (i := 8) rfl)
theorem q_15_9 : Cond.methodLink RJx4a65c 118 yJ15_checkIndex_7cf53 ∈ wsL_law := qm_15 _ (List.mem_of_getElem? (i := 9) rfl)
theorem q_15_10 : Cond.static yJ15_checkIndex_7cf53 ∈ wsL_law := qm_15 _ (List.mem_of_getElem? (i := 10) rfl)
theorem q_15_11 : Cond.initialized RJ15 ∈ wsL_law := qm_15 _ (List.mem_of_getElem? (i := 11) rfl)
theorem q_15_12 : Cond.code yJ15_checkIndex_7cf53 cJ15_checkIndex_7cf53 2 (some .int) ∈ wsL_law := qm_15 _ (List.mem_of_getElem? (i := 12) rfl)
theorem q_15_13 : Cond.methodLink RJ15 105 yJ3_checkIndex_8e157 ∈ wsL_law := qm_15 _ (List.mem_of_getElem? (i := 13) rfl)
theorem q_15_14 : Cond.static yJ3_checkIndex_8e157 ∈ wsL_law := qm_15 _ (List.mem_of_getElem? (i := 14) rfl)
theorem q_15_15 : Cond.initialized RJ3 ∈ wsL_law := qm_15 _ (List.mem_of_getElem? (i := 15) rfl)
theorem q_15_16 : Cond.code yJ3_checkIndex_8e157 cJ3_checkIndex_8e157 3 (some .int) ∈ wsL_law := qm_15 _ (List.mem_of_getElem? (i := 16) rfl)
theorem q_15_17 : Cond.methodLink RJx4a65c 123 yJx4a65c_elementData_915e3 ∈ wsL_law := qm_15 _ (List.mem_of_getElem? (i := 17) rfl)
theorem q_15_18 : Cond.instanceMethod yJx4a65c_elementData_915e3 ∈ wsL_law := qm_15 _ (List.mem_of_getElem? (i := 18) rfl)
theorem q_15_19 : Cond.selects RJx4a65c yJx4a65c_elementData_915e3 yJx4a65c_elementData_915e3 ∈ wsL_law := qm_15 _ (List.mem_of_getElem? (i := 19) rfl)
theorem q_15_20 : Cond.code yJx4a65c_elementData_915e3 cJx4a65c_elementData_915e3 2 (some (.object "java/lang/Object")) ∈ wsL_law := qm_15 _ (List.mem_of_getElem? (i := 20) rfl)
theorem q_15_21 : Cond.methodLink RX4 219 yX4_isHeld ∈ wsL_law := qm_15 _ (List.mem_of_getElem? (i := 21) rfl)
theorem q_15_22 : Cond.instanceMethod yX4_isHeld ∈ wsL_law := qm_15 _ (List.mem_of_getElem? (i := 22) rfl)
theorem q_15_23 : Cond.selects RX4 yX4_isHeld yX4_isHeld ∈ wsL_law := qm_15 _ (List.mem_of_getElem? (i := 23) rfl)
theorem qm_16 : ∀ w ∈ wsL_law0_r16, w ∈ wsL_law := fun w h => by simp only [wsL_law, wsL_law0, List.mem_append, h, true_or, or_true]
theorem q_16_0 : Cond.code yX4_isHeld cX4_isHeld 3 (some .boolean) ∈ wsL_law := qm_16 _ (List.mem_of_getElem? (i := 0) rfl)
theorem q_16_1 : Cond.methodLink RX4 216 yX4_throwOldParts ∈ wsL_law := qm_16 _ (List.mem_of_getElem? (i := 1) rfl)
theorem q_16_2 : Cond.instanceMethod yX4_throwOldParts ∈ wsL_law := qm_16 _ (List.mem_of_getElem? (i := 2) rfl)
theorem q_16_3 : Cond.selects RX4 yX4_throwOldParts yX4_throwOldParts ∈ wsL_law := qm_16 _ (List.mem_of_getElem? (i := 3) rfl)
theorem q_16_4 : Cond.code yX4_throwOldParts cX4_throwOldParts 7 (some .int) ∈ wsL_law := qm_16 _ (List.mem_of_getElem? (i := 4) rfl)
theorem q_16_5 : Cond.fieldLink RX4 160 "LogTurner$LogFile" "thrownLines" "I" ∈ wsL_law := qm_16 _ (List.mem_of_getElem? (i := 5) rfl)
theorem q_16_6 : Cond.methodLink RX4 223 yX4_mustGo ∈ wsL_law := qm_16 _ (List.mem_of_getElem? (i := 6) rfl)
theorem q_16_7 : Cond.instanceMethod yX4_mustGo ∈ wsL_law := qm_16 _ (List.mem_of_getElem? (i := 7) rfl)
theorem q_16_8 : Cond.selects RX4 yX4_mustGo yX4_mustGo ∈ wsL_law := qm_16 _ (List.mem_of_getElem? (i := 8) rfl)
theorem q_16_9 : Cond.code yX4_mustGo cX4_mustGo 6 (some .boolean) ∈ wsL_law := qm_16 _ (List.mem_of_getElem? (i := 9) rfl)
theorem q_16_10 : Cond.methodLink RX4 227 yJx4a65c_remove_915e3 ∈ wsL_law := qm_16 _ (List.mem_of_getElem? (i := 10) rfl)
theorem q_16_11 : Cond.instanceMethod yJx4a65c_remove_915e3 ∈ wsL_law := qm_16 _ (List.mem_of_getElem? (i := 11) rfl)
theorem q_16_12 : Cond.selects RJx4a65c yJx4a65c_remove_915e3 yJx4a65c_remove_915e3 ∈ wsL_law := qm_16 _ (List.mem_of_getElem? (i := 12) rfl)
theorem q_16_13 : Cond.code yJx4a65c_remove_915e3 cJx4a65c_remove_915e3 4 (some (.object "java/lang/Object")) ∈ wsL_law := qm_16 _ (List.mem_of_getElem? (i := 13) rfl)
theorem q_16_14 : Cond.methodLink RJx4a65c 144 yJx4a65c_fastRemove_b59b0 ∈ wsL_law := qm_16 _ (List.mem_of_getElem? (i := 14) rfl)
theorem q_16_15 : Cond.instanceMethod yJx4a65c_fastRemove_b59b0 ∈ wsL_law := qm_16 _ (List.mem_of_getElem? (i := 15) rfl)
theorem q_16_16 : Cond.selects RJx4a65c yJx4a65c_fastRemove_b59b0 yJx4a65c_fastRemove_b59b0 ∈ wsL_law := qm_16 _ (List.mem_of_getElem? (i := 16) rfl)
theorem q_16_17 : Cond.code yJx4a65c_fastRemove_b59b0 cJx4a65c_fastRemove_b59b0 4 none ∈ wsL_law := qm_16 _ (List.mem_of_getElem? (i := 17) rfl)
theorem q_16_18 : Cond.methodLink RJx4a65c 112 arraycopyName ∈ wsL_law := qm_16 _ (List.mem_of_getElem? (i := 18) rfl)
theorem q_16_19 : Cond.methodLink RX4 122 yX4_hasFileAmong ∈ wsL_law := qm_16 _ (List.mem_of_getElem? (i := 19) rfl)
theorem q_16_20 : Cond.instanceMethod yX4_hasFileAmong ∈ wsL_law := qm_16 _ (List.mem_of_getElem? (i := 20) rfl)
theorem q_16_21 : Cond.selects RX4 yX4_hasFileAmong yX4_hasFileAmong ∈ wsL_law := qm_16 _ (List.mem_of_getElem? (i := 21) rfl)
theorem q_16_22 : Cond.code yX4_hasFileAmong cX4_hasFileAmong 4 (some .boolean) ∈ wsL_law := qm_16 _ (List.mem_of_getElem? (i := 22) rfl)
theorem q_16_23 : Cond.methodLink RX4 126 yX4_tellHoldersOf ∈ wsL_law := qm_16 _ (List.mem_of_getElem? (i := 23) rfl)
theorem qm_17 : ∀ w ∈ wsL_law0_r17, w ∈ wsL_law := fun w h => by simp only [wsL_law, wsL_law0, List.mem_append, h, true_or, or_true]
theorem q_17_0 : Cond.instanceMethod yX4_tellHoldersOf ∈ wsL_law := qm_17 _ (List.mem_of_getElem? (i := 0) rfl)
theorem q_17_1 : Cond.selects RX4 yX4_tellHoldersOf yX4_tellHoldersOf ∈ wsL_law := qm_17 _ (List.mem_of_getElem? (i := 1) rfl)
theorem q_17_2 : Cond.code yX4_tellHoldersOf cX4_tellHoldersOf 4 none ∈ wsL_law := qm_17 _ (List.mem_of_getElem? (i := 2) rfl)
theorem q_17_3 : Cond.methodLink RL 120 yX5_run ∈ wsL_law := qm_17 _ (List.mem_of_getElem? (i := 3) rfl)
theorem q_17_4 : Cond.instanceMethod yX5_run ∈ wsL_law := qm_17 _ (List.mem_of_getElem? (i := 4) rfl)
theorem q_17_5 : Cond.selects RX5 yX5_run yX5_run ∈ wsL_law := qm_17 _ (List.mem_of_getElem? (i := 5) rfl)
theorem q_17_6 : Cond.code yX5_run cX5_run 6 (some .int) ∈ wsL_law := qm_17 _ (List.mem_of_getElem? (i := 6) rfl)
theorem q_17_7 : Cond.methodLink RX5 114 yX5_isDueOn ∈ wsL_law := qm_17 _ (List.mem_of_getElem? (i := 7) rfl)
theorem q_17_8 : Cond.instanceMethod yX5_isDueOn ∈ wsL_law := qm_17 _ (List.mem_of_getElem? (i := 8) rfl)
theorem q_17_9 : Cond.selects RX5 yX5_isDueOn yX5_isDueOn ∈ wsL_law := qm_17 _ (List.mem_of_getElem? (i := 9) rfl)
theorem q_17_10 : Cond.code yX5_isDueOn cX5_isDueOn 6 (some .boolean) ∈ wsL_law := qm_17 _ (List.mem_of_getElem? (i := 10) rfl)
theorem q_17_11 : Cond.methodLink RX5 96 yX5_comes ∈ wsL_law := qm_17 _ (List.mem_of_getElem? (i := 11) rfl)
theorem q_17_12 : Cond.static yX5_comes ∈ wsL_law := qm_17 _ (List.mem_of_getElem? (i := 12) rfl)
theorem q_17_13 : Cond.code yX5_comes cX5_comes 6 (some .boolean) ∈ wsL_law := qm_17 _ (List.mem_of_getElem? (i := 13) rfl)
theorem q_17_14 : Cond.methodLink RX5 118 yX5_turns ∈ wsL_law := qm_17 _ (List.mem_of_getElem? (i := 14) rfl)
theorem q_17_15 : Cond.instanceMethod yX5_turns ∈ wsL_law := qm_17 _ (List.mem_of_getElem? (i := 15) rfl)
theorem q_17_16 : Cond.selects RX5 yX5_turns yX5_turns ∈ wsL_law := qm_17 _ (List.mem_of_getElem? (i := 16) rfl)
theorem q_17_17 : Cond.code yX5_turns cX5_turns 8 (some .int) ∈ wsL_law := qm_17 _ (List.mem_of_getElem? (i := 17) rfl)
theorem q_17_18 : Cond.fieldLink RX5 100 "LogTurnerModel" "parts" "I" ∈ wsL_law := qm_17 _ (List.mem_of_getElem? (i := 18) rfl)
theorem q_17_19 : Cond.methodLink RX5 103 yX5_isHeld ∈ wsL_law := qm_17 _ (List.mem_of_getElem? (i := 19) rfl)
theorem q_17_20 : Cond.instanceMethod yX5_isHeld ∈ wsL_law := qm_17 _ (List.mem_of_getElem? (i := 20) rfl)
theorem q_17_21 : Cond.selects RX5 yX5_isHeld yX5_isHeld ∈ wsL_law := qm_17 _ (List.mem_of_getElem? (i := 21) rfl)
theorem q_17_22 : Cond.code yX5_isHeld cX5_isHeld 4 (some .boolean) ∈ wsL_law := qm_17 _ (List.mem_of_getElem? (i := 22) rfl)
theorem q_17_23 : Cond.methodLink RX5 106 yX5_oldsOf ∈ wsL_law := qm_17 _ (List.mem_of_getElem? (i := 23) rfl)
theorem qm_18 : ∀ w ∈ wsL_law0_r18, w ∈ wsL_law := fun w h => by simp only [wsL_law, wsL_law0, List.mem_append, h, true_or, or_true]
theorem q_18_0 : Cond.instanceMethod yX5_oldsOf ∈ wsL_law := qm_18 _ (List.mem_of_getElem? (i := 0) rfl)
theorem q_18_1 : Cond.selects RX5 yX5_oldsOf yX5_oldsOf ∈ wsL_law := qm_18 _ (List.mem_of_getElem? (i := 1) rfl)
theorem q_18_2 : Cond.code yX5_oldsOf cX5_oldsOf 4 (some .int) ∈ wsL_law := qm_18 _ (List.mem_of_getElem? (i := 2) rfl)
theorem q_18_3 : Cond.methodLink RX5 110 yX5_throwsAway ∈ wsL_law := qm_18 _ (List.mem_of_getElem? (i := 3) rfl)
theorem q_18_4 : Cond.instanceMethod yX5_throwsAway ∈ wsL_law := qm_18 _ (List.mem_of_getElem? (i := 4) rfl)
theorem q_18_5 : Cond.selects RX5 yX5_throwsAway yX5_throwsAway ∈ wsL_law := qm_18 _ (List.mem_of_getElem? (i := 5) rfl)
theorem q_18_6 : Cond.code yX5_throwsAway cX5_throwsAway 3 none ∈ wsL_law := qm_18 _ (List.mem_of_getElem? (i := 6) rfl)
theorem q_18_7 : Cond.methodLink RL 121 yL_turn ∈ wsL_law := qm_18 _ (List.mem_of_getElem? (i := 7) rfl)
theorem q_18_8 : Cond.static yL_turn ∈ wsL_law := qm_18 _ (List.mem_of_getElem? (i := 8) rfl)
theorem q_18_9 : Cond.codeWith yL_turn cL_turn 4 (some .int) [(0, 9, 12, 13)] ∈ wsL_law := qm_18 _ (List.mem_of_getElem? (i := 9) rfl)
theorem q_18_10 : Cond.methodLink RL 45 yX4_turn ∈ wsL_law := qm_18 _ (List.mem_of_getElem? (i := 10) rfl)
theorem q_18_11 : Cond.instanceMethod yX4_turn ∈ wsL_law := qm_18 _ (List.mem_of_getElem? (i := 11) rfl)
theorem q_18_12 : Cond.selects RX4 yX4_turn yX4_turn ∈ wsL_law := qm_18 _ (List.mem_of_getElem? (i := 12) rfl)
theorem q_18_13 : Cond.code yX4_turn cX4_turn 2 (some .int) ∈ wsL_law := qm_18 _ (List.mem_of_getElem? (i := 13) rfl)
theorem q_18_14 : Cond.methodLink RL 123 yX5_turn ∈ wsL_law := qm_18 _ (List.mem_of_getElem? (i := 14) rfl)
theorem q_18_15 : Cond.instanceMethod yX5_turn ∈ wsL_law := qm_18 _ (List.mem_of_getElem? (i := 15) rfl)
theorem q_18_16 : Cond.selects RX5 yX5_turn yX5_turn ∈ wsL_law := qm_18 _ (List.mem_of_getElem? (i := 16) rfl)
theorem q_18_17 : Cond.code yX5_turn cX5_turn 2 (some .int) ∈ wsL_law := qm_18 _ (List.mem_of_getElem? (i := 17) rfl)
theorem q_18_18 : Cond.methodLink RL 124 yL_lose ∈ wsL_law := qm_18 _ (List.mem_of_getElem? (i := 18) rfl)
theorem q_18_19 : Cond.static yL_lose ∈ wsL_law := qm_18 _ (List.mem_of_getElem? (i := 19) rfl)
theorem q_18_20 : Cond.codeWith yL_lose cL_lose 4 (some .int) [(0, 9, 12, 13)] ∈ wsL_law := qm_18 _ (List.mem_of_getElem? (i := 20) rfl)
theorem q_18_21 : Cond.methodLink RL 48 yX4_lose ∈ wsL_law := qm_18 _ (List.mem_of_getElem? (i := 21) rfl)
theorem q_18_22 : Cond.instanceMethod yX4_lose ∈ wsL_law := qm_18 _ (List.mem_of_getElem? (i := 22) rfl)
theorem q_18_23 : Cond.selects RX4 yX4_lose yX4_lose ∈ wsL_law := qm_18 _ (List.mem_of_getElem? (i := 23) rfl)
theorem qm_19 : ∀ w ∈ wsL_law0_r19, w ∈ wsL_law := fun w h => by simp only [wsL_law, wsL_law0, List.mem_append, h, true_or, or_true]
theorem q_19_0 : Cond.code yX4_lose cX4_lose 4 (some .int) ∈ wsL_law := qm_19 _ (List.mem_of_getElem? (i := 0) rfl)
theorem q_19_1 : Cond.methodLink RL 126 yX5_lose ∈ wsL_law := qm_19 _ (List.mem_of_getElem? (i := 1) rfl)
theorem q_19_2 : Cond.instanceMethod yX5_lose ∈ wsL_law := qm_19 _ (List.mem_of_getElem? (i := 2) rfl)
theorem q_19_3 : Cond.selects RX5 yX5_lose yX5_lose ∈ wsL_law := qm_19 _ (List.mem_of_getElem? (i := 3) rfl)
theorem q_19_4 : Cond.code yX5_lose cX5_lose 3 (some .int) ∈ wsL_law := qm_19 _ (List.mem_of_getElem? (i := 4) rfl)
theorem q_19_5 : Cond.methodLink RL 127 yX4_day ∈ wsL_law := qm_19 _ (List.mem_of_getElem? (i := 5) rfl)
theorem q_19_6 : Cond.instanceMethod yX4_day ∈ wsL_law := qm_19 _ (List.mem_of_getElem? (i := 6) rfl)
theorem q_19_7 : Cond.selects RX4 yX4_day yX4_day ∈ wsL_law := qm_19 _ (List.mem_of_getElem? (i := 7) rfl)
theorem q_19_8 : Cond.code yX4_day cX4_day 1 (some .int) ∈ wsL_law := qm_19 _ (List.mem_of_getElem? (i := 8) rfl)
theorem q_19_9 : Cond.methodLink RL 130 yX5_day ∈ wsL_law := qm_19 _ (List.mem_of_getElem? (i := 9) rfl)
theorem q_19_10 : Cond.instanceMethod yX5_day ∈ wsL_law := qm_19 _ (List.mem_of_getElem? (i := 10) rfl)
theorem q_19_11 : Cond.selects RX5 yX5_day yX5_day ∈ wsL_law := qm_19 _ (List.mem_of_getElem? (i := 11) rfl)
theorem q_19_12 : Cond.code yX5_day cX5_day 1 (some .int) ∈ wsL_law := qm_19 _ (List.mem_of_getElem? (i := 12) rfl)
theorem q_19_13 : Cond.methodLink RL 131 yL_isDue ∈ wsL_law := qm_19 _ (List.mem_of_getElem? (i := 13) rfl)
theorem q_19_14 : Cond.static yL_isDue ∈ wsL_law := qm_19 _ (List.mem_of_getElem? (i := 14) rfl)
theorem q_19_15 : Cond.codeWith yL_isDue cL_isDue 4 (some .int) [(0, 16, 19, 13)] ∈ wsL_law := qm_19 _ (List.mem_of_getElem? (i := 15) rfl)
theorem q_19_16 : Cond.methodLink RL 51 yX4_isDue ∈ wsL_law := qm_19 _ (List.mem_of_getElem? (i := 16) rfl)
theorem q_19_17 : Cond.instanceMethod yX4_isDue ∈ wsL_law := qm_19 _ (List.mem_of_getElem? (i := 17) rfl)
theorem q_19_18 : Cond.selects RX4 yX4_isDue yX4_isDue ∈ wsL_law := qm_19 _ (List.mem_of_getElem? (i := 18) rfl)
theorem q_19_19 : Cond.code yX4_isDue cX4_isDue 2 (some .boolean) ∈ wsL_law := qm_19 _ (List.mem_of_getElem? (i := 19) rfl)
theorem q_19_20 : Cond.methodLink RL 133 yX5_isDue ∈ wsL_law := qm_19 _ (List.mem_of_getElem? (i := 20) rfl)
theorem q_19_21 : Cond.instanceMethod yX5_isDue ∈ wsL_law := qm_19 _ (List.mem_of_getElem? (i := 21) rfl)
theorem q_19_22 : Cond.selects RX5 yX5_isDue yX5_isDue ∈ wsL_law := qm_19 _ (List.mem_of_getElem? (i := 22) rfl)
theorem q_19_23 : Cond.code yX5_isDue cX5_isDue 2 (some .boolean) ∈ wsL_law := qm_19 _ (List.mem_of_getElem? (i := 23) rfl)
theorem qm_20 : ∀ w ∈ wsL_law0_r20, w ∈ wsL_law := fun w h => by simp only [wsL_law, wsL_law0, List.mem_append, h, true_or, or_true]
theorem q_20_0 : Cond.methodLink RL 134 yL_nextDue ∈ wsL_law := qm_20 _ (List.mem_of_getElem? (i := 0) rfl)
theorem q_20_1 : Cond.static yL_nextDue ∈ wsL_law := qm_20 _ (List.mem_of_getElem? (i := 1) rfl)
theorem q_20_2 : Cond.codeWith yL_nextDue cL_nextDue 4 (some .int) [(0, 9, 12, 13)] ∈ wsL_law := qm_20 _ (List.mem_of_getElem? (i := 2) rfl)
theorem q_20_3 : Cond.methodLink RL 54 yX4_nextDue ∈ wsL_law := qm_20 _ (List.mem_of_getElem? (i := 3) rfl)
theorem q_20_4 : Cond.instanceMethod yX4_nextDue ∈ wsL_law := qm_20 _ (List.mem_of_getElem? (i := 4) rfl)
theorem q_20_5 : Cond.selects RX4 yX4_nextDue yX4_nextDue ∈ wsL_law := qm_20 _ (List.mem_of_getElem? (i := 5) rfl)
theorem q_20_6 : Cond.code yX4_nextDue cX4_nextDue 4 (some .int) ∈ wsL_law := qm_20 _ (List.mem_of_getElem? (i := 6) rfl)
theorem q_20_7 : Cond.methodLink RL 136 yX5_nextDue ∈ wsL_law := qm_20 _ (List.mem_of_getElem? (i := 7) rfl)
theorem q_20_8 : Cond.instanceMethod yX5_nextDue ∈ wsL_law := qm_20 _ (List.mem_of_getElem? (i := 8) rfl)
theorem q_20_9 : Cond.selects RX5 yX5_nextDue yX5_nextDue ∈ wsL_law := qm_20 _ (List.mem_of_getElem? (i := 9) rfl)
theorem q_20_10 : Cond.code yX5_nextDue cX5_nextDue 3 (some .int) ∈ wsL_law := qm_20 _ (List.mem_of_getElem? (i := 10) rfl)
theorem q_20_11 : Cond.methodLink RL 137 yL_live ∈ wsL_law := qm_20 _ (List.mem_of_getElem? (i := 11) rfl)
theorem q_20_12 : Cond.static yL_live ∈ wsL_law := qm_20 _ (List.mem_of_getElem? (i := 12) rfl)
theorem q_20_13 : Cond.codeWith yL_live cL_live 4 (some .int) [(0, 9, 12, 13)] ∈ wsL_law := qm_20 _ (List.mem_of_getElem? (i := 13) rfl)
theorem q_20_14 : Cond.methodLink RL 57 yX4_live ∈ wsL_law := qm_20 _ (List.mem_of_getElem? (i := 14) rfl)
theorem q_20_15 : Cond.instanceMethod yX4_live ∈ wsL_law := qm_20 _ (List.mem_of_getElem? (i := 15) rfl)
theorem q_20_16 : Cond.selects RX4 yX4_live yX4_live ∈ wsL_law := qm_20 _ (List.mem_of_getElem? (i := 16) rfl)
theorem q_20_17 : Cond.code yX4_live cX4_live 2 (some .int) ∈ wsL_law := qm_20 _ (List.mem_of_getElem? (i := 17) rfl)
theorem q_20_18 : Cond.methodLink RL 139 yX5_live ∈ wsL_law := qm_20 _ (List.mem_of_getElem? (i := 18) rfl)
theorem q_20_19 : Cond.instanceMethod yX5_live ∈ wsL_law := qm_20 _ (List.mem_of_getElem? (i := 19) rfl)
theorem q_20_20 : Cond.selects RX5 yX5_live yX5_live ∈ wsL_law := qm_20 _ (List.mem_of_getElem? (i := 20) rfl)
theorem q_20_21 : Cond.code yX5_live cX5_live 2 (some .int) ∈ wsL_law := qm_20 _ (List.mem_of_getElem? (i := 21) rfl)
theorem q_20_22 : Cond.methodLink RL 140 yL_olds ∈ wsL_law := qm_20 _ (List.mem_of_getElem? (i := 22) rfl)
theorem q_20_23 : Cond.static yL_olds ∈ wsL_law := qm_20 _ (List.mem_of_getElem? (i := 23) rfl)
theorem qm_21 : ∀ w ∈ wsL_law0_r21, w ∈ wsL_law := fun w h => by simp only [wsL_law, wsL_law0, List.mem_append, h, true_or, or_true]
theorem q_21_0 : Cond.codeWith yL_olds cL_olds 4 (some .int) [(0, 9, 12, 13)] ∈ wsL_law := qm_21 _ (List.mem_of_getElem? (i := 0) rfl)
theorem q_21_1 : Cond.methodLink RL 60 yX4_olds ∈ wsL_law := qm_21 _ (List.mem_of_getElem? (i := 1) rfl)
theorem q_21_2 : Cond.instanceMethod yX4_olds ∈ wsL_law := qm_21 _ (List.mem_of_getElem? (i := 2) rfl)
theorem q_21_3 : Cond.selects RX4 yX4_olds yX4_olds ∈ wsL_law := qm_21 _ (List.mem_of_getElem? (i := 3) rfl)
theorem q_21_4 : Cond.code yX4_olds cX4_olds 2 (some .int) ∈ wsL_law := qm_21 _ (List.mem_of_getElem? (i := 4) rfl)
theorem q_21_5 : Cond.methodLink RL 142 yX5_olds ∈ wsL_law := qm_21 _ (List.mem_of_getElem? (i := 5) rfl)
theorem q_21_6 : Cond.instanceMethod yX5_olds ∈ wsL_law := qm_21 _ (List.mem_of_getElem? (i := 6) rfl)
theorem q_21_7 : Cond.selects RX5 yX5_olds yX5_olds ∈ wsL_law := qm_21 _ (List.mem_of_getElem? (i := 7) rfl)
theorem q_21_8 : Cond.code yX5_olds cX5_olds 2 (some .int) ∈ wsL_law := qm_21 _ (List.mem_of_getElem? (i := 8) rfl)
theorem q_21_9 : Cond.methodLink RL 143 yL_lines ∈ wsL_law := qm_21 _ (List.mem_of_getElem? (i := 9) rfl)
theorem q_21_10 : Cond.static yL_lines ∈ wsL_law := qm_21 _ (List.mem_of_getElem? (i := 10) rfl)
theorem q_21_11 : Cond.codeWith yL_lines cL_lines 5 (some .int) [(0, 10, 13, 13)] ∈ wsL_law := qm_21 _ (List.mem_of_getElem? (i := 11) rfl)
theorem q_21_12 : Cond.methodLink RL 63 yX4_lines ∈ wsL_law := qm_21 _ (List.mem_of_getElem? (i := 12) rfl)
theorem q_21_13 : Cond.instanceMethod yX4_lines ∈ wsL_law := qm_21 _ (List.mem_of_getElem? (i := 13) rfl)
theorem q_21_14 : Cond.selects RX4 yX4_lines yX4_lines ∈ wsL_law := qm_21 _ (List.mem_of_getElem? (i := 14) rfl)
theorem q_21_15 : Cond.code yX4_lines cX4_lines 3 (some .int) ∈ wsL_law := qm_21 _ (List.mem_of_getElem? (i := 15) rfl)
theorem q_21_16 : Cond.methodLink RX4 146 yX4_oldPartOf ∈ wsL_law := qm_21 _ (List.mem_of_getElem? (i := 16) rfl)
theorem q_21_17 : Cond.static yX4_oldPartOf ∈ wsL_law := qm_21 _ (List.mem_of_getElem? (i := 17) rfl)
theorem q_21_18 : Cond.code yX4_oldPartOf cX4_oldPartOf 2 (some (.object "LogTurner$Part")) ∈ wsL_law := qm_21 _ (List.mem_of_getElem? (i := 18) rfl)
theorem q_21_19 : Cond.methodLink RL 145 yX5_lines ∈ wsL_law := qm_21 _ (List.mem_of_getElem? (i := 19) rfl)
theorem q_21_20 : Cond.instanceMethod yX5_lines ∈ wsL_law := qm_21 _ (List.mem_of_getElem? (i := 20) rfl)
theorem q_21_21 : Cond.selects RX5 yX5_lines yX5_lines ∈ wsL_law := qm_21 _ (List.mem_of_getElem? (i := 21) rfl)
theorem q_21_22 : Cond.code yX5_lines cX5_lines 4 (some .int) ∈ wsL_law := qm_21 _ (List.mem_of_getElem? (i := 22) rfl)
theorem q_21_23 : Cond.methodLink RX5 121 yX5_placeOf ∈ wsL_law := qm_21 _ (List.mem_of_getElem? (i := 23) rfl)
theorem qm_22 : ∀ w ∈ wsL_law0_r22, w ∈ wsL_law := fun w h => by simp only [wsL_law, wsL_law0, List.mem_append, h, true_or, or_true]
theorem q_22_0 : Cond.instanceMethod yX5_placeOf ∈ wsL_law := qm_22 _ (List.mem_of_getElem? (i := 0) rfl)
theorem q_22_1 : Cond.selects RX5 yX5_placeOf yX5_placeOf ∈ wsL_law := qm_22 _ (List.mem_of_getElem? (i := 1) rfl)
theorem q_22_2 : Cond.code yX5_placeOf cX5_placeOf 6 (some .int) ∈ wsL_law := qm_22 _ (List.mem_of_getElem? (i := 2) rfl)
theorem q_22_3 : Cond.methodLink RL 146 yL_name ∈ wsL_law := qm_22 _ (List.mem_of_getElem? (i := 3) rfl)
theorem q_22_4 : Cond.static yL_name ∈ wsL_law := qm_22 _ (List.mem_of_getElem? (i := 4) rfl)
theorem q_22_5 : Cond.codeWith yL_name cL_name 5 (some .int) [(0, 10, 13, 13)] ∈ wsL_law := qm_22 _ (List.mem_of_getElem? (i := 5) rfl)
theorem q_22_6 : Cond.methodLink RL 66 yX4_name ∈ wsL_law := qm_22 _ (List.mem_of_getElem? (i := 6) rfl)
theorem q_22_7 : Cond.instanceMethod yX4_name ∈ wsL_law := qm_22 _ (List.mem_of_getElem? (i := 7) rfl)
theorem q_22_8 : Cond.selects RX4 yX4_name yX4_name ∈ wsL_law := qm_22 _ (List.mem_of_getElem? (i := 8) rfl)
theorem q_22_9 : Cond.code yX4_name cX4_name 5 (some .int) ∈ wsL_law := qm_22 _ (List.mem_of_getElem? (i := 9) rfl)
theorem q_22_10 : Cond.methodLink RX4 153 yX4_countOlderOfDay ∈ wsL_law := qm_22 _ (List.mem_of_getElem? (i := 10) rfl)
theorem q_22_11 : Cond.static yX4_countOlderOfDay ∈ wsL_law := qm_22 _ (List.mem_of_getElem? (i := 11) rfl)
theorem q_22_12 : Cond.code yX4_countOlderOfDay cX4_countOlderOfDay 5 (some .int) ∈ wsL_law := qm_22 _ (List.mem_of_getElem? (i := 12) rfl)
theorem q_22_13 : Cond.methodLink RL 148 yX5_name ∈ wsL_law := qm_22 _ (List.mem_of_getElem? (i := 13) rfl)
theorem q_22_14 : Cond.instanceMethod yX5_name ∈ wsL_law := qm_22 _ (List.mem_of_getElem? (i := 14) rfl)
theorem q_22_15 : Cond.selects RX5 yX5_name yX5_name ∈ wsL_law := qm_22 _ (List.mem_of_getElem? (i := 15) rfl)
theorem q_22_16 : Cond.code yX5_name cX5_name 6 (some .int) ∈ wsL_law := qm_22 _ (List.mem_of_getElem? (i := 16) rfl)
theorem q_22_17 : Cond.methodLink RL 149 yL_isSqueezed ∈ wsL_law := qm_22 _ (List.mem_of_getElem? (i := 17) rfl)
theorem q_22_18 : Cond.static yL_isSqueezed ∈ wsL_law := qm_22 _ (List.mem_of_getElem? (i := 18) rfl)
theorem q_22_19 : Cond.codeWith yL_isSqueezed cL_isSqueezed 5 (some .int) [(0, 17, 20, 13)] ∈ wsL_law := qm_22 _ (List.mem_of_getElem? (i := 19) rfl)
theorem q_22_20 : Cond.methodLink RL 69 yX4_isSqueezed ∈ wsL_law := qm_22 _ (List.mem_of_getElem? (i := 20) rfl)
theorem q_22_21 : Cond.instanceMethod yX4_isSqueezed ∈ wsL_law := qm_22 _ (List.mem_of_getElem? (i := 21) rfl)
theorem q_22_22 : Cond.selects RX4 yX4_isSqueezed yX4_isSqueezed ∈ wsL_law := qm_22 _ (List.mem_of_getElem? (i := 22) rfl)
theorem q_22_23 : Cond.code yX4_isSqueezed cX4_isSqueezed 3 (some .boolean) ∈ wsL_law := qm_22 _ (List.mem_of_getElem? (i := 23) rfl)
theorem qm_23 : ∀ w ∈ wsL_law0_r23, w ∈ wsL_law := fun w h => by simp only [wsL_law, wsL_law0, List.mem_append, h, true_or, or_true]
theorem q_23_0 : Cond.methodLink RL 151 yX5_isSqueezed ∈ wsL_law := qm_23 _ (List.mem_of_getElem? (i := 0) rfl)
theorem q_23_1 : Cond.instanceMethod yX5_isSqueezed ∈ wsL_law := qm_23 _ (List.mem_of_getElem? (i := 1) rfl)
theorem q_23_2 : Cond.selects RX5 yX5_isSqueezed yX5_isSqueezed ∈ wsL_law := qm_23 _ (List.mem_of_getElem? (i := 2) rfl)
theorem q_23_3 : Cond.code yX5_isSqueezed cX5_isSqueezed 4 (some .boolean) ∈ wsL_law := qm_23 _ (List.mem_of_getElem? (i := 3) rfl)
theorem q_23_4 : Cond.methodLink RL 152 yL_thrown ∈ wsL_law := qm_23 _ (List.mem_of_getElem? (i := 4) rfl)
theorem q_23_5 : Cond.static yL_thrown ∈ wsL_law := qm_23 _ (List.mem_of_getElem? (i := 5) rfl)
theorem q_23_6 : Cond.codeWith yL_thrown cL_thrown 4 (some .int) [(0, 9, 12, 13)] ∈ wsL_law := qm_23 _ (List.mem_of_getElem? (i := 6) rfl)
theorem q_23_7 : Cond.methodLink RL 73 yX4_thrown ∈ wsL_law := qm_23 _ (List.mem_of_getElem? (i := 7) rfl)
theorem q_23_8 : Cond.instanceMethod yX4_thrown ∈ wsL_law := qm_23 _ (List.mem_of_getElem? (i := 8) rfl)
theorem q_23_9 : Cond.selects RX4 yX4_thrown yX4_thrown ∈ wsL_law := qm_23 _ (List.mem_of_getElem? (i := 9) rfl)
theorem q_23_10 : Cond.code yX4_thrown cX4_thrown 2 (some .int) ∈ wsL_law := qm_23 _ (List.mem_of_getElem? (i := 10) rfl)
theorem q_23_11 : Cond.methodLink RL 154 yX5_thrown_ ∈ wsL_law := qm_23 _ (List.mem_of_getElem? (i := 11) rfl)
theorem q_23_12 : Cond.instanceMethod yX5_thrown_ ∈ wsL_law := qm_23 _ (List.mem_of_getElem? (i := 12) rfl)
theorem q_23_13 : Cond.selects RX5 yX5_thrown_ yX5_thrown_ ∈ wsL_law := qm_23 _ (List.mem_of_getElem? (i := 13) rfl)
theorem q_23_14 : Cond.code yX5_thrown_ cX5_thrown_ 2 (some .int) ∈ wsL_law := qm_23 _ (List.mem_of_getElem? (i := 14) rfl)
theorem q_23_15 : Cond.methodLink RL 155 yL_holds ∈ wsL_law := qm_23 _ (List.mem_of_getElem? (i := 15) rfl)
theorem q_23_16 : Cond.static yL_holds ∈ wsL_law := qm_23 _ (List.mem_of_getElem? (i := 16) rfl)
theorem q_23_17 : Cond.codeWith yL_holds cL_holds 4 (some .int) [(0, 9, 12, 13)] ∈ wsL_law := qm_23 _ (List.mem_of_getElem? (i := 17) rfl)
theorem q_23_18 : Cond.methodLink RL 76 yX4_holds ∈ wsL_law := qm_23 _ (List.mem_of_getElem? (i := 18) rfl)
theorem q_23_19 : Cond.instanceMethod yX4_holds ∈ wsL_law := qm_23 _ (List.mem_of_getElem? (i := 19) rfl)
theorem q_23_20 : Cond.selects RX4 yX4_holds yX4_holds ∈ wsL_law := qm_23 _ (List.mem_of_getElem? (i := 20) rfl)
theorem q_23_21 : Cond.code yX4_holds cX4_holds 4 (some .int) ∈ wsL_law := qm_23 _ (List.mem_of_getElem? (i := 21) rfl)
theorem q_23_22 : Cond.fieldLink RX4 163 "LogTurner$LogFile" "number" "I" ∈ wsL_law := qm_23 _ (List.mem_of_getElem? (i := 22) rfl)
theorem q_23_23 : Cond.methodLink RX4 164 yX4_placeOf ∈ wsL_law := qm_23 _ (List.mem_of_getElem? (i := 23) rfl)
theorem qm_24 : ∀ w ∈ wsL_law0_r24, w ∈ wsL_law := fun w h => by simp only [wsL_law, wsL_law0, List.mem_append, h, true_or, or_true]
theorem q_24_0 : Cond.static yX4_placeOf ∈ wsL_law := qm_24 _ (List.mem_of_getElem? (i := 0) rfl)
theorem q_24_1 : Cond.code yX4_placeOf cX4_placeOf 3 (some .int) ∈ wsL_law := qm_24 _ (List.mem_of_getElem? (i := 1) rfl)
theorem q_24_2 : Cond.methodLink RL 157 yX5_holds ∈ wsL_law := qm_24 _ (List.mem_of_getElem? (i := 2) rfl)
theorem q_24_3 : Cond.instanceMethod yX5_holds ∈ wsL_law := qm_24 _ (List.mem_of_getElem? (i := 3) rfl)
theorem q_24_4 : Cond.selects RX5 yX5_holds yX5_holds ∈ wsL_law := qm_24 _ (List.mem_of_getElem? (i := 4) rfl)
theorem q_24_5 : Cond.code yX5_holds cX5_holds 4 (some .int) ∈ wsL_law := qm_24 _ (List.mem_of_getElem? (i := 5) rfl)
end
section
/-! THE FIXED THINGS OF A RUN, and contracts over maps. -/
/-- the fixed things: the classes' numbers; the arrays' classes; single addresses; families of addresses -/
abbrev ly_T : Type := va_G × (Nat → ClassId) × (Nat → Nat) × (Nat → Nat → Nat)
def ly_D (y : ly_T) : va_G := y.1
def ly_k (y : ly_T) (i : Nat) : ClassId := y.2.1 i
def ly_a (y : ly_T) (i : Nat) : Nat := y.2.2.1 i
def ly_f (y : ly_T) (i j : Nat) : Nat := y.2.2.2 i j
def ly_TY (y : ly_T) : List (ClassId × FieldType) := [(ly_k y 0, .int), (ly_k y 1, .boolean), (ly_k y 2, .long), (ly_k y 3, .object RX3), (ly_k y 4, .object RX1), (ly_k y 5, .object RX0), (ly_k y 6, .object "java/lang/Object")]
def ly_Str (y : ly_T) (U : State) : Prop := vk_R RX4 99 "the holder holds nothing" (ly_a y 8) U ∧ vk_R RX4 112 "the day would be above the greatest one" (ly_a y 9) U ∧ vk_R RX4 170 "no such rule" (ly_a y 10) U ∧ vk_R RX4 173 "no such file" (ly_a y 11) U ∧ vk_R RX4 175 "no such holder" (ly_a y 12) U ∧ vk_R RX4 177 "no such old part" (ly_a y 13) U ∧ vk_R RX4 185 "an argument is out of range" (ly_a y 14) U
def ly_Tab (y : ly_T) (U : State) : Prop := (va_AO "java/lang/Object" U ∧ va_AO RX0 U ∧ va_AO RX1 U ∧ va_AO RX3 U) ∧ (va_Mi "[Ljava/lang/Object;" (ly_a y 7) U ∧ va_Dc U) ∧ (va_Nw (.methodLinkNest RX4 211 yX2_init RX4) U ∧ va_Nw (.methodLinkNest RX4 33 yX0_init RX4) U ∧ va_Nw (.methodLinkNest RX1 18 yX2_init RX4) U) ∧
  ((Cond.castable "java/lang/IndexOutOfBoundsException" "java/lang/IndexOutOfBoundsException").before #[] U = true ∧ (Cond.castable "java/lang/IllegalArgumentException" "java/lang/IllegalArgumentException").before #[] U = true ∧ (Cond.castable "java/lang/IllegalStateException" "java/lang/IllegalStateException").before #[] U = true ∧ (Cond.castable RX2 "java/lang/Object").before #[] U = true) ∧
  (va_Nc "java/lang/IllegalArgumentException" "java/lang/IndexOutOfBoundsException" U ∧ va_Nc "java/lang/IllegalStateException" "java/lang/IndexOutOfBoundsException" U ∧ va_Nc "java/lang/IllegalStateException" "java/lang/IllegalArgumentException" U) ∧
  (va_Nw (.declares (Bundle.initS "java/lang/RuntimeException")) U ∧ va_Nw (.declares (Bundle.initS "java/lang/Exception")) U ∧ va_Nw (.declares (Bundle.initS Bundle.tN)) U)
def ly_Sta (y : ly_T) (A : Nat → Prop) (U : State) (H : Heap) : Prop := vx_Zq Bundle.tN "UNASSIGNED_STACK" Bundle.steD A U H ∧ vx_Zq Bundle.tN "SUPPRESSED_SENTINEL" Bundle.listD A U H ∧ va_Z "java/util/ArrayList" "DEFAULTCAPACITY_EMPTY_ELEMENTDATA" "[Ljava/lang/Object;" (.ref (ly_a y 6)) A U H ∧ va_T (.object "java/lang/Object") (ly_a y 6) 0 (fun _ => .null) A U H
/-- what stays true of the machine all along a run -/
def gk_V (y : ly_T) (A : Nat → Prop) (U : State) : Prop := va_K (ly_D y) vwCl (ly_TY y) U ∧ ly_Str y U ∧ ly_Tab y U ∧ ly_Sta y A U U.heap
theorem gk_castM {u U : State} {C E : String} (hvm : u.vm.Alike U.vm) (h : (Cond.castable C E).before #[] u = true) : (Cond.castable C E).before #[] U = true := by
  have e := Cond.onTables_vm (A := #[]) (A' := #[]) (U := u) (U' := U) U.vm (Cond.castable C E) rfl
  have hU : U.setVm U.vm = U := rfl
  rw [hU] at e
  rw [← e, Cond.castable_setVm hvm]
  exact h
theorem gk_castU {U : State} {args : Array Value} {C E : String} (h : (Cond.castable C E).before #[] U = true) : (Cond.castable C E).before args U = true := va_any rfl h
theorem gk_Vmoved {y : ly_T} {A : Nat → Prop} {s U : State} {locs : List Loc} (h : gk_V y A s) (hS : va_S A s.heap U.heap locs) (hW : s.WarmedH U.vm) : gk_V y A U := by
  have hal := hW.alike
  obtain ⟨h1, ⟨a1, a2, a3, a4, a5, a6, a7⟩, ⟨⟨b1, b2, b3, b4⟩, ⟨b5, b6⟩, ⟨b7, b8, b9⟩, ⟨c1, c2, c3, c4⟩, ⟨c5, c6, c7⟩, c8, c9, c10⟩, d1, d2, d3, d4⟩ := h
  exact ⟨va_K.moved hal h1, ⟨vk_R.warm hW a1, vk_R.warm hW a2, vk_R.warm hW a3, vk_R.warm hW a4, vk_R.warm hW a5, vk_R.warm hW a6, vk_R.warm hW a7⟩,
    ⟨⟨va_AO.moved hal b1, va_AO.moved hal b2, va_AO.moved hal b3, va_AO.moved hal b4⟩, ⟨va_Mi.moved hal b5, va_Dc.moved hal b6⟩, ⟨va_Nw.warmM hW b7, va_Nw.warmM hW b8, va_Nw.warmM hW b9⟩, ⟨gk_castM hal c1, gk_castM hal c2, gk_castM hal c3, gk_castM hal c4⟩, ⟨va_Nc.moved hal c5, va_Nc.moved hal c6, va_Nc.moved hal c7⟩, va_Nw.warmD hW c8, va_Nw.warmD hW c9, va_Nw.warmD hW c10⟩,
    vx_Zq.moved hal (d1.kept hS.2.1), vx_Zq.moved hal (d2.kept hS.2.1), va_Z.moved hal (d3.kept hS.2.1), va_T.moved hal (d4.kept hS.2.1)⟩
theorem gk_good : ∀ w ∈ wsL_law, goodWord w = true := List.all_eq_true.mp (by decide +kernel)
theorem gk_gA {ws : List Cond} (h : ∀ w ∈ ws, w ∈ wsL_law) : GoodIn wsL_law ws := fun w hw => ⟨h w hw, good_of_word (gk_good w (h w hw))⟩
theorem gk_gC {w : Cond} (h : w ∈ wsL_law) : GoodIn wsL_law (w :: wsL_law) := gk_gA (fun z hz => by
  rcases List.mem_cons.mp hz with h1 | h1
  · rw [h1]; exact h
  · exact h1)
theorem gk_gV {own C : String} {idx : Nat} {yy : MethodName} {w : Cond} (h1 : Cond.methodLink own idx yy ∈ wsL_law) (h2 : Cond.instanceMethod yy ∈ wsL_law) (h3 : Cond.selects C yy yy ∈ wsL_law) (h4 : Cond.initialized C ∈ wsL_law) (h5 : w ∈ wsL_law) : GoodIn wsL_law (wsV own idx C yy (w :: wsL_law)) := gk_gA (fun z hz => by
  unfold wsV at hz
  simp only [List.mem_append, List.mem_cons, List.not_mem_nil, or_false] at hz
  rcases hz with (h | h | h | h) | h | h
  · rw [h]; exact h1
  · rw [h]; exact h2
  · rw [h]; exact h3
  · rw [h]; exact h4
  · rw [h]; exact h5
  · exact h)
theorem gk_gS {own : String} {idx : Nat} {yy : MethodName} {w : Cond} (h1 : Cond.methodLink own idx yy ∈ wsL_law) (h2 : Cond.static yy ∈ wsL_law) (h3 : Cond.initialized yy.cls ∈ wsL_law) (h5 : w ∈ wsL_law) : GoodIn wsL_law (va_wsS own idx yy (w :: wsL_law)) := gk_gA (fun z hz => by
  unfold va_wsS at hz
  simp only [List.mem_append, List.mem_cons, List.not_mem_nil, or_false] at hz
  rcases hz with (h | h | h) | h | h
  · rw [h]; exact h1
  · rw [h]; exact h2
  · rw [h]; exact h3
  · rw [h]; exact h5
  · exact h)
def gk_Pc (y : ly_T) (A : Nat → Prop) (av : List Value) (G : gk_G) : Array Value → State → Prop := va_Pc av (fun U => (∀ q, U.heap.size ≤ q → A q) ∧ gk_V y A U ∧ gk_P (ly_D y) A G U.heap)
def gk_Q (y : ly_T) (A : Nat → Prop) (post : Option Value → gk_G → Prop) : Array Value → State → Outcome → State → Prop := fun _ st oc t => (∃ (v : Option Value) (G : gk_G), oc = .returned v ∧ post v G ∧ gk_P (ly_D y) A G t.heap) ∧ va_F A st t
def gk_X (y : ly_T) (A : Nat → Prop) (px : String → gk_G → Prop) : String → State → State → Prop := fun E st t => (∃ G : gk_G, px E G ∧ gk_P (ly_D y) A G t.heap) ∧ va_F A st t
/-- a method that returns: its contract over maps -/
def gk_M0 (l : Launch) (yy : MethodName) (w : Cond) (fr lo mc ms : Nat) (y : ly_T) (A : Nat → Prop) (av : List Value) (G : gk_G) (post : Option Value → gk_G → Prop) : Prop := Met l yy (w :: wsL_law) { frames := fr, cells := mc, slots := ms, locals := lo } (gk_Pc y A av G) (gk_Q y A post) mc ms A
/-- a method that returns or throws -/
def gk_M (l : Launch) (yy : MethodName) (w : Cond) (fr lo mc ms : Nat) (y : ly_T) (A : Nat → Prop) (av : List Value) (G : gk_G) (post : Option Value → gk_G → Prop) (px : String → gk_G → Prop) : Prop := vx_Met l yy (w :: wsL_law) { frames := fr, cells := mc, slots := ms, locals := lo } (gk_Pc y A av G) (gk_Q y A post) (gk_X y A px) mc ms A
def gk_pu (v : Option Value) (r : List Value) : List Value := match v with
  | none => r
  | some x => x :: r
theorem gk_pu_eq (v : Option Value) (r : List Value) : v.toList ++ r = gk_pu v r := by cases v <;> rfl
theorem gk_blind {y : ly_T} {A : Nat → Prop} {av : List Value} {G : gk_G} : FrameBlind (gk_Pc y A av G) := fun a U g mk h => by
  obtain ⟨h1, h2, h3, h4⟩ := h
  exact ⟨h1, h2, gk_Vmoved (U := U.calling g mk a) (locs := []) h3 va_S.rf (State.WarmedH.refl U), h4⟩
section GKC
variable {p : Program} {l : Launch} {e : Env} {R : Room} {s : State} {m : MethodId} {args : Array Value} {below : List Frame} {meth : Method} {c : Code} {H : Heap} {locs : List Loc} {cells slots : Nat} {Q : State → Prop}
variable {cc bytes : ByteArray} {pc : Nat} {ls : Array Slot} {rest st0 As : List Value} {A : Nat → Prop} {G : gk_G} {own : String} {y : ly_T} {yy : MethodName} {fr lo mc ms nL index maxL n : Nat} {ret : Option FieldType} {post : Option Value → gk_G → Prop} {px : String → gk_G → Prop} {b : Nat}
theorem gk_preS (hV : gk_V y A s) (hP : gk_P (ly_D y) A G H) (hS : va_S A s.heap H locs) (hA : ∀ q, s.heap.size ≤ q → A q) (av : List Value) : PreS s H (gk_Pc y A av G) av := by
  refine ⟨gk_blind, fun U hU hW => ⟨rfl, fun q hq => hA q ?_, gk_Vmoved (locs := locs) hV (by rw [hU]; exact hS) hW, by rw [hU]; exact hP⟩⟩
  rw [hU] at hq
  exact Nat.le_trans hS.1 hq
theorem gk_preV (hV : gk_V y A s) (hP : gk_P (ly_D y) A G H) (hS : va_S A s.heap H locs) (hA : ∀ q, s.heap.size ≤ q → A q) {C : String} (hr : ∃ cell : Cell, H[b]? = some cell ∧ cell.vm.isStatics = false ∧ s.vm.findClass C = some cell.cls) : PreV s H C b (gk_Pc y A (.ref b :: As) G) As := by
  refine ⟨gk_blind, hr, fun U hU hW => ⟨rfl, fun q hq => hA q ?_, gk_Vmoved (locs := locs) hV (by rw [hU]; exact hS) hW, by rw [hU]; exact hP⟩⟩
  rw [hU] at hq
  exact Nat.le_trans hS.1 hq
theorem gk_back0 {a : Array Value} (hr : va_Run p l e R s m args below meth c H locs cells slots mc ms (F0 m pc ls st0) rest (gk_Q y A post a) A) (hS : va_S A s.heap H locs)
    (kk : ∀ (v : Option Value) (G1 : gk_G) (H1 : Heap) (locs1 : List Loc), post v G1 → gk_P (ly_D y) A G1 H1 → va_S A s.heap H1 locs1 → W p l e R s m args below meth c H1 locs1 (cells + mc) (slots + ms) Q (F0 m (pc + 3) ls (gk_pu v rest))) : W p l e R s m args below meth c H locs cells slots Q (F0 m pc ls st0) := by
  intro T hT X
  obtain ⟨v, st₀, t, T', L, h0, X', hL, e1, e2, ⟨⟨v2, G1, hv, hp, hb⟩, hF⟩, st⟩ := hr T hT X
  cases hv
  obtain ⟨k1, k2, k3⟩ := vx_keep (A1 := A) (free := A) h0 e1 hS (fun q _ h => h) (fun q h => h) hL hF
  obtain ⟨t2, a1, b1⟩ := kk v G1 T'.heap (locs ++ L) hp (by rw [e1]; exact hb) k3 T' rfl X'
  refine ⟨t2, st t2 ?_, b1⟩
  rw [gk_pu_eq]
  exact a1
theorem gk_backX {a : Array Value} (hr : vx_Run p l e R s m args below meth c H locs cells slots mc ms (F0 m pc ls st0) rest (gk_Q y A post a) (gk_X y A px) A) (hS : va_S A s.heap H locs)
    (kx : ∀ (E : String) (ce : Cell) (q9 : Addr) (G1 : gk_G) (H1 : Heap) (locs1 : List Loc), px E G1 → gk_P (ly_D y) A G1 H1 → va_S A s.heap H1 locs1 → H1[q9]? = some ce → ce.vm = .none → s.vm.findClass E = some ce.cls → vx_W p l e R s m args below meth c H1 locs1 (cells + mc) (slots + ms) Q (F0 m pc ls rest) q9)
    (kk : ∀ (v : Option Value) (G1 : gk_G) (H1 : Heap) (locs1 : List Loc), post v G1 → gk_P (ly_D y) A G1 H1 → va_S A s.heap H1 locs1 → W p l e R s m args below meth c H1 locs1 (cells + mc) (slots + ms) Q (F0 m (pc + 3) ls (gk_pu v rest))) : W p l e R s m args below meth c H locs cells slots Q (F0 m pc ls st0) := by
  intro T hT X
  rcases hr T hT X with ⟨v, st₀, t, T', L, h0, X', hL, e1, e2, ⟨⟨v2, G1, hv, hp, hb⟩, hF⟩, st⟩ | ⟨q, st₀, t, T', L, E, ce, h0, X', hL, e1, e2, ⟨⟨G1, hp, hb⟩, hF⟩, hce, hcv, hcl, st⟩
  · cases hv
    obtain ⟨k1, k2, k3⟩ := vx_keep (A1 := A) (free := A) h0 e1 hS (fun q _ h => h) (fun q h => h) hL hF
    obtain ⟨t2, a1, b1⟩ := kk v G1 T'.heap (locs ++ L) hp (by rw [e1]; exact hb) k3 T' rfl X'
    refine ⟨t2, st t2 ?_, b1⟩
    rw [gk_pu_eq]
    exact a1
  · obtain ⟨k1, k2, k3⟩ := vx_keep (A1 := A) (free := A) h0 e1 hS (fun q _ h => h) (fun q h => h) hL hF
    obtain ⟨t2, a1, b1⟩ := kx E ce q G1 T'.heap (locs ++ L) hp (by rw [e1]; exact hb) k3 (by rw [e1]; exact hce) hcv hcl T' rfl X'
    exact ⟨t2, st.trans a1, b1⟩
/-- what a call of any kind needs of the caller -/
def gk_K (p : Program) (s : State) (m : MethodId) (c : Code) (args : Array Value) (cc : ByteArray) (own : String) (nL : Nat) (y : ly_T) (A : Nat → Prop) : Prop := gk_C p s m c args cc own ∧ c.maxLocals = nL ∧ gk_V y A s ∧ ∀ q, s.heap.size ≤ q → A q
theorem gk_fix (h : gk_C p s m c args cc own) (hml : c.maxLocals = nL) : CallFix p m c cc nL s args wsL_law own := ⟨h.1, h.2.1, hml, h.2.2.1, h.2.2.2⟩
theorem gk_callV (hK : gk_K p s m c args cc own nL y A) (hM : gk_M l yy (.code yy bytes maxL ret) fr lo mc ms y A (.ref b :: As) G post px) {C : String} (hg : GoodIn wsL_law (wsV own index C yy (.code yy bytes maxL ret :: wsL_law))) (hd : yy.cls = C ∧ yy.cls ≠ "java/lang/invoke/MethodHandle" ∧ yy.cls ≠ "java/lang/invoke/VarHandle" ∧ (parseMethodDescriptor yy.desc).map (fun d => d.parameters.length) = some n) (hR : fr + 1 ≤ R.frames ∧ 8 + (maxL + 11) + lo ≤ R.locals) (hP : gk_P (ly_D y) A G H) (hS : va_S A s.heap H locs) (hr : ∃ cell : Cell, H[b]? = some cell ∧ cell.vm.isStatics = false ∧ s.vm.findClass C = some cell.cls)
    (hn : As.length = n) (hsz : ls.size = nL) (hst : st0 = As.reverse ++ .ref b :: rest) (hW : (rest.map fun v => v.category).sum ≤ 8) (hdg : decode cc pc = .ok (.invokevirtual index, 3)) (hf : cells + mc ≤ R.cells ∧ slots + ms ≤ R.slots)
    (kx : ∀ (E : String) (ce : Cell) (q9 : Addr) (G1 : gk_G) (H1 : Heap) (locs1 : List Loc), px E G1 → gk_P (ly_D y) A G1 H1 → va_S A s.heap H1 locs1 → H1[q9]? = some ce → ce.vm = .none → s.vm.findClass E = some ce.cls → vx_W p l e R s m args below meth c H1 locs1 (cells + mc) (slots + ms) Q (F0 m pc ls rest) q9)
    (kk : ∀ (v : Option Value) (G1 : gk_G) (H1 : Heap) (locs1 : List Loc), post v G1 → gk_P (ly_D y) A G1 H1 → va_S A s.heap H1 locs1 → W p l e R s m args below meth c H1 locs1 (cells + mc) (slots + ms) Q (F0 m (pc + 3) ls (gk_pu v rest))) : W p l e R s m args below meth c H locs cells slots Q (F0 m pc ls st0) :=
  gk_backX (vx_runV (As := As) (rest := rest) (gk_fix hK.1 hK.2.1) hM (cwV n hK.1.2.2.2 hg rfl rfl rfl hd hR) (gk_preV hK.2.2.1 hP hS hK.2.2.2 hr) rfl hn hsz hst (lv_room hW) hdg hf) hS kx kk
theorem gk_callV0 (hK : gk_K p s m c args cc own nL y A) (hM : gk_M0 l yy (.code yy bytes maxL ret) fr lo mc ms y A (.ref b :: As) G post) {C : String} (hg : GoodIn wsL_law (wsV own index C yy (.code yy bytes maxL ret :: wsL_law))) (hd : yy.cls = C ∧ yy.cls ≠ "java/lang/invoke/MethodHandle" ∧ yy.cls ≠ "java/lang/invoke/VarHandle" ∧ (parseMethodDescriptor yy.desc).map (fun d => d.parameters.length) = some n) (hR : fr + 1 ≤ R.frames ∧ 8 + (maxL + 11) + lo ≤ R.locals) (hP : gk_P (ly_D y) A G H) (hS : va_S A s.heap H locs) (hr : ∃ cell : Cell, H[b]? = some cell ∧ cell.vm.isStatics = false ∧ s.vm.findClass C = some cell.cls)
    (hn : As.length = n) (hsz : ls.size = nL) (hst : st0 = As.reverse ++ .ref b :: rest) (hW : (rest.map fun v => v.category).sum ≤ 8) (hdg : decode cc pc = .ok (.invokevirtual index, 3)) (hf : cells + mc ≤ R.cells ∧ slots + ms ≤ R.slots)
    (kk : ∀ (v : Option Value) (G1 : gk_G) (H1 : Heap) (locs1 : List Loc), post v G1 → gk_P (ly_D y) A G1 H1 → va_S A s.heap H1 locs1 → W p l e R s m args below meth c H1 locs1 (cells + mc) (slots + ms) Q (F0 m (pc + 3) ls (gk_pu v rest))) : W p l e R s m args below meth c H locs cells slots Q (F0 m pc ls st0) :=
  gk_back0 (va_runV (As := As) (rest := rest) (gk_fix hK.1 hK.2.1) hM (cwV n hK.1.2.2.2 hg rfl rfl rfl hd hR) (gk_preV hK.2.2.1 hP hS hK.2.2.2 hr) rfl hn hsz hst (lv_room hW) hdg hf) hS kk
theorem gk_callS (hK : gk_K p s m c args cc own nL y A) (hM : gk_M l yy (.code yy bytes maxL ret) fr lo mc ms y A As G post px) (hg : GoodIn wsL_law (va_wsS own index yy (.code yy bytes maxL ret :: wsL_law))) (hd : yy.cls ≠ "java/lang/invoke/MethodHandle" ∧ yy.cls ≠ "java/lang/invoke/VarHandle" ∧ (parseMethodDescriptor yy.desc).map (fun d => d.parameters.length) = some n) (hR : fr + 1 ≤ R.frames ∧ 8 + (maxL + 11) + lo ≤ R.locals) (hP : gk_P (ly_D y) A G H) (hS : va_S A s.heap H locs)
    (hn : As.length = n) (hsz : ls.size = nL) (hst : st0 = As.reverse ++ rest) (hW : (rest.map fun v => v.category).sum ≤ 8) (hdg : decode cc pc = .ok (.invokestatic index, 3)) (hf : cells + mc ≤ R.cells ∧ slots + ms ≤ R.slots)
    (kx : ∀ (E : String) (ce : Cell) (q9 : Addr) (G1 : gk_G) (H1 : Heap) (locs1 : List Loc), px E G1 → gk_P (ly_D y) A G1 H1 → va_S A s.heap H1 locs1 → H1[q9]? = some ce → ce.vm = .none → s.vm.findClass E = some ce.cls → vx_W p l e R s m args below meth c H1 locs1 (cells + mc) (slots + ms) Q (F0 m pc ls rest) q9)
    (kk : ∀ (v : Option Value) (G1 : gk_G) (H1 : Heap) (locs1 : List Loc), post v G1 → gk_P (ly_D y) A G1 H1 → va_S A s.heap H1 locs1 → W p l e R s m args below meth c H1 locs1 (cells + mc) (slots + ms) Q (F0 m (pc + 3) ls (gk_pu v rest))) : W p l e R s m args below meth c H locs cells slots Q (F0 m pc ls st0) :=
  gk_backX (vx_runS (As := As) (rest := rest) (gk_fix hK.1 hK.2.1) hM (va_cwS n hK.1.2.2.2 hg rfl rfl rfl hd hR) (gk_preS hK.2.2.1 hP hS hK.2.2.2 As) rfl hn hsz hst (lv_room hW) hdg hf) hS kx kk
theorem gk_callS0 (hK : gk_K p s m c args cc own nL y A) (hM : gk_M0 l yy (.code yy bytes maxL ret) fr lo mc ms y A As G post) (hg : GoodIn wsL_law (va_wsS own index yy (.code yy bytes maxL ret :: wsL_law))) (hd : yy.cls ≠ "java/lang/invoke/MethodHandle" ∧ yy.cls ≠ "java/lang/invoke/VarHandle" ∧ (parseMethodDescriptor yy.desc).map (fun d => d.parameters.length) = some n) (hR : fr + 1 ≤ R.frames ∧ 8 + (maxL + 11) + lo ≤ R.locals) (hP : gk_P (ly_D y) A G H) (hS : va_S A s.heap H locs)
    (hn : As.length = n) (hsz : ls.size = nL) (hst : st0 = As.reverse ++ rest) (hW : (rest.map fun v => v.category).sum ≤ 8) (hdg : decode cc pc = .ok (.invokestatic index, 3)) (hf : cells + mc ≤ R.cells ∧ slots + ms ≤ R.slots)
    (kk : ∀ (v : Option Value) (G1 : gk_G) (H1 : Heap) (locs1 : List Loc), post v G1 → gk_P (ly_D y) A G1 H1 → va_S A s.heap H1 locs1 → W p l e R s m args below meth c H1 locs1 (cells + mc) (slots + ms) Q (F0 m (pc + 3) ls (gk_pu v rest))) : W p l e R s m args below meth c H locs cells slots Q (F0 m pc ls st0) :=
  gk_back0 (va_runS (As := As) (rest := rest) (gk_fix hK.1 hK.2.1) hM (va_cwS n hK.1.2.2.2 hg rfl rfl rfl hd hR) (gk_preS hK.2.2.1 hP hS hK.2.2.2 As) rfl hn hsz hst (lv_room hW) hdg hf) hS kk
/-- a static method with a table of its own, that returns -/
theorem gk_callSW {hh : List (Nat × Nat × Nat × Nat)} (hK : gk_K p s m c args cc own nL y A) (hM : gk_M0 l yy (.codeWith yy bytes maxL ret hh) fr lo mc ms y A As G post) (hg : GoodIn wsL_law (va_wsS own index yy (.codeWith yy bytes maxL ret hh :: wsL_law))) (hd : yy.cls ≠ "java/lang/invoke/MethodHandle" ∧ yy.cls ≠ "java/lang/invoke/VarHandle" ∧ (parseMethodDescriptor yy.desc).map (fun d => d.parameters.length) = some n) (hR : fr + 1 ≤ R.frames ∧ 8 + (maxL + 11) + lo ≤ R.locals) (hP : gk_P (ly_D y) A G H) (hS : va_S A s.heap H locs)
    (hn : As.length = n) (hsz : ls.size = nL) (hst : st0 = As.reverse ++ rest) (hW : (rest.map fun v => v.category).sum ≤ 8) (hdg : decode cc pc = .ok (.invokestatic index, 3)) (hf : cells + mc ≤ R.cells ∧ slots + ms ≤ R.slots)
    (kk : ∀ (v : Option Value) (G1 : gk_G) (H1 : Heap) (locs1 : List Loc), post v G1 → gk_P (ly_D y) A G1 H1 → va_S A s.heap H1 locs1 → W p l e R s m args below meth c H1 locs1 (cells + mc) (slots + ms) Q (F0 m (pc + 3) ls (gk_pu v rest))) : W p l e R s m args below meth c H locs cells slots Q (F0 m pc ls st0) :=
  gk_back0 (vx_runSW (As := As) (rest := rest) (gk_fix hK.1 hK.2.1) hM (vx_cwSW n hK.1.2.2.2 hg rfl rfl rfl hd hR) (gk_preS hK.2.2.1 hP hS hK.2.2.2 As) rfl hn hsz hst (lv_room hW) hdg hf) hS kk
/-- a constructor -/
theorem gk_callI (hK : gk_K p s m c args cc own nL y A) (hM : gk_M0 l yy (.code yy bytes maxL none) fr lo mc ms y A (.ref b :: As) G post) (hw : Cond.code yy bytes maxL none ∈ wsL_law) (hini : Cond.initialized yy.cls ∈ wsL_law) (hl : Cond.methodLink own index yy ∈ wsL_law) (hin : Cond.instanceMethod yy ∈ wsL_law) (hy1 : yy.name = "<init>") (hd : yy.cls ≠ "java/lang/invoke/MethodHandle" ∧ yy.cls ≠ "java/lang/invoke/VarHandle" ∧ (parseMethodDescriptor yy.desc).map (fun d => d.parameters.length) = some n) (hR : fr + 1 ≤ R.frames ∧ 8 + (maxL + 11) + lo ≤ R.locals) (hP : gk_P (ly_D y) A G H) (hS : va_S A s.heap H locs)
    (hn : As.length = n) (hsz : ls.size = nL) (hst : st0 = As.reverse ++ .ref b :: rest) (hW : (rest.map fun v => v.category).sum ≤ 8) (hdg : decode cc pc = .ok (.invokespecial index, 3)) (hf : cells + mc ≤ R.cells ∧ slots + ms ≤ R.slots)
    (kk : ∀ (v : Option Value) (G1 : gk_G) (H1 : Heap) (locs1 : List Loc), post v G1 → gk_P (ly_D y) A G1 H1 → va_S A s.heap H1 locs1 → W p l e R s m args below meth c H1 locs1 (cells + mc) (slots + ms) Q (F0 m (pc + 3) ls (gk_pu v rest))) : W p l e R s m args below meth c H locs cells slots Q (F0 m pc ls st0) :=
  gk_back0 (va_runI (As := As) (rest := rest) (gk_fix hK.1 hK.2.1) hM (cwI n hK.1.2.2.2 (gk_gC hw) rfl rfl rfl (hK.1.2.2.2 _ hini) (hK.1.2.2.2 _ hl) (hK.1.2.2.2 _ hin) hy1 hd hR) (gk_preS hK.2.2.1 hP hS hK.2.2.2 (.ref b :: As)) rfl hn hsz hst (lv_room hW) hdg hf) hS kk
/-- a private constructor of a nest mate -/
theorem gk_callIN {host : String} (hK : gk_K p s m c args cc own nL y A) (hM : gk_M0 l yy (.code yy bytes maxL none) fr lo mc ms y A (.ref b :: As) G post) (hw : Cond.code yy bytes maxL none ∈ wsL_law) (hini : Cond.initialized yy.cls ∈ wsL_law) (hl : va_Nw (.methodLinkNest own index yy host) s) (hin : Cond.instanceMethod yy ∈ wsL_law) (hy1 : yy.name = "<init>") (hd : yy.cls ≠ "java/lang/invoke/MethodHandle" ∧ yy.cls ≠ "java/lang/invoke/VarHandle" ∧ (parseMethodDescriptor yy.desc).map (fun d => d.parameters.length) = some n) (hR : fr + 1 ≤ R.frames ∧ 8 + (maxL + 11) + lo ≤ R.locals) (hP : gk_P (ly_D y) A G H) (hS : va_S A s.heap H locs)
    (hn : As.length = n) (hsz : ls.size = nL) (hst : st0 = As.reverse ++ .ref b :: rest) (hW : (rest.map fun v => v.category).sum ≤ 8) (hdg : decode cc pc = .ok (.invokespecial index, 3)) (hf : cells + mc ≤ R.cells ∧ slots + ms ≤ R.slots)
    (kk : ∀ (v : Option Value) (G1 : gk_G) (H1 : Heap) (locs1 : List Loc), post v G1 → gk_P (ly_D y) A G1 H1 → va_S A s.heap H1 locs1 → W p l e R s m args below meth c H1 locs1 (cells + mc) (slots + ms) Q (F0 m (pc + 3) ls (gk_pu v rest))) : W p l e R s m args below meth c H locs cells slots Q (F0 m pc ls st0) :=
  gk_back0 (va_runIN (As := As) (rest := rest) (gk_fix hK.1 hK.2.1) hM ⟨va_cnB n hK.1.2.2.2 (gk_gC hw) rfl rfl rfl hl (hK.1.2.2.2 _ hini) hd hR, hy1, hK.1.2.2.2 _ hin⟩ (gk_preS hK.2.2.1 hP hS hK.2.2.2 (.ref b :: As)) rfl hn hsz hst (lv_room hW) hdg hf) hS kk
theorem gk_throwS {text cls : String} {names : List String} {ik is ic sa : Nat} {Qc : Array Value → State → Outcome → State → Prop} (hK : gk_K p s m c args cc own nL y A) (hl : l.stackTraces = false) (hcls : Bundle.fit cls = true) (hnames : ∀ n ∈ names, Bundle.fit n = true) (hk : Cond.classLink own ik cls ∈ wsL_law) (hini : Cond.initialized cls ∈ wsL_law) (hstr : vk_R own is text sa s) (hat : ∀ w ∈ vx_atS own ic cls names, w.before args s = true) (hgood : ∀ w ∈ vx_atS own ic cls names, vx_ot w = true)
    (hP : gk_P (ly_D y) A G H) (hS : va_S A s.heap H locs) (hsize : ls.size = nL) (hex : ∀ x ∈ c.exceptionTable.toList, False) (hlocks : meth.locks = false)
    (d0 : decode cc pc = .ok (.new ik, 3)) (d3 : decode cc (pc + 3) = .ok (.dup, 1)) (d4 : decode cc (pc + 4) = .ok (.ldc is, 2)) (d6 : decode cc (pc + 6) = .ok (.invokespecial ic, 3)) (d9 : decode cc (pc + 9) = .ok (.athrow, 1))
    (hRframes : names.length + 3 < R.frames) (hRlocals : (rest.map fun v => v.category).sum + (13 * (names.length + 1) + 43) ≤ R.locals) (hRcells : cells + 1 ≤ R.cells) (hRslots : slots + 6 ≤ R.slots) (hc : cells + 1 ≤ mc) (hs : slots + 6 ≤ ms) (hx : px cls G) :
    W p l e R s m args below meth c H locs cells slots (vx_MQ below Qc (gk_X y A px) args s mc ms A) (F0 m pc ls rest) := by
  obtain ⟨hC, hml, hV, hA⟩ := hK
  refine vx_throwS hC.1 hC.2.1 hl hC.2.2.1 hcls hnames (hC.2.2.2 _ hk) (hC.2.2.2 _ hini) hstr hat (fun w hw => ?_) hV.2.2.2.1 hV.2.2.2.2.1 hS (hsize.trans hml.symm) d0 d3 d4 d6 d9 (fun x hx => (hex x hx).elim) hRframes hRlocals hRcells hRslots hlocks (fun t hal hz hq => ⟨⟨G, hx, fun a e hG => ⟨(hP a e hG).1, (hP a e hG).2.kept (hq a (gk_lt hP hG))⟩⟩, ⟨Nat.le_trans hS.1 hz, fun q h1 h2 => (hq q (Nat.lt_of_lt_of_le h1 hS.1)).trans (hS.2.1 q h1 h2)⟩⟩) hS.2.2 hc hs
  rcases List.mem_cons.mp hw with h | hw
  · rw [h]; rfl
  · rcases List.mem_cons.mp hw with h | hw
    · rw [h]; rfl
    · exact hgood w hw
/-- out of a method with no table: what a callee threw goes on -/
theorem gk_out {Qc : Array Value → State → Outcome → State → Prop} {E : String} {ce : Cell} {q9 : Addr} (hex : ∀ x ∈ c.exceptionTable.toList, False) (hlocks : meth.locks = false) (hP : gk_P (ly_D y) A G H) (hS : va_S A s.heap H locs) (h1 : H[q9]? = some ce) (h2 : ce.vm = .none) (h3 : s.vm.findClass E = some ce.cls) (hx : px E G) (hc : cells ≤ mc) (hs : slots ≤ ms) :
    vx_W p l e R s m args below meth c H locs cells slots (vx_MQ below Qc (gk_X y A px) args s mc ms A) (F0 m pc ls rest) q9 :=
  vx_out (fun x hx => (hex x hx).elim) hlocks h1 h2 h3 (fun t ht _ => ⟨⟨G, hx, by rw [ht]; exact hP⟩, hS.F ht⟩) hS.2.2 hc hs
theorem gk_iret0 {v : Int32} (hC : gk_C p s m c args cc own) (hr : meth.sig.returnType = some .int) (hlocks : meth.locks = false) (hP : gk_P (ly_D y) A G H) (hS : va_S A s.heap H locs) (hc : cells ≤ mc) (hs : slots ≤ ms) (hdg : decode cc pc = .ok (.ireturn, 1)) (hp : post (some (.int v)) G) : W p l e R s m args below meth c H locs cells slots (MQ below (gk_Q y A post) args s mc ms A) (F0 m pc ls [.int v]) :=
  W.widen hc hs (W.iret (v := v) hC.1 hC.2.1 hr (fun t ht _ => ⟨⟨some (.int v), G, rfl, hp, by rw [ht]; exact hP⟩, hS.F ht⟩) hS.2.2 hdg hlocks)
theorem gk_zret0 {v : Int32} (hC : gk_C p s m c args cc own) (hr : meth.sig.returnType = some .boolean) (hb : narrow .boolean (.int v) = .int v) (hlocks : meth.locks = false) (hP : gk_P (ly_D y) A G H) (hS : va_S A s.heap H locs) (hc : cells ≤ mc) (hs : slots ≤ ms) (hdg : decode cc pc = .ok (.ireturn, 1)) (hp : post (some (.int v)) G) : W p l e R s m args below meth c H locs cells slots (MQ below (gk_Q y A post) args s mc ms A) (F0 m pc ls [.int v]) :=
  W.widen hc hs (W.zret (v := v) hC.1 hC.2.1 hr hb (fun t ht _ => ⟨⟨some (.int v), G, rfl, hp, by rw [ht]; exact hP⟩, hS.F ht⟩) hS.2.2 hdg hlocks)
theorem gk_vret0 (hC : gk_C p s m c args cc own) (hr : meth.sig.returnType = none) (hlocks : meth.locks = false) (hP : gk_P (ly_D y) A G H) (hS : va_S A s.heap H locs) (hc : cells ≤ mc) (hs : slots ≤ ms) (hdg : decode cc pc = .ok (.return_, 1)) (hp : post none G) : W p l e R s m args below meth c H locs cells slots (MQ below (gk_Q y A post) args s mc ms A) (F0 m pc ls []) :=
  W.widen hc hs (W.vret hC.1 hC.2.1 hr (fun t ht _ => ⟨⟨none, G, rfl, hp, by rw [ht]; exact hP⟩, hS.F ht⟩) hS.2.2 hdg hlocks)
theorem gk_aret0 {v : Value} {rt : FieldType} (hC : gk_C p s m c args cc own) (hr : meth.sig.returnType = some rt) (hrt : (∃ n, rt = .object n) ∨ ∃ t, rt = .array t) (hv : v = .null ∨ ∃ a, v = .ref a) (hlocks : meth.locks = false) (hP : gk_P (ly_D y) A G H) (hS : va_S A s.heap H locs) (hc : cells ≤ mc) (hs : slots ≤ ms) (hdg : decode cc pc = .ok (.areturn, 1)) (hp : post (some v) G) : W p l e R s m args below meth c H locs cells slots (MQ below (gk_Q y A post) args s mc ms A) (F0 m pc ls [v]) :=
  W.widen hc hs (W.aret (v := v) hC.1 hC.2.1 hr hrt hv (fun t ht _ => ⟨⟨some v, G, rfl, hp, by rw [ht]; exact hP⟩, hS.F ht⟩) hS.2.2 hdg hlocks)
/-- the start of a method -/
theorem gk_of0 {w : Cond} {av : List Value} (hy : plainFor yy = true) (hw : w = .code yy cc maxL ret) (ho : yy.cls = own) (hlen : (lg_sl av).length ≤ maxL)
    (body : ∀ (p : Program) (e : Env) (s : State) (m : MethodId) (below : List Frame) (meth : Method) (c : Code) (ls : Array Slot), gk_K p s m c av.toArray cc own maxL y A → meth.sig.returnType = ret → meth.locks = false → meth.name = yy.name → gk_P (ly_D y) A G s.heap → va_S A s.heap s.heap [] → lv_has ls maxL (lv_args 0 av) →
      W p l e { frames := fr, cells := mc, slots := ms, locals := lo } s m av.toArray below meth c s.heap [] 0 0 (MQ below (gk_Q y A post) av.toArray s mc ms A) (F0 m 0 ls [])) : gk_M0 l yy w fr lo mc ms y A av G post := by
  subst hw
  refine va_MetF hy rfl ?_
  intro p e s m args below meth c s₁ B hml hv
  obtain ⟨rfl, hA, hV, hP⟩ := hv
  have hts := atoms_spec (ws := Cond.code yy cc maxL ret :: wsL_law) B.pre
  rw [lg_entry_eq]
  refine body p e s m below meth c _ ⟨⟨B.exec, B.bytes, ?_, fun w hw => hts w (List.mem_cons_of_mem _ hw)⟩, hml, hV, hA⟩ B.returns B.notSynchronized (name_of_methodNamed B.named B.method).1 hP va_S.rf (lv_entry av hlen)
  rw [← ho]
  exact findClass_of_methodNamed B.named
theorem gk_ofW {w : Cond} {av : List Value} {hh : List (Nat × Nat × Nat × Nat)} (hy : plainName yy.cls = true) (hw : w = .codeWith yy cc maxL ret hh) (ho : yy.cls = own) (hlen : (lg_sl av).length ≤ maxL)
    (body : ∀ (p : Program) (e : Env) (s : State) (m : MethodId) (below : List Frame) (meth : Method) (c : Code) (ls : Array Slot), gk_K p s m c av.toArray cc own maxL y A → meth.sig.returnType = ret → meth.locks = false → c.exceptionTable.toList = tableOf hh → gk_P (ly_D y) A G s.heap → va_S A s.heap s.heap [] → lv_has ls maxL (lv_args 0 av) →
      W p l e { frames := fr, cells := mc, slots := ms, locals := lo } s m av.toArray below meth c s.heap [] 0 0 (MQ below (gk_Q y A post) av.toArray s mc ms A) (F0 m 0 ls [])) : gk_M0 l yy w fr lo mc ms y A av G post := by
  subst hw
  refine va_MetW hy rfl ?_
  intro p e s m args below meth c s₁ B hml hv
  obtain ⟨rfl, hA, hV, hP⟩ := hv
  have hts := atoms_spec (ws := Cond.codeWith yy cc maxL ret hh :: wsL_law) B.pre
  rw [lg_entry_eq]
  refine body p e s m below meth c _ ⟨⟨B.exec, B.bytes, ?_, fun w hw => hts w (List.mem_cons_of_mem _ hw)⟩, hml, hV, hA⟩ B.returns B.notSynchronized (vx_table (x := yy) B (hts _ List.mem_cons_self)) hP va_S.rf (lv_entry av hlen)
  rw [← ho]
  exact findClass_of_methodNamed B.named
theorem gk_ofX {w : Cond} {av : List Value} (hy : plainName yy.cls = true) (hw : w = .code yy cc maxL ret) (ho : yy.cls = own) (hlen : (lg_sl av).length ≤ maxL)
    (body : ∀ (p : Program) (e : Env) (s : State) (m : MethodId) (below : List Frame) (meth : Method) (c : Code) (ls : Array Slot), gk_K p s m c av.toArray cc own maxL y A → meth.sig.returnType = ret → meth.locks = false → (∀ x ∈ c.exceptionTable.toList, False) → gk_P (ly_D y) A G s.heap → va_S A s.heap s.heap [] → lv_has ls maxL (lv_args 0 av) →
      W p l e { frames := fr, cells := mc, slots := ms, locals := lo } s m av.toArray below meth c s.heap [] 0 0 (vx_MQ below (gk_Q y A post) (gk_X y A px) av.toArray s mc ms A) (F0 m 0 ls [])) : gk_M l yy w fr lo mc ms y A av G post px := by
  subst hw
  refine vx_ofW hy rfl ?_
  intro p e s m args below meth c s₁ B hml hex hv
  obtain ⟨rfl, hA, hV, hP⟩ := hv
  have hts := atoms_spec (ws := Cond.code yy cc maxL ret :: wsL_law) B.pre
  rw [lg_entry_eq]
  refine body p e s m below meth c _ ⟨⟨B.exec, B.bytes, ?_, fun w hw => hts w (List.mem_cons_of_mem _ hw)⟩, hml, hV, hA⟩ B.returns B.notSynchronized hex hP va_S.rf (lv_entry av hlen)
  rw [← ho]
  exact findClass_of_methodNamed B.named
end GKC
end
section
/-! the three ways in which the class throws -/
abbrev gk_nms : List String := ["java/lang/RuntimeException", "java/lang/Exception"]
def gk_xB (X : String) : List Cond := [Cond.castable X X, Cond.declares (Bundle.initS "java/lang/RuntimeException"), Cond.declares (Bundle.initS "java/lang/Exception"), Cond.declares (Bundle.initS Bundle.tN)]
theorem gk_xin0 : ∀ w ∈ (vx_atS RX4 172 "java/lang/IndexOutOfBoundsException" gk_nms).filter goodWord, w ∈ wsL_law := fun w h => by simp only [wsL_law, List.mem_append, h, true_or, or_true]
theorem gk_xin1 : ∀ w ∈ (vx_atS RX4 187 "java/lang/IllegalArgumentException" gk_nms).filter goodWord, w ∈ wsL_law := fun w h => by simp only [wsL_law, List.mem_append, h, true_or, or_true]
theorem gk_xin2 : ∀ w ∈ (vx_atS RX4 101 "java/lang/IllegalStateException" gk_nms).filter goodWord, w ∈ wsL_law := fun w h => by simp only [wsL_law, List.mem_append, h, true_or, or_true]
theorem gk_xno0 : ∀ w ∈ (vx_atS RX4 172 "java/lang/IndexOutOfBoundsException" gk_nms).filter (fun w => !goodWord w), w ∈ gk_xB "java/lang/IndexOutOfBoundsException" := by decide +kernel
theorem gk_xno1 : ∀ w ∈ (vx_atS RX4 187 "java/lang/IllegalArgumentException" gk_nms).filter (fun w => !goodWord w), w ∈ gk_xB "java/lang/IllegalArgumentException" := by decide +kernel
theorem gk_xno2 : ∀ w ∈ (vx_atS RX4 101 "java/lang/IllegalStateException" gk_nms).filter (fun w => !goodWord w), w ∈ gk_xB "java/lang/IllegalStateException" := by decide +kernel
theorem gk_xot0 : ∀ w ∈ vx_atS RX4 172 "java/lang/IndexOutOfBoundsException" gk_nms, vx_ot w = true := List.all_eq_true.mp (by decide +kernel)
theorem gk_xot1 : ∀ w ∈ vx_atS RX4 187 "java/lang/IllegalArgumentException" gk_nms, vx_ot w = true := List.all_eq_true.mp (by decide +kernel)
theorem gk_xot2 : ∀ w ∈ vx_atS RX4 101 "java/lang/IllegalStateException" gk_nms, vx_ot w = true := List.all_eq_true.mp (by decide +kernel)
theorem gk_nmsf : ∀ n ∈ gk_nms, Bundle.fit n = true := by decide +kernel
theorem gk_xBo {X : String} {y : ly_T} {A : Nat → Prop} {s : State} {args : Array Value} (hV : gk_V y A s) (hX : (Cond.castable X X).before #[] s = true) : ∀ w ∈ gk_xB X, w.before args s = true := by
  obtain ⟨d1, d2, d3⟩ := hV.2.2.1.2.2.2.2.2
  exact vx_c (gk_castU hX) (vx_c (va_Nw.use rfl d1) (vx_c (va_Nw.use rfl d2) (vx_c (va_Nw.use rfl d3) vx_n)))
section GKX
variable {p : Program} {l : Launch} {e : Env} {R : Room} {s : State} {m : MethodId} {args : Array Value} {below : List Frame} {meth : Method} {c : Code} {H : Heap} {locs : List Loc} {cells slots : Nat}
variable {cc : ByteArray} {pc : Nat} {ls : Array Slot} {rest : List Value} {A : Nat → Prop} {G : gk_G} {y : ly_T} {mc ms nL : Nat} {px : String → gk_G → Prop} {text : String} {is sa : Nat} {Qc : Array Value → State → Outcome → State → Prop}
theorem gk_thr0 (hK : gk_K p s m c args cc RX4 nL y A) (hl : l.stackTraces = false) (hstr : vk_R RX4 is text sa s) (hP : gk_P (ly_D y) A G H) (hS : va_S A s.heap H locs) (hsize : ls.size = nL) (hex : ∀ x ∈ c.exceptionTable.toList, False) (hlocks : meth.locks = false)
    (d0 : decode cc pc = .ok (.new 168, 3)) (d3 : decode cc (pc + 3) = .ok (.dup, 1)) (d4 : decode cc (pc + 4) = .ok (.ldc is, 2)) (d6 : decode cc (pc + 6) = .ok (.invokespecial 172, 3)) (d9 : decode cc (pc + 9) = .ok (.athrow, 1))
    (hR : 5 < R.frames ∧ (rest.map fun v => v.category).sum + 82 ≤ R.locals ∧ cells + 1 ≤ R.cells ∧ slots + 6 ≤ R.slots) (hc : cells + 1 ≤ mc ∧ slots + 6 ≤ ms) (hx : px "java/lang/IndexOutOfBoundsException" G) :
    W p l e R s m args below meth c H locs cells slots (vx_MQ below Qc (gk_X y A px) args s mc ms A) (F0 m pc ls rest) :=
  gk_throwS (names := gk_nms) hK hl (by decide +kernel) gk_nmsf q_5_16 q_5_17 hstr
    (vx_hat (fun w hw => hK.1.2.2.2 w (gk_xin0 w hw)) gk_xno0 (gk_xBo hK.2.2.1 hK.2.2.1.2.2.1.2.2.2.1.1)) gk_xot0 hP hS hsize hex hlocks d0 d3 d4 d6 d9 hR.1 hR.2.1 hR.2.2.1 hR.2.2.2 hc.1 hc.2 hx
theorem gk_thr1 (hK : gk_K p s m c args cc RX4 nL y A) (hl : l.stackTraces = false) (hstr : vk_R RX4 is text sa s) (hP : gk_P (ly_D y) A G H) (hS : va_S A s.heap H locs) (hsize : ls.size = nL) (hex : ∀ x ∈ c.exceptionTable.toList, False) (hlocks : meth.locks = false)
    (d0 : decode cc pc = .ok (.new 183, 3)) (d3 : decode cc (pc + 3) = .ok (.dup, 1)) (d4 : decode cc (pc + 4) = .ok (.ldc is, 2)) (d6 : decode cc (pc + 6) = .ok (.invokespecial 187, 3)) (d9 : decode cc (pc + 9) = .ok (.athrow, 1))
    (hR : 5 < R.frames ∧ (rest.map fun v => v.category).sum + 82 ≤ R.locals ∧ cells + 1 ≤ R.cells ∧ slots + 6 ≤ R.slots) (hc : cells + 1 ≤ mc ∧ slots + 6 ≤ ms) (hx : px "java/lang/IllegalArgumentException" G) :
    W p l e R s m args below meth c H locs cells slots (vx_MQ below Qc (gk_X y A px) args s mc ms A) (F0 m pc ls rest) :=
  gk_throwS (names := gk_nms) hK hl (by decide +kernel) gk_nmsf q_5_21 q_5_22 hstr
    (vx_hat (fun w hw => hK.1.2.2.2 w (gk_xin1 w hw)) gk_xno1 (gk_xBo hK.2.2.1 hK.2.2.1.2.2.1.2.2.2.1.2.1)) gk_xot1 hP hS hsize hex hlocks d0 d3 d4 d6 d9 hR.1 hR.2.1 hR.2.2.1 hR.2.2.2 hc.1 hc.2 hx
theorem gk_thr2 (hK : gk_K p s m c args cc RX4 nL y A) (hl : l.stackTraces = false) (hstr : vk_R RX4 is text sa s) (hP : gk_P (ly_D y) A G H) (hS : va_S A s.heap H locs) (hsize : ls.size = nL) (hex : ∀ x ∈ c.exceptionTable.toList, False) (hlocks : meth.locks = false)
    (d0 : decode cc pc = .ok (.new 97, 3)) (d3 : decode cc (pc + 3) = .ok (.dup, 1)) (d4 : decode cc (pc + 4) = .ok (.ldc is, 2)) (d6 : decode cc (pc + 6) = .ok (.invokespecial 101, 3)) (d9 : decode cc (pc + 9) = .ok (.athrow, 1))
    (hR : 5 < R.frames ∧ (rest.map fun v => v.category).sum + 82 ≤ R.locals ∧ cells + 1 ≤ R.cells ∧ slots + 6 ≤ R.slots) (hc : cells + 1 ≤ mc ∧ slots + 6 ≤ ms) (hx : px "java/lang/IllegalStateException" G) :
    W p l e R s m args below meth c H locs cells slots (vx_MQ below Qc (gk_X y A px) args s mc ms A) (F0 m pc ls rest) :=
  gk_throwS (names := gk_nms) hK hl (by decide +kernel) gk_nmsf q_9_22 q_9_23 hstr
    (vx_hat (fun w hw => hK.1.2.2.2 w (gk_xin2 w hw)) gk_xno2 (gk_xBo hK.2.2.1 hK.2.2.1.2.2.1.2.2.2.1.2.2.1)) gk_xot2 hP hS hsize hex hlocks d0 d3 d4 d6 d9 hR.1 hR.2.1 hR.2.2.1 hR.2.2.2 hc.1 hc.2 hx
end GKX
end
section
/-! WHAT THE MAP HOLDS: the class's objects (main, rules, files, holders, lists, parts), the law's own row of one long, the reference's object and arrays. -/
abbrev rp_r (c : ClassId) (n : Nat) (g : Nat → Option Nat) : va_E := .inl (c, n, .inr (.inr (.inr (.inr g))))
abbrev rp_i (c : ClassId) (n : Nat) (f : Nat → Int32) : va_E := .inl (c, n, .inl f)
abbrev rp_j (c : ClassId) (n : Nat) (f : Nat → Int64) : va_E := .inl (c, n, .inr (.inl f))
def rp_kd : va_E → Nat
  | .inr o => o.1
  | .inl (_, _, .inl _) => 10
  | .inl (_, _, .inr (.inl _)) => 11
  | .inl (_, _, .inr (.inr (.inl _))) => 12
  | .inl (_, _, .inr (.inr (.inr (.inl _)))) => 13
  | .inl (_, _, .inr (.inr (.inr (.inr _)))) => 14
/-- at a there is nothing of kind k -/
def rp_off (G : gk_G) (a k : Nat) : Prop := ∀ e, G a = some e → rp_kd e ≠ k
theorem rp_off_of {G : gk_G} {a k : Nat} {e : va_E} (h : G a = some e) (hk : rp_kd e ≠ k) : rp_off G a k := fun e2 h2 => by
  rw [h] at h2
  cases h2
  exact hk
theorem rp_off_n {G : gk_G} {a k : Nat} (h : G a = none) : rp_off G a k := fun e2 h2 => by
  rw [h] at h2
  cases h2
theorem rp_up {G : gk_G} {a b : Nat} {e eb : va_E} (h : G b = some eb) (ho : rp_off G a (rp_kd eb)) : gk_up G a e b = some eb := by
  rw [gk_un G e (fun q => by subst q; exact ho eb h rfl)]
  exact h
def rpA (y : ly_T) (G : gk_G) (td : Int32) : Prop := G (ly_a y 0) = some (.inr (5, [.ref (ly_a y 1), .ref (ly_a y 2), .ref (ly_a y 3), .int td]))
def rpB (y : ly_T) (G : gk_G) : Prop := (∃ g, G (ly_a y 1) = some (rp_r (ly_k y 3) 3 g) ∧ ∀ r, r < 3 → g r = some (ly_f y 0 r)) ∧ (∃ g, G (ly_a y 2) = some (rp_r (ly_k y 4) 5 g) ∧ ∀ f, f < 5 → g f = some (ly_f y 1 f)) ∧ (∃ g, G (ly_a y 3) = some (rp_r (ly_k y 5) 4 g) ∧ ∀ h, h < 4 → g h = some (ly_f y 2 h))
def rp_eR (ru : Nat → Nat → Int32) (r : Nat) : va_E := .inr (4, [.int (nI r), .int (ru r 1), .int (ru r 2), .int (ru r 3), .int (ru r 4), .int (ru r 5), .int (ru r 6), .int (ru r 7), .int (ru r 8), .int (ru r 9)])
def rpR (y : ly_T) (G : gk_G) (ru : Nat → Nat → Int32) : Prop := ∀ r, r < 3 → G (ly_f y 0 r) = some (rp_eR ru r)
def rp_eF (y : ly_T) (fr lv : Nat → Nat) (lt et tl : Nat → Int32) (f : Nat) : va_E := .inr (2, [.int (nI f), .ref (ly_f y 3 f), .ref (ly_f y 0 (fr f)), .ref (lv f), .int (lt f), .int (et f), .int (tl f)])
def rpF (y : ly_T) (G : gk_G) (fr lv : Nat → Nat) (lt et tl : Nat → Int32) : Prop := ∀ f, f < 5 → fr f < 3 ∧ G (ly_f y 1 f) = some (rp_eF y fr lv lt et tl f)
def rp_eH (y : ly_T) (hf hp : Nat → Option Nat) (h : Nat) : va_E := .inr (1, [va_rf ((hf h).map (ly_f y 1)), va_rf (hp h)])
def rpH (y : ly_T) (G : gk_G) (hf hp : Nat → Option Nat) : Prop := (∀ h, h < 4 → (∀ f, hf h = some f → f < 5) ∧ G (ly_f y 2 h) = some (rp_eH y hf hp h)) ∧ ∀ h k, h < 4 → k < 4 → ly_f y 2 h = ly_f y 2 k → h = k
def rp_eS (pf : Nat → Nat → Int32) (t : Nat) : va_E := .inr (3, [.int (pf 0 t), .int (pf 1 t), .int (pf 2 t)])
def rpS (G : gk_G) (PS : Nat → Prop) (pf : Nat → Nat → Int32) : Prop := ∀ t, PS t → G t = some (rp_eS pf t)
def rpO (y : ly_T) (G : gk_G) (ov : Int64) : Prop := ∃ f, G (ly_a y 4) = some (rp_j (ly_k y 2) 1 f) ∧ f 0 = ov
def rp_list (y : ly_T) (G : gk_G) (ea : Nat) (l : List Nat) : Prop := l.length ≤ 1000 ∧ (ea ≠ ly_a y 1 ∧ ea ≠ ly_a y 2 ∧ ea ≠ ly_a y 3) ∧ ((l = [] ∧ ea = ly_a y 6) ∨ ∃ cap g, G ea = some (rp_r (ly_k y 6) cap g) ∧ cap ≤ 1500 ∧ l.length ≤ cap ∧ 0 < cap ∧ ∀ k, k < l.length → g k = l[k]?)
def rpL (y : ly_T) (G : gk_G) (ol : Nat → List Nat) : Prop := (∃ (ea : Nat → Nat) (mc : Nat → Int32), (∀ f, f < 5 → G (ly_f y 3 f) = some (.inr (0, [.int (mc f), .ref (ea f), .int (nI (ol f).length)])) ∧ rp_list y G (ea f) (ol f)) ∧ ∀ f k, f < 5 → k < 5 → f ≠ k → ea f = ea k → ea f = ly_a y 6) ∧ ∀ f k, f < 5 → k < 5 → ly_f y 3 f = ly_f y 3 k → f = k
def mv_c (y : ly_T) (k : Nat) : ClassId := if k = 6 ∨ k = 7 ∨ k = 8 ∨ k = 12 ∨ k = 17 then ly_k y 1 else ly_k y 0
def mv_n (k : Nat) : Nat := if k < 9 then 3 else if k < 14 then 5 else if k < 18 then 4096 else 4
def rp_eM (y : ly_T) (md mq mt : Int32) : va_E := .inr (6, [.int md, .ref (ly_f y 4 0), .ref (ly_f y 4 1), .ref (ly_f y 4 2), .ref (ly_f y 4 3), .ref (ly_f y 4 4), .ref (ly_f y 4 5), .ref (ly_f y 4 6), .ref (ly_f y 4 7), .ref (ly_f y 4 8), .ref (ly_f y 4 9), .ref (ly_f y 4 10), .ref (ly_f y 4 11), .ref (ly_f y 4 12), .ref (ly_f y 4 13), .int mq, .ref (ly_f y 4 14), .ref (ly_f y 4 15), .ref (ly_f y 4 16), .ref (ly_f y 4 17), .ref (ly_f y 4 18), .ref (ly_f y 4 19), .int mt])
def rpM (y : ly_T) (G : gk_G) (md mq mt : Int32) (mv : Nat → Nat → Int32) : Prop := G (ly_a y 5) = some (rp_eM y md mq mt) ∧ (∀ k, k < 20 → G (ly_f y 4 k) = some (rp_i (mv_c y k) (mv_n k) (mv k))) ∧ ∀ j k, j < 20 → k < 20 → ly_f y 4 j = ly_f y 4 k → j = k
/-- all of it -/
def rp (y : ly_T) (G : gk_G) (td : Int32) (ru : Nat → Nat → Int32) (fr lv : Nat → Nat) (lt et tl : Nat → Int32) (hf hp : Nat → Option Nat) (ol : Nat → List Nat) (PS : Nat → Prop) (pf : Nat → Nat → Int32) (ov : Int64) (md mq mt : Int32) (mv : Nat → Nat → Int32) : Prop :=
  rpA y G td ∧ rpB y G ∧ rpR y G ru ∧ rpF y G fr lv lt et tl ∧ rpH y G hf hp ∧ rpL y G ol ∧ rpS G PS pf ∧ rpO y G ov ∧ rpM y G md mq mt mv
section RPK
variable {y : ly_T} {G : gk_G} {a : Nat} {e : va_E} {td : Int32} {ru : Nat → Nat → Int32} {fr lv : Nat → Nat} {lt et tl : Nat → Int32} {hf hp : Nat → Option Nat} {ol : Nat → List Nat} {PS : Nat → Prop} {pf : Nat → Nat → Int32} {ov : Int64} {md mq mt : Int32} {mv : Nat → Nat → Int32}
theorem rpA_keep (h : rpA y G td) (ho : rp_off G a 5) : rpA y (gk_up G a e) td := rp_up h ho
theorem rpB_keepN (h : rpB y G) (ho : a ≠ ly_a y 1 ∧ a ≠ ly_a y 2 ∧ a ≠ ly_a y 3) : rpB y (gk_up G a e) := by
  obtain ⟨⟨g1, a1, b1⟩, ⟨g2, a2, b2⟩, g3, a3, b3⟩ := h
  exact ⟨⟨g1, by rw [gk_un _ _ (Ne.symm ho.1)]; exact a1, b1⟩, ⟨g2, by rw [gk_un _ _ (Ne.symm ho.2.1)]; exact a2, b2⟩, g3, by rw [gk_un _ _ (Ne.symm ho.2.2)]; exact a3, b3⟩
theorem rpB_keep (h : rpB y G) (ho : rp_off G a 14) : rpB y (gk_up G a e) := by
  obtain ⟨⟨g1, a1, b1⟩, ⟨g2, a2, b2⟩, g3, a3, b3⟩ := h
  exact ⟨⟨g1, rp_up a1 ho, b1⟩, ⟨g2, rp_up a2 ho, b2⟩, g3, rp_up a3 ho, b3⟩
theorem rpR_keep (h : rpR y G ru) (ho : rp_off G a 4) : rpR y (gk_up G a e) ru := fun r hr => rp_up (h r hr) ho
theorem rpF_keep (h : rpF y G fr lv lt et tl) (ho : rp_off G a 2) : rpF y (gk_up G a e) fr lv lt et tl := fun f hf => ⟨(h f hf).1, rp_up (h f hf).2 ho⟩
theorem rpH_keep (h : rpH y G hf hp) (ho : rp_off G a 1) : rpH y (gk_up G a e) hf hp := ⟨fun k hk => ⟨(h.1 k hk).1, rp_up (h.1 k hk).2 ho⟩, h.2⟩
theorem rpS_keep (h : rpS G PS pf) (ho : rp_off G a 3) : rpS (gk_up G a e) PS pf := fun t ht => rp_up (h t ht) ho
theorem rpO_keep (h : rpO y G ov) (ho : rp_off G a 11) : rpO y (gk_up G a e) ov := by
  obtain ⟨f, h1, h2⟩ := h
  exact ⟨f, rp_up h1 ho, h2⟩
theorem rp_list_keep {ea : Nat} {l : List Nat} (h : rp_list y G ea l) (ho : rp_off G a 14) : rp_list y (gk_up G a e) ea l := by
  obtain ⟨h1, h2, h3⟩ := h
  refine ⟨h1, h2, ?_⟩
  rcases h3 with h3 | ⟨cap, g, a1, a2⟩
  · exact Or.inl h3
  · exact Or.inr ⟨cap, g, rp_up a1 ho, a2⟩
theorem rpL_keep (h : rpL y G ol) (ho : rp_off G a 0) (ho2 : rp_off G a 14) : rpL y (gk_up G a e) ol := by
  obtain ⟨⟨ea, mc, h1, h2⟩, h3⟩ := h
  exact ⟨⟨ea, mc, fun f hf => ⟨rp_up (h1 f hf).1 ho, rp_list_keep (h1 f hf).2 ho2⟩, h2⟩, h3⟩
theorem rpM_keep (h : rpM y G md mq mt mv) (ho : rp_off G a 6) (ho2 : rp_off G a 10) : rpM y (gk_up G a e) md mq mt mv := ⟨rp_up h.1 ho, fun k hk => rp_up (h.2.1 k hk) ho2, h.2.2⟩
theorem rpF_put (h : rpF y G fr lv lt et tl) {f : Nat} (hf5 : f < 5) {fr2 lv2 : Nat → Nat} {lt2 et2 tl2 : Nat → Int32} (h3 : fr2 f < 3) (he : e = rp_eF y fr2 lv2 lt2 et2 tl2 f) (hs : ∀ k, k ≠ f → fr2 k = fr k ∧ lv2 k = lv k ∧ lt2 k = lt k ∧ et2 k = et k ∧ tl2 k = tl k) : rpF y (gk_up G (ly_f y 1 f) e) fr2 lv2 lt2 et2 tl2 := by
  intro k hk
  by_cases hkf : k = f
  · subst hkf
    exact ⟨h3, by rw [gk_us, he]⟩
  · obtain ⟨a1, a2⟩ := h k hk
    obtain ⟨b1, b2, b3, b4, b5⟩ := hs k hkf
    have ne : ly_f y 1 k ≠ ly_f y 1 f := fun q => by
      have h1 := (h f hf5).2
      rw [← q, a2] at h1
      simp only [rp_eF, Option.some.injEq, Sum.inr.injEq, Prod.mk.injEq, List.cons.injEq, Value.int.injEq, true_and] at h1
      exact hkf ((nI_eq (by omega) (by omega)).mp h1.1)
    refine ⟨by rw [b1]; exact a1, ?_⟩
    rw [gk_un _ _ ne, a2]
    simp only [rp_eF, b1, b2, b3, b4, b5]
theorem rpR_put (h : rpR y G ru) {r : Nat} (hr : r < 3) {ru2 : Nat → Nat → Int32} (he : e = rp_eR ru2 r) (hs : ∀ k, k ≠ r → ru2 k = ru k) : rpR y (gk_up G (ly_f y 0 r) e) ru2 := by
  intro k hk
  by_cases hkr : k = r
  · subst hkr
    rw [gk_us, he]
  · have a2 := h k hk
    have ne : ly_f y 0 k ≠ ly_f y 0 r := fun q => by
      have h1 := h r hr
      rw [← q, a2] at h1
      simp only [rp_eR, Option.some.injEq, Sum.inr.injEq, Prod.mk.injEq, List.cons.injEq, Value.int.injEq, true_and] at h1
      exact hkr ((nI_eq (by omega) (by omega)).mp h1.1)
    rw [gk_un _ _ ne, a2]
    simp only [rp_eR, hs k hkr]
theorem rpH_put (h : rpH y G hf hp) {k : Nat} (hk : k < 4) {hf2 hp2 : Nat → Option Nat} (h5 : ∀ f, hf2 k = some f → f < 5) (he : e = rp_eH y hf2 hp2 k) (hs : ∀ j, j ≠ k → hf2 j = hf j ∧ hp2 j = hp j) : rpH y (gk_up G (ly_f y 2 k) e) hf2 hp2 := by
  refine ⟨fun j hj => ?_, h.2⟩
  by_cases hjk : j = k
  · subst hjk
    exact ⟨h5, by rw [gk_us, he]⟩
  · obtain ⟨a1, a2⟩ := h.1 j hj
    obtain ⟨b1, b2⟩ := hs j hjk
    refine ⟨by rw [b1]; exact a1, ?_⟩
    rw [gk_un _ _ (fun q => hjk (h.2 j k hj hk q)), a2]
    simp only [rp_eH, b1, b2]
theorem rpS_put (h : rpS G PS pf) {t : Nat} {pf2 : Nat → Nat → Int32} (he : e = rp_eS pf2 t) (hs : ∀ k j, j ≠ t → pf2 k j = pf k j) : rpS (gk_up G t e) PS pf2 := by
  intro j hj
  by_cases hjt : j = t
  · subst hjt
    rw [gk_us, he]
  · rw [gk_un _ _ hjt, h j hj]
    simp only [rp_eS, hs _ j hjt]
theorem rpM_putv (h : rpM y G md mq mt mv) {k : Nat} (hk : k < 20) {mv2 : Nat → Nat → Int32} (he : e = rp_i (mv_c y k) (mv_n k) (mv2 k)) (hs : ∀ j, j ≠ k → mv2 j = mv j) : rpM y (gk_up G (ly_f y 4 k) e) md mq mt mv2 := by
  refine ⟨rp_up h.1 (rp_off_of (h.2.1 k hk) (by show 10 ≠ 6; decide)), fun j hj => ?_, h.2.2⟩
  by_cases hjk : j = k
  · subst hjk
    rw [gk_us, he]
  · rw [gk_un _ _ (fun q => hjk (h.2.2 j k hj hk q)), h.2.1 j hj, hs j hjk]
theorem rpM_puto (h : rpM y G md mq mt mv) {md2 mq2 mt2 : Int32} (he : e = rp_eM y md2 mq2 mt2) : rpM y (gk_up G (ly_a y 5) e) md2 mq2 mt2 mv :=
  ⟨by rw [gk_us, he], fun j hj => rp_up (h.2.1 j hj) (rp_off_of h.1 (by show 6 ≠ 10; decide)), h.2.2⟩
end RPK
end
section
/-! rows over 'rp': reading and writing the fields and rows of the class and of the reference -/
def rp_u2 (f : Nat → Nat → Int32) (a b : Nat) (v : Int32) : Nat → Nat → Int32 := fun i j => if i = a ∧ j = b then v else f i j
theorem rp_u2s (f : Nat → Nat → Int32) (a b : Nat) (v : Int32) : rp_u2 f a b v a b = v := by simp [rp_u2]
theorem rp_u2n (f : Nat → Nat → Int32) {a b i j : Nat} (v : Int32) (h : ¬ (i = a ∧ j = b)) : rp_u2 f a b v i j = f i j := by simp [rp_u2, h]
theorem rp_nz {v : Int32} (h : v = 0 ∨ v = 1) : narrow .boolean (.int v) = .int v ∧ fits .boolean (.int v) = true ∧ vp_nar .boolean v = v := by
  rcases h with rfl | rfl <;> exact ⟨by decide, by decide, by decide⟩
theorem rp_nq {o : Option Nat} {C : String} : narrow (.object C) (va_rf o) = va_rf o ∧ fits (.object C) (va_rf o) = true := by cases o <;> exact ⟨rfl, rfl⟩
section RPW
variable {p : Program} {l : Launch} {e : Env} {R : Room} {s : State} {m : MethodId} {args : Array Value} {below : List Frame} {meth : Method} {c : Code} {H : Heap} {locs : List Loc} {cells slots : Nat} {Q : State → Prop}
variable {cc : ByteArray} {pc : Nat} {ls : Array Slot} {rest : List Value} {A : Nat → Prop} {G : gk_G} {y : ly_T} {nL : Nat} {own : String}
variable {td : Int32} {ru : Nat → Nat → Int32} {fr lv : Nat → Nat} {lt et tl : Nat → Int32} {hf hp : Nat → Option Nat} {ol : Nat → List Nat} {PS : Nat → Prop} {pf : Nat → Nat → Int32} {ov : Int64} {md mq mt : Int32} {mv : Nat → Nat → Int32}
theorem tr_11 (hK : gk_K p s m c args cc RX4 nL y A) (hP : gk_P (ly_D y) A G H) (hR : rp y G td ru fr lv lt et tl hf hp ol PS pf ov md mq mt mv) (hdg : decode cc pc = .ok (.getfield 11, 3)) (kk : W p l e R s m args below meth c H locs cells slots Q (F0 m (pc + 3) ls (.ref (ly_a y 1) :: rest))) : W p l e R s m args below meth c H locs cells slots Q (F0 m pc ls (.ref (ly_a y 0) :: rest)) :=
  gk_get hK.1 hK.2.2.1.1 hP (k := 0) (hR.1) rfl inlX4 (by decide) q_1_14 (fun _ h => h) rfl hdg kk
theorem tr_17 (hK : gk_K p s m c args cc RX4 nL y A) (hP : gk_P (ly_D y) A G H) (hR : rp y G td ru fr lv lt et tl hf hp ol PS pf ov md mq mt mv) (hdg : decode cc pc = .ok (.getfield 17, 3)) (kk : W p l e R s m args below meth c H locs cells slots Q (F0 m (pc + 3) ls (.ref (ly_a y 2) :: rest))) : W p l e R s m args below meth c H locs cells slots Q (F0 m pc ls (.ref (ly_a y 0) :: rest)) :=
  gk_get hK.1 hK.2.2.1.1 hP (k := 1) (hR.1) rfl inlX4 (by decide) q_1_16 (fun _ h => h) rfl hdg kk
theorem tr_23 (hK : gk_K p s m c args cc RX4 nL y A) (hP : gk_P (ly_D y) A G H) (hR : rp y G td ru fr lv lt et tl hf hp ol PS pf ov md mq mt mv) (hdg : decode cc pc = .ok (.getfield 23, 3)) (kk : W p l e R s m args below meth c H locs cells slots Q (F0 m (pc + 3) ls (.ref (ly_a y 3) :: rest))) : W p l e R s m args below meth c H locs cells slots Q (F0 m pc ls (.ref (ly_a y 0) :: rest)) :=
  gk_get hK.1 hK.2.2.1.1 hP (k := 2) (hR.1) rfl inlX4 (by decide) q_1_18 (fun _ h => h) rfl hdg kk
theorem tr_109 (hK : gk_K p s m c args cc RX4 nL y A) (hP : gk_P (ly_D y) A G H) (hR : rp y G td ru fr lv lt et tl hf hp ol PS pf ov md mq mt mv) (hdg : decode cc pc = .ok (.getfield 109, 3)) (kk : W p l e R s m args below meth c H locs cells slots Q (F0 m (pc + 3) ls (.int td :: rest))) : W p l e R s m args below meth c H locs cells slots Q (F0 m pc ls (.ref (ly_a y 0) :: rest)) :=
  gk_get hK.1 hK.2.2.1.1 hP (k := 3) (hR.1) rfl inlX4 (by decide) q_10_23 (fun _ h => h) rfl hdg kk
theorem tw_109 (hK : gk_K p s m c args cc RX4 nL y A) (hP : gk_P (ly_D y) A G H) (hS : va_S A s.heap H locs) (hR : rp y G td ru fr lv lt et tl hf hp ol PS pf ov md mq mt mv) {v : Int32} (hdg : decode cc pc = .ok (.putfield 109, 3))
    (kk : ∀ (H1 : Heap) (locs1 : List Loc) (G1 : gk_G), gk_P (ly_D y) A G1 H1 → va_S A s.heap H1 locs1 → rp y G1 v ru fr lv lt et tl hf hp ol PS pf ov md mq mt mv → W p l e R s m args below meth c H1 locs1 cells slots Q (F0 m (pc + 3) ls rest)) : W p l e R s m args below meth c H locs cells slots Q (F0 m pc ls (.int v :: .ref (ly_a y 0) :: rest)) := by
  obtain ⟨hA, hB, hRr, hF, hH, hL, hSs, hO, hM⟩ := hR
  have hG := hA
  have hR := hRr
  have hSp := hS
  refine gk_put hK.1 hK.2.2.1.1 hP hS (k := 3) hG rfl inlX4 tyX4 tyX4_ok nmX4 (by decide) q_10_23 (fun _ h => h) rfl rfl rfl (Nat.lt_of_lt_of_le (Nat.lt_succ_self 3) (Nat.le_of_ble_eq_true rfl)) hdg (fun H1 locs1 P1 S1 => kk H1 locs1 _ P1 S1 ?_)
  have hS := hSs
  exact ⟨(by show gk_up _ _ _ _ = _; rw [gk_us]; rfl), rpB_keep hB (rp_off_of hG (by show 5 ≠ 14; decide)), rpR_keep hR (rp_off_of hG (by show 5 ≠ 4; decide)), rpF_keep hF (rp_off_of hG (by show 5 ≠ 2; decide)), rpH_keep hH (rp_off_of hG (by show 5 ≠ 1; decide)), rpL_keep hL (rp_off_of hG (by show 5 ≠ 0; decide)) (rp_off_of hG (by show 5 ≠ 14; decide)), rpS_keep hS (rp_off_of hG (by show 5 ≠ 3; decide)), rpO_keep hO (rp_off_of hG (by show 5 ≠ 11; decide)), rpM_keep hM (rp_off_of hG (by show 5 ≠ 6; decide)) (rp_off_of hG (by show 5 ≠ 10; decide))⟩
theorem tr_163 (hK : gk_K p s m c args cc RX4 nL y A) (hP : gk_P (ly_D y) A G H) (hR : rp y G td ru fr lv lt et tl hf hp ol PS pf ov md mq mt mv) {f : Nat} (hf5 : f < 5) (hdg : decode cc pc = .ok (.getfield 163, 3)) (kk : W p l e R s m args below meth c H locs cells slots Q (F0 m (pc + 3) ls (.int (nI f) :: rest))) : W p l e R s m args below meth c H locs cells slots Q (F0 m pc ls (.ref (ly_f y 1 f) :: rest)) :=
  gk_get hK.1 hK.2.2.1.1 hP (k := 0) ((hR.2.2.2.1 f hf5).2) rfl inlX1 (by decide) q_23_22 (fun _ h => h) rfl hdg kk
theorem tr_137 (hK : gk_K p s m c args cc RX4 nL y A) (hP : gk_P (ly_D y) A G H) (hR : rp y G td ru fr lv lt et tl hf hp ol PS pf ov md mq mt mv) {f : Nat} (hf5 : f < 5) (hdg : decode cc pc = .ok (.getfield 137, 3)) (kk : W p l e R s m args below meth c H locs cells slots Q (F0 m (pc + 3) ls (.ref (ly_f y 3 f) :: rest))) : W p l e R s m args below meth c H locs cells slots Q (F0 m pc ls (.ref (ly_f y 1 f) :: rest)) :=
  gk_get hK.1 hK.2.2.1.1 hP (k := 1) ((hR.2.2.2.1 f hf5).2) rfl inlX1 (by decide) q_12_7 (fun _ h => h) rfl hdg kk
theorem tr_75 (hK : gk_K p s m c args cc RX4 nL y A) (hP : gk_P (ly_D y) A G H) (hR : rp y G td ru fr lv lt et tl hf hp ol PS pf ov md mq mt mv) {f : Nat} (hf5 : f < 5) (hdg : decode cc pc = .ok (.getfield 75, 3)) (kk : W p l e R s m args below meth c H locs cells slots Q (F0 m (pc + 3) ls (.ref (ly_f y 0 (fr f)) :: rest))) : W p l e R s m args below meth c H locs cells slots Q (F0 m pc ls (.ref (ly_f y 1 f) :: rest)) :=
  gk_get hK.1 hK.2.2.1.1 hP (k := 2) ((hR.2.2.2.1 f hf5).2) rfl inlX1 (by decide) q_7_17 (fun _ h => h) rfl hdg kk
theorem tr_90 (hK : gk_K p s m c args cc RX4 nL y A) (hP : gk_P (ly_D y) A G H) (hR : rp y G td ru fr lv lt et tl hf hp ol PS pf ov md mq mt mv) {f : Nat} (hf5 : f < 5) (hdg : decode cc pc = .ok (.getfield 90, 3)) (kk : W p l e R s m args below meth c H locs cells slots Q (F0 m (pc + 3) ls (.ref (lv f) :: rest))) : W p l e R s m args below meth c H locs cells slots Q (F0 m pc ls (.ref (ly_f y 1 f) :: rest)) :=
  gk_get hK.1 hK.2.2.1.1 hP (k := 3) ((hR.2.2.2.1 f hf5).2) rfl inlX1 (by decide) q_8_14 (fun _ h => h) rfl hdg kk
theorem tr_130 (hK : gk_K p s m c args cc RX4 nL y A) (hP : gk_P (ly_D y) A G H) (hR : rp y G td ru fr lv lt et tl hf hp ol PS pf ov md mq mt mv) {f : Nat} (hf5 : f < 5) (hdg : decode cc pc = .ok (.getfield 130, 3)) (kk : W p l e R s m args below meth c H locs cells slots Q (F0 m (pc + 3) ls (.int (lt f) :: rest))) : W p l e R s m args below meth c H locs cells slots Q (F0 m pc ls (.ref (ly_f y 1 f) :: rest)) :=
  gk_get hK.1 hK.2.2.1.1 hP (k := 4) ((hR.2.2.2.1 f hf5).2) rfl inlX1 (by decide) q_11_12 (fun _ h => h) rfl hdg kk
theorem tr_198 (hK : gk_K p s m c args cc RX4 nL y A) (hP : gk_P (ly_D y) A G H) (hR : rp y G td ru fr lv lt et tl hf hp ol PS pf ov md mq mt mv) {f : Nat} (hf5 : f < 5) (hdg : decode cc pc = .ok (.getfield 198, 3)) (kk : W p l e R s m args below meth c H locs cells slots Q (F0 m (pc + 3) ls (.int (et f) :: rest))) : W p l e R s m args below meth c H locs cells slots Q (F0 m pc ls (.ref (ly_f y 1 f) :: rest)) :=
  gk_get hK.1 hK.2.2.1.1 hP (k := 5) ((hR.2.2.2.1 f hf5).2) rfl inlX1 (by decide) q_11_16 (fun _ h => h) rfl hdg kk
theorem tr_160 (hK : gk_K p s m c args cc RX4 nL y A) (hP : gk_P (ly_D y) A G H) (hR : rp y G td ru fr lv lt et tl hf hp ol PS pf ov md mq mt mv) {f : Nat} (hf5 : f < 5) (hdg : decode cc pc = .ok (.getfield 160, 3)) (kk : W p l e R s m args below meth c H locs cells slots Q (F0 m (pc + 3) ls (.int (tl f) :: rest))) : W p l e R s m args below meth c H locs cells slots Q (F0 m pc ls (.ref (ly_f y 1 f) :: rest)) :=
  gk_get hK.1 hK.2.2.1.1 hP (k := 6) ((hR.2.2.2.1 f hf5).2) rfl inlX1 (by decide) q_16_5 (fun _ h => h) rfl hdg kk
theorem tw_75 (hK : gk_K p s m c args cc RX4 nL y A) (hP : gk_P (ly_D y) A G H) (hS : va_S A s.heap H locs) (hR : rp y G td ru fr lv lt et tl hf hp ol PS pf ov md mq mt mv) {f : Nat} (hf5 : f < 5) {r : Nat} (hr3 : r < 3) (hdg : decode cc pc = .ok (.putfield 75, 3))
    (kk : ∀ (H1 : Heap) (locs1 : List Loc) (G1 : gk_G), gk_P (ly_D y) A G1 H1 → va_S A s.heap H1 locs1 → rp y G1 td ru (va_up fr f r) lv lt et tl hf hp ol PS pf ov md mq mt mv → W p l e R s m args below meth c H1 locs1 cells slots Q (F0 m (pc + 3) ls rest)) : W p l e R s m args below meth c H locs cells slots Q (F0 m pc ls (.ref (ly_f y 0 r) :: .ref (ly_f y 1 f) :: rest)) := by
  obtain ⟨hA, hB, hRr, hF, hH, hL, hSs, hO, hM⟩ := hR
  have hG := (hF f hf5).2
  have hR := hRr
  have hSp := hS
  refine gk_put hK.1 hK.2.2.1.1 hP hS (k := 2) hG rfl inlX1 tyX1 tyX1_ok nmX1 (by decide) q_7_17 (fun _ h => h) rfl rfl rfl (Nat.lt_of_lt_of_le (Nat.lt_succ_self 2) (Nat.le_of_ble_eq_true rfl)) hdg (fun H1 locs1 P1 S1 => kk H1 locs1 _ P1 S1 ?_)
  have hS := hSs
  exact ⟨rpA_keep hA (rp_off_of hG (by show 2 ≠ 5; decide)), rpB_keep hB (rp_off_of hG (by show 2 ≠ 14; decide)), rpR_keep hR (rp_off_of hG (by show 2 ≠ 4; decide)), (rpF_put hF hf5 (by rw [va_up_self]; exact hr3) (by simp only [rp_eF, va_up_self]; rfl) (fun k hk => ⟨va_up_ne _ _ hk, rfl, rfl, rfl, rfl⟩)), rpH_keep hH (rp_off_of hG (by show 2 ≠ 1; decide)), rpL_keep hL (rp_off_of hG (by show 2 ≠ 0; decide)) (rp_off_of hG (by show 2 ≠ 14; decide)), rpS_keep hS (rp_off_of hG (by show 2 ≠ 3; decide)), rpO_keep hO (rp_off_of hG (by show 2 ≠ 11; decide)), rpM_keep hM (rp_off_of hG (by show 2 ≠ 6; decide)) (rp_off_of hG (by show 2 ≠ 10; decide))⟩
theorem tw_90 (hK : gk_K p s m c args cc RX4 nL y A) (hP : gk_P (ly_D y) A G H) (hS : va_S A s.heap H locs) (hR : rp y G td ru fr lv lt et tl hf hp ol PS pf ov md mq mt mv) {f : Nat} (hf5 : f < 5) {t : Nat} (hdg : decode cc pc = .ok (.putfield 90, 3))
    (kk : ∀ (H1 : Heap) (locs1 : List Loc) (G1 : gk_G), gk_P (ly_D y) A G1 H1 → va_S A s.heap H1 locs1 → rp y G1 td ru fr (va_up lv f t) lt et tl hf hp ol PS pf ov md mq mt mv → W p l e R s m args below meth c H1 locs1 cells slots Q (F0 m (pc + 3) ls rest)) : W p l e R s m args below meth c H locs cells slots Q (F0 m pc ls (.ref t :: .ref (ly_f y 1 f) :: rest)) := by
  obtain ⟨hA, hB, hRr, hF, hH, hL, hSs, hO, hM⟩ := hR
  have hG := (hF f hf5).2
  have hR := hRr
  have hSp := hS
  refine gk_put hK.1 hK.2.2.1.1 hP hS (k := 3) hG rfl inlX1 tyX1 tyX1_ok nmX1 (by decide) q_8_14 (fun _ h => h) rfl rfl rfl (Nat.lt_of_lt_of_le (Nat.lt_succ_self 3) (Nat.le_of_ble_eq_true rfl)) hdg (fun H1 locs1 P1 S1 => kk H1 locs1 _ P1 S1 ?_)
  have hS := hSs
  exact ⟨rpA_keep hA (rp_off_of hG (by show 2 ≠ 5; decide)), rpB_keep hB (rp_off_of hG (by show 2 ≠ 14; decide)), rpR_keep hR (rp_off_of hG (by show 2 ≠ 4; decide)), (rpF_put hF hf5 (hF f hf5).1 (by simp only [rp_eF, va_up_self]; rfl) (fun k hk => ⟨rfl, va_up_ne _ _ hk, rfl, rfl, rfl⟩)), rpH_keep hH (rp_off_of hG (by show 2 ≠ 1; decide)), rpL_keep hL (rp_off_of hG (by show 2 ≠ 0; decide)) (rp_off_of hG (by show 2 ≠ 14; decide)), rpS_keep hS (rp_off_of hG (by show 2 ≠ 3; decide)), rpO_keep hO (rp_off_of hG (by show 2 ≠ 11; decide)), rpM_keep hM (rp_off_of hG (by show 2 ≠ 6; decide)) (rp_off_of hG (by show 2 ≠ 10; decide))⟩
theorem tw_130 (hK : gk_K p s m c args cc RX4 nL y A) (hP : gk_P (ly_D y) A G H) (hS : va_S A s.heap H locs) (hR : rp y G td ru fr lv lt et tl hf hp ol PS pf ov md mq mt mv) {f : Nat} (hf5 : f < 5) {v : Int32} (hdg : decode cc pc = .ok (.putfield 130, 3))
    (kk : ∀ (H1 : Heap) (locs1 : List Loc) (G1 : gk_G), gk_P (ly_D y) A G1 H1 → va_S A s.heap H1 locs1 → rp y G1 td ru fr lv (va_up lt f v) et tl hf hp ol PS pf ov md mq mt mv → W p l e R s m args below meth c H1 locs1 cells slots Q (F0 m (pc + 3) ls rest)) : W p l e R s m args below meth c H locs cells slots Q (F0 m pc ls (.int v :: .ref (ly_f y 1 f) :: rest)) := by
  obtain ⟨hA, hB, hRr, hF, hH, hL, hSs, hO, hM⟩ := hR
  have hG := (hF f hf5).2
  have hR := hRr
  have hSp := hS
  refine gk_put hK.1 hK.2.2.1.1 hP hS (k := 4) hG rfl inlX1 tyX1 tyX1_ok nmX1 (by decide) q_11_12 (fun _ h => h) rfl rfl rfl (Nat.lt_of_lt_of_le (Nat.lt_succ_self 4) (Nat.le_of_ble_eq_true rfl)) hdg (fun H1 locs1 P1 S1 => kk H1 locs1 _ P1 S1 ?_)
  have hS := hSs
  exact ⟨rpA_keep hA (rp_off_of hG (by show 2 ≠ 5; decide)), rpB_keep hB (rp_off_of hG (by show 2 ≠ 14; decide)), rpR_keep hR (rp_off_of hG (by show 2 ≠ 4; decide)), (rpF_put hF hf5 (hF f hf5).1 (by simp only [rp_eF, va_up_self]; rfl) (fun k hk => ⟨rfl, rfl, va_up_ne _ _ hk, rfl, rfl⟩)), rpH_keep hH (rp_off_of hG (by show 2 ≠ 1; decide)), rpL_keep hL (rp_off_of hG (by show 2 ≠ 0; decide)) (rp_off_of hG (by show 2 ≠ 14; decide)), rpS_keep hS (rp_off_of hG (by show 2 ≠ 3; decide)), rpO_keep hO (rp_off_of hG (by show 2 ≠ 11; decide)), rpM_keep hM (rp_off_of hG (by show 2 ≠ 6; decide)) (rp_off_of hG (by show 2 ≠ 10; decide))⟩
theorem tw_198 (hK : gk_K p s m c args cc RX4 nL y A) (hP : gk_P (ly_D y) A G H) (hS : va_S A s.heap H locs) (hR : rp y G td ru fr lv lt et tl hf hp ol PS pf ov md mq mt mv) {f : Nat} (hf5 : f < 5) {v : Int32} (hb : v = 0 ∨ v = 1) (hdg : decode cc pc = .ok (.putfield 198, 3))
    (kk : ∀ (H1 : Heap) (locs1 : List Loc) (G1 : gk_G), gk_P (ly_D y) A G1 H1 → va_S A s.heap H1 locs1 → rp y G1 td ru fr lv lt (va_up et f v) tl hf hp ol PS pf ov md mq mt mv → W p l e R s m args below meth c H1 locs1 cells slots Q (F0 m (pc + 3) ls rest)) : W p l e R s m args below meth c H locs cells slots Q (F0 m pc ls (.int v :: .ref (ly_f y 1 f) :: rest)) := by
  obtain ⟨hA, hB, hRr, hF, hH, hL, hSs, hO, hM⟩ := hR
  have hG := (hF f hf5).2
  have hR := hRr
  have hSp := hS
  refine gk_put hK.1 hK.2.2.1.1 hP hS (k := 5) hG rfl inlX1 tyX1 tyX1_ok nmX1 (by decide) q_11_16 (fun _ h => h) rfl (rp_nz hb).1 (rp_nz hb).2.1 (Nat.lt_of_lt_of_le (Nat.lt_succ_self 5) (Nat.le_of_ble_eq_true rfl)) hdg (fun H1 locs1 P1 S1 => kk H1 locs1 _ P1 S1 ?_)
  have hS := hSs
  exact ⟨rpA_keep hA (rp_off_of hG (by show 2 ≠ 5; decide)), rpB_keep hB (rp_off_of hG (by show 2 ≠ 14; decide)), rpR_keep hR (rp_off_of hG (by show 2 ≠ 4; decide)), (rpF_put hF hf5 (hF f hf5).1 (by simp only [rp_eF, va_up_self]; rfl) (fun k hk => ⟨rfl, rfl, rfl, va_up_ne _ _ hk, rfl⟩)), rpH_keep hH (rp_off_of hG (by show 2 ≠ 1; decide)), rpL_keep hL (rp_off_of hG (by show 2 ≠ 0; decide)) (rp_off_of hG (by show 2 ≠ 14; decide)), rpS_keep hS (rp_off_of hG (by show 2 ≠ 3; decide)), rpO_keep hO (rp_off_of hG (by show 2 ≠ 11; decide)), rpM_keep hM (rp_off_of hG (by show 2 ≠ 6; decide)) (rp_off_of hG (by show 2 ≠ 10; decide))⟩
theorem tw_160 (hK : gk_K p s m c args cc RX4 nL y A) (hP : gk_P (ly_D y) A G H) (hS : va_S A s.heap H locs) (hR : rp y G td ru fr lv lt et tl hf hp ol PS pf ov md mq mt mv) {f : Nat} (hf5 : f < 5) {v : Int32} (hdg : decode cc pc = .ok (.putfield 160, 3))
    (kk : ∀ (H1 : Heap) (locs1 : List Loc) (G1 : gk_G), gk_P (ly_D y) A G1 H1 → va_S A s.heap H1 locs1 → rp y G1 td ru fr lv lt et (va_up tl f v) hf hp ol PS pf ov md mq mt mv → W p l e R s m args below meth c H1 locs1 cells slots Q (F0 m (pc + 3) ls rest)) : W p l e R s m args below meth c H locs cells slots Q (F0 m pc ls (.int v :: .ref (ly_f y 1 f) :: rest)) := by
  obtain ⟨hA, hB, hRr, hF, hH, hL, hSs, hO, hM⟩ := hR
  have hG := (hF f hf5).2
  have hR := hRr
  have hSp := hS
  refine gk_put hK.1 hK.2.2.1.1 hP hS (k := 6) hG rfl inlX1 tyX1 tyX1_ok nmX1 (by decide) q_16_5 (fun _ h => h) rfl rfl rfl (Nat.lt_of_lt_of_le (Nat.lt_succ_self 6) (Nat.le_of_ble_eq_true rfl)) hdg (fun H1 locs1 P1 S1 => kk H1 locs1 _ P1 S1 ?_)
  have hS := hSs
  exact ⟨rpA_keep hA (rp_off_of hG (by show 2 ≠ 5; decide)), rpB_keep hB (rp_off_of hG (by show 2 ≠ 14; decide)), rpR_keep hR (rp_off_of hG (by show 2 ≠ 4; decide)), (rpF_put hF hf5 (hF f hf5).1 (by simp only [rp_eF, va_up_self]; rfl) (fun k hk => ⟨rfl, rfl, rfl, rfl, va_up_ne _ _ hk⟩)), rpH_keep hH (rp_off_of hG (by show 2 ≠ 1; decide)), rpL_keep hL (rp_off_of hG (by show 2 ≠ 0; decide)) (rp_off_of hG (by show 2 ≠ 14; decide)), rpS_keep hS (rp_off_of hG (by show 2 ≠ 3; decide)), rpO_keep hO (rp_off_of hG (by show 2 ≠ 11; decide)), rpM_keep hM (rp_off_of hG (by show 2 ≠ 6; decide)) (rp_off_of hG (by show 2 ≠ 10; decide))⟩
theorem tr_79 (hK : gk_K p s m c args cc RX4 nL y A) (hP : gk_P (ly_D y) A G H) (hR : rp y G td ru fr lv lt et tl hf hp ol PS pf ov md mq mt mv) {r : Nat} (hr3 : r < 3) (hdg : decode cc pc = .ok (.getfield 79, 3)) (kk : W p l e R s m args below meth c H locs cells slots Q (F0 m (pc + 3) ls (.int (nI r) :: rest))) : W p l e R s m args below meth c H locs cells slots Q (F0 m pc ls (.ref (ly_f y 0 r) :: rest)) :=
  gk_get hK.1 hK.2.2.1.1 hP (k := 0) (hR.2.2.1 r hr3) rfl inlX3 (by decide) q_7_18 (fun _ h => h) rfl hdg kk
theorem tr_42 (hK : gk_K p s m c args cc RX4 nL y A) (hP : gk_P (ly_D y) A G H) (hR : rp y G td ru fr lv lt et tl hf hp ol PS pf ov md mq mt mv) {r : Nat} (hr3 : r < 3) (hdg : decode cc pc = .ok (.getfield 42, 3)) (kk : W p l e R s m args below meth c H locs cells slots Q (F0 m (pc + 3) ls (.int (ru r 1) :: rest))) : W p l e R s m args below meth c H locs cells slots Q (F0 m pc ls (.ref (ly_f y 0 r) :: rest)) :=
  gk_get hK.1 hK.2.2.1.1 hP (k := 1) (hR.2.2.1 r hr3) rfl inlX3 (by decide) q_5_8 (fun _ h => h) rfl hdg kk
theorem tw_42 (hK : gk_K p s m c args cc RX4 nL y A) (hP : gk_P (ly_D y) A G H) (hS : va_S A s.heap H locs) (hR : rp y G td ru fr lv lt et tl hf hp ol PS pf ov md mq mt mv) {r : Nat} (hr3 : r < 3) {v : Int32} (hdg : decode cc pc = .ok (.putfield 42, 3))
    (kk : ∀ (H1 : Heap) (locs1 : List Loc) (G1 : gk_G), gk_P (ly_D y) A G1 H1 → va_S A s.heap H1 locs1 → rp y G1 td (rp_u2 ru r 1 v) fr lv lt et tl hf hp ol PS pf ov md mq mt mv → W p l e R s m args below meth c H1 locs1 cells slots Q (F0 m (pc + 3) ls rest)) : W p l e R s m args below meth c H locs cells slots Q (F0 m pc ls (.int v :: .ref (ly_f y 0 r) :: rest)) := by
  obtain ⟨hA, hB, hRr, hF, hH, hL, hSs, hO, hM⟩ := hR
  have hG := hRr r hr3
  have hR := hRr
  have hSp := hS
  refine gk_put hK.1 hK.2.2.1.1 hP hS (k := 1) hG rfl inlX3 tyX3 tyX3_ok nmX3 (by decide) q_5_8 (fun _ h => h) rfl rfl rfl (Nat.lt_of_lt_of_le (Nat.lt_succ_self 1) (Nat.le_of_ble_eq_true rfl)) hdg (fun H1 locs1 P1 S1 => kk H1 locs1 _ P1 S1 ?_)
  have hS := hSs
  exact ⟨rpA_keep hA (rp_off_of hG (by show 4 ≠ 5; decide)), rpB_keep hB (rp_off_of hG (by show 4 ≠ 14; decide)), (rpR_put hR hr3 (by simp [rp_eR, rp_u2]) (fun k hk => by funext j; simp [rp_u2, hk])), rpF_keep hF (rp_off_of hG (by show 4 ≠ 2; decide)), rpH_keep hH (rp_off_of hG (by show 4 ≠ 1; decide)), rpL_keep hL (rp_off_of hG (by show 4 ≠ 0; decide)) (rp_off_of hG (by show 4 ≠ 14; decide)), rpS_keep hS (rp_off_of hG (by show 4 ≠ 3; decide)), rpO_keep hO (rp_off_of hG (by show 4 ≠ 11; decide)), rpM_keep hM (rp_off_of hG (by show 4 ≠ 6; decide)) (rp_off_of hG (by show 4 ≠ 10; decide))⟩
theorem tr_46 (hK : gk_K p s m c args cc RX4 nL y A) (hP : gk_P (ly_D y) A G H) (hR : rp y G td ru fr lv lt et tl hf hp ol PS pf ov md mq mt mv) {r : Nat} (hr3 : r < 3) (hdg : decode cc pc = .ok (.getfield 46, 3)) (kk : W p l e R s m args below meth c H locs cells slots Q (F0 m (pc + 3) ls (.int (ru r 2) :: rest))) : W p l e R s m args below meth c H locs cells slots Q (F0 m pc ls (.ref (ly_f y 0 r) :: rest)) :=
  gk_get hK.1 hK.2.2.1.1 hP (k := 2) (hR.2.2.1 r hr3) rfl inlX3 (by decide) q_5_9 (fun _ h => h) rfl hdg kk
theorem tw_46 (hK : gk_K p s m c args cc RX4 nL y A) (hP : gk_P (ly_D y) A G H) (hS : va_S A s.heap H locs) (hR : rp y G td ru fr lv lt et tl hf hp ol PS pf ov md mq mt mv) {r : Nat} (hr3 : r < 3) {v : Int32} (hdg : decode cc pc = .ok (.putfield 46, 3))
    (kk : ∀ (H1 : Heap) (locs1 : List Loc) (G1 : gk_G), gk_P (ly_D y) A G1 H1 → va_S A s.heap H1 locs1 → rp y G1 td (rp_u2 ru r 2 v) fr lv lt et tl hf hp ol PS pf ov md mq mt mv → W p l e R s m args below meth c H1 locs1 cells slots Q (F0 m (pc + 3) ls rest)) : W p l e R s m args below meth c H locs cells slots Q (F0 m pc ls (.int v :: .ref (ly_f y 0 r) :: rest)) := by
  obtain ⟨hA, hB, hRr, hF, hH, hL, hSs, hO, hM⟩ := hR
  have hG := hRr r hr3
  have hR := hRr
  have hSp := hS
  refine gk_put hK.1 hK.2.2.1.1 hP hS (k := 2) hG rfl inlX3 tyX3 tyX3_ok nmX3 (by decide) q_5_9 (fun _ h => h) rfl rfl rfl (Nat.lt_of_lt_of_le (Nat.lt_succ_self 2) (Nat.le_of_ble_eq_true rfl)) hdg (fun H1 locs1 P1 S1 => kk H1 locs1 _ P1 S1 ?_)
  have hS := hSs
  exact ⟨rpA_keep hA (rp_off_of hG (by show 4 ≠ 5; decide)), rpB_keep hB (rp_off_of hG (by show 4 ≠ 14; decide)), (rpR_put hR hr3 (by simp [rp_eR, rp_u2]) (fun k hk => by funext j; simp [rp_u2, hk])), rpF_keep hF (rp_off_of hG (by show 4 ≠ 2; decide)), rpH_keep hH (rp_off_of hG (by show 4 ≠ 1; decide)), rpL_keep hL (rp_off_of hG (by show 4 ≠ 0; decide)) (rp_off_of hG (by show 4 ≠ 14; decide)), rpS_keep hS (rp_off_of hG (by show 4 ≠ 3; decide)), rpO_keep hO (rp_off_of hG (by show 4 ≠ 11; decide)), rpM_keep hM (rp_off_of hG (by show 4 ≠ 6; decide)) (rp_off_of hG (by show 4 ≠ 10; decide))⟩
theorem tr_49 (hK : gk_K p s m c args cc RX4 nL y A) (hP : gk_P (ly_D y) A G H) (hR : rp y G td ru fr lv lt et tl hf hp ol PS pf ov md mq mt mv) {r : Nat} (hr3 : r < 3) (hdg : decode cc pc = .ok (.getfield 49, 3)) (kk : W p l e R s m args below meth c H locs cells slots Q (F0 m (pc + 3) ls (.int (ru r 3) :: rest))) : W p l e R s m args below meth c H locs cells slots Q (F0 m pc ls (.ref (ly_f y 0 r) :: rest)) :=
  gk_get hK.1 hK.2.2.1.1 hP (k := 3) (hR.2.2.1 r hr3) rfl inlX3 (by decide) q_5_10 (fun _ h => h) rfl hdg kk
theorem tw_49 (hK : gk_K p s m c args cc RX4 nL y A) (hP : gk_P (ly_D y) A G H) (hS : va_S A s.heap H locs) (hR : rp y G td ru fr lv lt et tl hf hp ol PS pf ov md mq mt mv) {r : Nat} (hr3 : r < 3) {v : Int32} (hdg : decode cc pc = .ok (.putfield 49, 3))
    (kk : ∀ (H1 : Heap) (locs1 : List Loc) (G1 : gk_G), gk_P (ly_D y) A G1 H1 → va_S A s.heap H1 locs1 → rp y G1 td (rp_u2 ru r 3 v) fr lv lt et tl hf hp ol PS pf ov md mq mt mv → W p l e R s m args below meth c H1 locs1 cells slots Q (F0 m (pc + 3) ls rest)) : W p l e R s m args below meth c H locs cells slots Q (F0 m pc ls (.int v :: .ref (ly_f y 0 r) :: rest)) := by
  obtain ⟨hA, hB, hRr, hF, hH, hL, hSs, hO, hM⟩ := hR
  have hG := hRr r hr3
  have hR := hRr
  have hSp := hS
  refine gk_put hK.1 hK.2.2.1.1 hP hS (k := 3) hG rfl inlX3 tyX3 tyX3_ok nmX3 (by decide) q_5_10 (fun _ h => h) rfl rfl rfl (Nat.lt_of_lt_of_le (Nat.lt_succ_self 3) (Nat.le_of_ble_eq_true rfl)) hdg (fun H1 locs1 P1 S1 => kk H1 locs1 _ P1 S1 ?_)
  have hS := hSs
  exact ⟨rpA_keep hA (rp_off_of hG (by show 4 ≠ 5; decide)), rpB_keep hB (rp_off_of hG (by show 4 ≠ 14; decide)), (rpR_put hR hr3 (by simp [rp_eR, rp_u2]) (fun k hk => by funext j; simp [rp_u2, hk])), rpF_keep hF (rp_off_of hG (by show 4 ≠ 2; decide)), rpH_keep hH (rp_off_of hG (by show 4 ≠ 1; decide)), rpL_keep hL (rp_off_of hG (by show 4 ≠ 0; decide)) (rp_off_of hG (by show 4 ≠ 14; decide)), rpS_keep hS (rp_off_of hG (by show 4 ≠ 3; decide)), rpO_keep hO (rp_off_of hG (by show 4 ≠ 11; decide)), rpM_keep hM (rp_off_of hG (by show 4 ≠ 6; decide)) (rp_off_of hG (by show 4 ≠ 10; decide))⟩
theorem tr_52 (hK : gk_K p s m c args cc RX4 nL y A) (hP : gk_P (ly_D y) A G H) (hR : rp y G td ru fr lv lt et tl hf hp ol PS pf ov md mq mt mv) {r : Nat} (hr3 : r < 3) (hdg : decode cc pc = .ok (.getfield 52, 3)) (kk : W p l e R s m args below meth c H locs cells slots Q (F0 m (pc + 3) ls (.int (ru r 4) :: rest))) : W p l e R s m args below meth c H locs cells slots Q (F0 m pc ls (.ref (ly_f y 0 r) :: rest)) :=
  gk_get hK.1 hK.2.2.1.1 hP (k := 4) (hR.2.2.1 r hr3) rfl inlX3 (by decide) q_5_11 (fun _ h => h) rfl hdg kk
theorem tw_52 (hK : gk_K p s m c args cc RX4 nL y A) (hP : gk_P (ly_D y) A G H) (hS : va_S A s.heap H locs) (hR : rp y G td ru fr lv lt et tl hf hp ol PS pf ov md mq mt mv) {r : Nat} (hr3 : r < 3) {v : Int32} (hdg : decode cc pc = .ok (.putfield 52, 3))
    (kk : ∀ (H1 : Heap) (locs1 : List Loc) (G1 : gk_G), gk_P (ly_D y) A G1 H1 → va_S A s.heap H1 locs1 → rp y G1 td (rp_u2 ru r 4 v) fr lv lt et tl hf hp ol PS pf ov md mq mt mv → W p l e R s m args below meth c H1 locs1 cells slots Q (F0 m (pc + 3) ls rest)) : W p l e R s m args below meth c H locs cells slots Q (F0 m pc ls (.int v :: .ref (ly_f y 0 r) :: rest)) := by
  obtain ⟨hA, hB, hRr, hF, hH, hL, hSs, hO, hM⟩ := hR
  have hG := hRr r hr3
  have hR := hRr
  have hSp := hS
  refine gk_put hK.1 hK.2.2.1.1 hP hS (k := 4) hG rfl inlX3 tyX3 tyX3_ok nmX3 (by decide) q_5_11 (fun _ h => h) rfl rfl rfl (Nat.lt_of_lt_of_le (Nat.lt_succ_self 4) (Nat.le_of_ble_eq_true rfl)) hdg (fun H1 locs1 P1 S1 => kk H1 locs1 _ P1 S1 ?_)
  have hS := hSs
  exact ⟨rpA_keep hA (rp_off_of hG (by show 4 ≠ 5; decide)), rpB_keep hB (rp_off_of hG (by show 4 ≠ 14; decide)), (rpR_put hR hr3 (by simp [rp_eR, rp_u2]) (fun k hk => by funext j; simp [rp_u2, hk])), rpF_keep hF (rp_off_of hG (by show 4 ≠ 2; decide)), rpH_keep hH (rp_off_of hG (by show 4 ≠ 1; decide)), rpL_keep hL (rp_off_of hG (by show 4 ≠ 0; decide)) (rp_off_of hG (by show 4 ≠ 14; decide)), rpS_keep hS (rp_off_of hG (by show 4 ≠ 3; decide)), rpO_keep hO (rp_off_of hG (by show 4 ≠ 11; decide)), rpM_keep hM (rp_off_of hG (by show 4 ≠ 6; decide)) (rp_off_of hG (by show 4 ≠ 10; decide))⟩
theorem tr_55 (hK : gk_K p s m c args cc RX4 nL y A) (hP : gk_P (ly_D y) A G H) (hR : rp y G td ru fr lv lt et tl hf hp ol PS pf ov md mq mt mv) {r : Nat} (hr3 : r < 3) (hdg : decode cc pc = .ok (.getfield 55, 3)) (kk : W p l e R s m args below meth c H locs cells slots Q (F0 m (pc + 3) ls (.int (ru r 5) :: rest))) : W p l e R s m args below meth c H locs cells slots Q (F0 m pc ls (.ref (ly_f y 0 r) :: rest)) :=
  gk_get hK.1 hK.2.2.1.1 hP (k := 5) (hR.2.2.1 r hr3) rfl inlX3 (by decide) q_7_1 (fun _ h => h) rfl hdg kk
theorem tw_55 (hK : gk_K p s m c args cc RX4 nL y A) (hP : gk_P (ly_D y) A G H) (hS : va_S A s.heap H locs) (hR : rp y G td ru fr lv lt et tl hf hp ol PS pf ov md mq mt mv) {r : Nat} (hr3 : r < 3) {v : Int32} (hdg : decode cc pc = .ok (.putfield 55, 3))
    (kk : ∀ (H1 : Heap) (locs1 : List Loc) (G1 : gk_G), gk_P (ly_D y) A G1 H1 → va_S A s.heap H1 locs1 → rp y G1 td (rp_u2 ru r 5 v) fr lv lt et tl hf hp ol PS pf ov md mq mt mv → W p l e R s m args below meth c H1 locs1 cells slots Q (F0 m (pc + 3) ls rest)) : W p l e R s m args below meth c H locs cells slots Q (F0 m pc ls (.int v :: .ref (ly_f y 0 r) :: rest)) := by
  obtain ⟨hA, hB, hRr, hF, hH, hL, hSs, hO, hM⟩ := hR
  have hG := hRr r hr3
  have hR := hRr
  have hSp := hS
  refine gk_put hK.1 hK.2.2.1.1 hP hS (k := 5) hG rfl inlX3 tyX3 tyX3_ok nmX3 (by decide) q_7_1 (fun _ h => h) rfl rfl rfl (Nat.lt_of_lt_of_le (Nat.lt_succ_self 5) (Nat.le_of_ble_eq_true rfl)) hdg (fun H1 locs1 P1 S1 => kk H1 locs1 _ P1 S1 ?_)
  have hS := hSs
  exact ⟨rpA_keep hA (rp_off_of hG (by show 4 ≠ 5; decide)), rpB_keep hB (rp_off_of hG (by show 4 ≠ 14; decide)), (rpR_put hR hr3 (by simp [rp_eR, rp_u2]) (fun k hk => by funext j; simp [rp_u2, hk])), rpF_keep hF (rp_off_of hG (by show 4 ≠ 2; decide)), rpH_keep hH (rp_off_of hG (by show 4 ≠ 1; decide)), rpL_keep hL (rp_off_of hG (by show 4 ≠ 0; decide)) (rp_off_of hG (by show 4 ≠ 14; decide)), rpS_keep hS (rp_off_of hG (by show 4 ≠ 3; decide)), rpO_keep hO (rp_off_of hG (by show 4 ≠ 11; decide)), rpM_keep hM (rp_off_of hG (by show 4 ≠ 6; decide)) (rp_off_of hG (by show 4 ≠ 10; decide))⟩
theorem tr_58 (hK : gk_K p s m c args cc RX4 nL y A) (hP : gk_P (ly_D y) A G H) (hR : rp y G td ru fr lv lt et tl hf hp ol PS pf ov md mq mt mv) {r : Nat} (hr3 : r < 3) (hdg : decode cc pc = .ok (.getfield 58, 3)) (kk : W p l e R s m args below meth c H locs cells slots Q (F0 m (pc + 3) ls (.int (ru r 6) :: rest))) : W p l e R s m args below meth c H locs cells slots Q (F0 m pc ls (.ref (ly_f y 0 r) :: rest)) :=
  gk_get hK.1 hK.2.2.1.1 hP (k := 6) (hR.2.2.1 r hr3) rfl inlX3 (by decide) q_7_2 (fun _ h => h) rfl hdg kk
theorem tw_58 (hK : gk_K p s m c args cc RX4 nL y A) (hP : gk_P (ly_D y) A G H) (hS : va_S A s.heap H locs) (hR : rp y G td ru fr lv lt et tl hf hp ol PS pf ov md mq mt mv) {r : Nat} (hr3 : r < 3) {v : Int32} (hdg : decode cc pc = .ok (.putfield 58, 3))
    (kk : ∀ (H1 : Heap) (locs1 : List Loc) (G1 : gk_G), gk_P (ly_D y) A G1 H1 → va_S A s.heap H1 locs1 → rp y G1 td (rp_u2 ru r 6 v) fr lv lt et tl hf hp ol PS pf ov md mq mt mv → W p l e R s m args below meth c H1 locs1 cells slots Q (F0 m (pc + 3) ls rest)) : W p l e R s m args below meth c H locs cells slots Q (F0 m pc ls (.int v :: .ref (ly_f y 0 r) :: rest)) := by
  obtain ⟨hA, hB, hRr, hF, hH, hL, hSs, hO, hM⟩ := hR
  have hG := hRr r hr3
  have hR := hRr
  have hSp := hS
  refine gk_put hK.1 hK.2.2.1.1 hP hS (k := 6) hG rfl inlX3 tyX3 tyX3_ok nmX3 (by decide) q_7_2 (fun _ h => h) rfl rfl rfl (Nat.lt_of_lt_of_le (Nat.lt_succ_self 6) (Nat.le_of_ble_eq_true rfl)) hdg (fun H1 locs1 P1 S1 => kk H1 locs1 _ P1 S1 ?_)
  have hS := hSs
  exact ⟨rpA_keep hA (rp_off_of hG (by show 4 ≠ 5; decide)), rpB_keep hB (rp_off_of hG (by show 4 ≠ 14; decide)), (rpR_put hR hr3 (by simp [rp_eR, rp_u2]) (fun k hk => by funext j; simp [rp_u2, hk])), rpF_keep hF (rp_off_of hG (by show 4 ≠ 2; decide)), rpH_keep hH (rp_off_of hG (by show 4 ≠ 1; decide)), rpL_keep hL (rp_off_of hG (by show 4 ≠ 0; decide)) (rp_off_of hG (by show 4 ≠ 14; decide)), rpS_keep hS (rp_off_of hG (by show 4 ≠ 3; decide)), rpO_keep hO (rp_off_of hG (by show 4 ≠ 11; decide)), rpM_keep hM (rp_off_of hG (by show 4 ≠ 6; decide)) (rp_off_of hG (by show 4 ≠ 10; decide))⟩
theorem tr_61 (hK : gk_K p s m c args cc RX4 nL y A) (hP : gk_P (ly_D y) A G H) (hR : rp y G td ru fr lv lt et tl hf hp ol PS pf ov md mq mt mv) {r : Nat} (hr3 : r < 3) (hdg : decode cc pc = .ok (.getfield 61, 3)) (kk : W p l e R s m args below meth c H locs cells slots Q (F0 m (pc + 3) ls (.int (ru r 7) :: rest))) : W p l e R s m args below meth c H locs cells slots Q (F0 m pc ls (.ref (ly_f y 0 r) :: rest)) :=
  gk_get hK.1 hK.2.2.1.1 hP (k := 7) (hR.2.2.1 r hr3) rfl inlX3 (by decide) q_7_3 (fun _ h => h) rfl hdg kk
theorem tw_61 (hK : gk_K p s m c args cc RX4 nL y A) (hP : gk_P (ly_D y) A G H) (hS : va_S A s.heap H locs) (hR : rp y G td ru fr lv lt et tl hf hp ol PS pf ov md mq mt mv) {r : Nat} (hr3 : r < 3) {v : Int32} (hb : v = 0 ∨ v = 1) (hdg : decode cc pc = .ok (.putfield 61, 3))
    (kk : ∀ (H1 : Heap) (locs1 : List Loc) (G1 : gk_G), gk_P (ly_D y) A G1 H1 → va_S A s.heap H1 locs1 → rp y G1 td (rp_u2 ru r 7 v) fr lv lt et tl hf hp ol PS pf ov md mq mt mv → W p l e R s m args below meth c H1 locs1 cells slots Q (F0 m (pc + 3) ls rest)) : W p l e R s m args below meth c H locs cells slots Q (F0 m pc ls (.int v :: .ref (ly_f y 0 r) :: rest)) := by
  obtain ⟨hA, hB, hRr, hF, hH, hL, hSs, hO, hM⟩ := hR
  have hG := hRr r hr3
  have hR := hRr
  have hSp := hS
  refine gk_put hK.1 hK.2.2.1.1 hP hS (k := 7) hG rfl inlX3 tyX3 tyX3_ok nmX3 (by decide) q_7_3 (fun _ h => h) rfl (rp_nz hb).1 (rp_nz hb).2.1 (Nat.lt_of_lt_of_le (Nat.lt_succ_self 7) (Nat.le_of_ble_eq_true rfl)) hdg (fun H1 locs1 P1 S1 => kk H1 locs1 _ P1 S1 ?_)
  have hS := hSs
  exact ⟨rpA_keep hA (rp_off_of hG (by show 4 ≠ 5; decide)), rpB_keep hB (rp_off_of hG (by show 4 ≠ 14; decide)), (rpR_put hR hr3 (by simp [rp_eR, rp_u2]) (fun k hk => by funext j; simp [rp_u2, hk])), rpF_keep hF (rp_off_of hG (by show 4 ≠ 2; decide)), rpH_keep hH (rp_off_of hG (by show 4 ≠ 1; decide)), rpL_keep hL (rp_off_of hG (by show 4 ≠ 0; decide)) (rp_off_of hG (by show 4 ≠ 14; decide)), rpS_keep hS (rp_off_of hG (by show 4 ≠ 3; decide)), rpO_keep hO (rp_off_of hG (by show 4 ≠ 11; decide)), rpM_keep hM (rp_off_of hG (by show 4 ≠ 6; decide)) (rp_off_of hG (by show 4 ≠ 10; decide))⟩
theorem tr_65 (hK : gk_K p s m c args cc RX4 nL y A) (hP : gk_P (ly_D y) A G H) (hR : rp y G td ru fr lv lt et tl hf hp ol PS pf ov md mq mt mv) {r : Nat} (hr3 : r < 3) (hdg : decode cc pc = .ok (.getfield 65, 3)) (kk : W p l e R s m args below meth c H locs cells slots Q (F0 m (pc + 3) ls (.int (ru r 8) :: rest))) : W p l e R s m args below meth c H locs cells slots Q (F0 m pc ls (.ref (ly_f y 0 r) :: rest)) :=
  gk_get hK.1 hK.2.2.1.1 hP (k := 8) (hR.2.2.1 r hr3) rfl inlX3 (by decide) q_7_4 (fun _ h => h) rfl hdg kk
theorem tw_65 (hK : gk_K p s m c args cc RX4 nL y A) (hP : gk_P (ly_D y) A G H) (hS : va_S A s.heap H locs) (hR : rp y G td ru fr lv lt et tl hf hp ol PS pf ov md mq mt mv) {r : Nat} (hr3 : r < 3) {v : Int32} (hb : v = 0 ∨ v = 1) (hdg : decode cc pc = .ok (.putfield 65, 3))
    (kk : ∀ (H1 : Heap) (locs1 : List Loc) (G1 : gk_G), gk_P (ly_D y) A G1 H1 → va_S A s.heap H1 locs1 → rp y G1 td (rp_u2 ru r 8 v) fr lv lt et tl hf hp ol PS pf ov md mq mt mv → W p l e R s m args below meth c H1 locs1 cells slots Q (F0 m (pc + 3) ls rest)) : W p l e R s m args below meth c H locs cells slots Q (F0 m pc ls (.int v :: .ref (ly_f y 0 r) :: rest)) := by
  obtain ⟨hA, hB, hRr, hF, hH, hL, hSs, hO, hM⟩ := hR
  have hG := hRr r hr3
  have hR := hRr
  have hSp := hS
  refine gk_put hK.1 hK.2.2.1.1 hP hS (k := 8) hG rfl inlX3 tyX3 tyX3_ok nmX3 (by decide) q_7_4 (fun _ h => h) rfl (rp_nz hb).1 (rp_nz hb).2.1 (Nat.lt_of_lt_of_le (Nat.lt_succ_self 8) (Nat.le_of_ble_eq_true rfl)) hdg (fun H1 locs1 P1 S1 => kk H1 locs1 _ P1 S1 ?_)
  have hS := hSs
  exact ⟨rpA_keep hA (rp_off_of hG (by show 4 ≠ 5; decide)), rpB_keep hB (rp_off_of hG (by show 4 ≠ 14; decide)), (rpR_put hR hr3 (by simp [rp_eR, rp_u2]) (fun k hk => by funext j; simp [rp_u2, hk])), rpF_keep hF (rp_off_of hG (by show 4 ≠ 2; decide)), rpH_keep hH (rp_off_of hG (by show 4 ≠ 1; decide)), rpL_keep hL (rp_off_of hG (by show 4 ≠ 0; decide)) (rp_off_of hG (by show 4 ≠ 14; decide)), rpS_keep hS (rp_off_of hG (by show 4 ≠ 3; decide)), rpO_keep hO (rp_off_of hG (by show 4 ≠ 11; decide)), rpM_keep hM (rp_off_of hG (by show 4 ≠ 6; decide)) (rp_off_of hG (by show 4 ≠ 10; decide))⟩
theorem tr_68 (hK : gk_K p s m c args cc RX4 nL y A) (hP : gk_P (ly_D y) A G H) (hR : rp y G td ru fr lv lt et tl hf hp ol PS pf ov md mq mt mv) {r : Nat} (hr3 : r < 3) (hdg : decode cc pc = .ok (.getfield 68, 3)) (kk : W p l e R s m args below meth c H locs cells slots Q (F0 m (pc + 3) ls (.int (ru r 9) :: rest))) : W p l e R s m args below meth c H locs cells slots Q (F0 m pc ls (.ref (ly_f y 0 r) :: rest)) :=
  gk_get hK.1 hK.2.2.1.1 hP (k := 9) (hR.2.2.1 r hr3) rfl inlX3 (by decide) q_7_5 (fun _ h => h) rfl hdg kk
theorem tw_68 (hK : gk_K p s m c args cc RX4 nL y A) (hP : gk_P (ly_D y) A G H) (hS : va_S A s.heap H locs) (hR : rp y G td ru fr lv lt et tl hf hp ol PS pf ov md mq mt mv) {r : Nat} (hr3 : r < 3) {v : Int32} (hb : v = 0 ∨ v = 1) (hdg : decode cc pc = .ok (.putfield 68, 3))
    (kk : ∀ (H1 : Heap) (locs1 : List Loc) (G1 : gk_G), gk_P (ly_D y) A G1 H1 → va_S A s.heap H1 locs1 → rp y G1 td (rp_u2 ru r 9 v) fr lv lt et tl hf hp ol PS pf ov md mq mt mv → W p l e R s m args below meth c H1 locs1 cells slots Q (F0 m (pc + 3) ls rest)) : W p l e R s m args below meth c H locs cells slots Q (F0 m pc ls (.int v :: .ref (ly_f y 0 r) :: rest)) := by
  obtain ⟨hA, hB, hRr, hF, hH, hL, hSs, hO, hM⟩ := hR
  have hG := hRr r hr3
  have hR := hRr
  have hSp := hS
  refine gk_put hK.1 hK.2.2.1.1 hP hS (k := 9) hG rfl inlX3 tyX3 tyX3_ok nmX3 (by decide) q_7_5 (fun _ h => h) rfl (rp_nz hb).1 (rp_nz hb).2.1 (Nat.lt_of_lt_of_le (Nat.lt_succ_self 9) (Nat.le_of_ble_eq_true rfl)) hdg (fun H1 locs1 P1 S1 => kk H1 locs1 _ P1 S1 ?_)
  have hS := hSs
  exact ⟨rpA_keep hA (rp_off_of hG (by show 4 ≠ 5; decide)), rpB_keep hB (rp_off_of hG (by show 4 ≠ 14; decide)), (rpR_put hR hr3 (by simp [rp_eR, rp_u2]) (fun k hk => by funext j; simp [rp_u2, hk])), rpF_keep hF (rp_off_of hG (by show 4 ≠ 2; decide)), rpH_keep hH (rp_off_of hG (by show 4 ≠ 1; decide)), rpL_keep hL (rp_off_of hG (by show 4 ≠ 0; decide)) (rp_off_of hG (by show 4 ≠ 14; decide)), rpS_keep hS (rp_off_of hG (by show 4 ≠ 3; decide)), rpO_keep hO (rp_off_of hG (by show 4 ≠ 11; decide)), rpM_keep hM (rp_off_of hG (by show 4 ≠ 6; decide)) (rp_off_of hG (by show 4 ≠ 10; decide))⟩
theorem tr_86 (hK : gk_K p s m c args cc RX4 nL y A) (hP : gk_P (ly_D y) A G H) (hR : rp y G td ru fr lv lt et tl hf hp ol PS pf ov md mq mt mv) {h : Nat} (hh4 : h < 4) (hdg : decode cc pc = .ok (.getfield 86, 3)) (kk : W p l e R s m args below meth c H locs cells slots Q (F0 m (pc + 3) ls (va_rf ((hf h).map (ly_f y 1)) :: rest))) : W p l e R s m args below meth c H locs cells slots Q (F0 m pc ls (.ref (ly_f y 2 h) :: rest)) :=
  gk_get hK.1 hK.2.2.1.1 hP (k := 0) ((hR.2.2.2.2.1.1 h hh4).2) rfl inlX0 (by decide) q_8_13 (fun _ h => h) rfl hdg kk
theorem tr_94 (hK : gk_K p s m c args cc RX4 nL y A) (hP : gk_P (ly_D y) A G H) (hR : rp y G td ru fr lv lt et tl hf hp ol PS pf ov md mq mt mv) {h : Nat} (hh4 : h < 4) (hdg : decode cc pc = .ok (.getfield 94, 3)) (kk : W p l e R s m args below meth c H locs cells slots Q (F0 m (pc + 3) ls (va_rf (hp h) :: rest))) : W p l e R s m args below meth c H locs cells slots Q (F0 m pc ls (.ref (ly_f y 2 h) :: rest)) :=
  gk_get hK.1 hK.2.2.1.1 hP (k := 1) ((hR.2.2.2.2.1.1 h hh4).2) rfl inlX0 (by decide) q_8_15 (fun _ h => h) rfl hdg kk
theorem tw_86 (hK : gk_K p s m c args cc RX4 nL y A) (hP : gk_P (ly_D y) A G H) (hS : va_S A s.heap H locs) (hR : rp y G td ru fr lv lt et tl hf hp ol PS pf ov md mq mt mv) {h : Nat} (hh4 : h < 4) (o : Option Nat) (ho : ∀ f, o = some f → f < 5) (hdg : decode cc pc = .ok (.putfield 86, 3))
    (kk : ∀ (H1 : Heap) (locs1 : List Loc) (G1 : gk_G), gk_P (ly_D y) A G1 H1 → va_S A s.heap H1 locs1 → rp y G1 td ru fr lv lt et tl (va_up hf h o) hp ol PS pf ov md mq mt mv → W p l e R s m args below meth c H1 locs1 cells slots Q (F0 m (pc + 3) ls rest)) : W p l e R s m args below meth c H locs cells slots Q (F0 m pc ls (va_rf (o.map (ly_f y 1)) :: .ref (ly_f y 2 h) :: rest)) := by
  obtain ⟨hA, hB, hRr, hF, hH, hL, hSs, hO, hM⟩ := hR
  have hG := (hH.1 h hh4).2
  have hR := hRr
  have hSp := hS
  refine gk_put hK.1 hK.2.2.1.1 hP hS (k := 0) hG rfl inlX0 tyX0 tyX0_ok nmX0 (by decide) q_8_13 (fun _ h => h) rfl rp_nq.1 rp_nq.2 (Nat.lt_of_lt_of_le (Nat.lt_succ_self 0) (Nat.le_of_ble_eq_true rfl)) hdg (fun H1 locs1 P1 S1 => kk H1 locs1 _ P1 S1 ?_)
  have hS := hSs
  exact ⟨rpA_keep hA (rp_off_of hG (by show 1 ≠ 5; decide)), rpB_keep hB (rp_off_of hG (by show 1 ≠ 14; decide)), rpR_keep hR (rp_off_of hG (by show 1 ≠ 4; decide)), rpF_keep hF (rp_off_of hG (by show 1 ≠ 2; decide)), (rpH_put hH hh4 (by rw [va_up_self]; exact ho) (by simp only [rp_eH, va_up_self]; rfl) (fun k hk => ⟨va_up_ne _ _ hk, rfl⟩)), rpL_keep hL (rp_off_of hG (by show 1 ≠ 0; decide)) (rp_off_of hG (by show 1 ≠ 14; decide)), rpS_keep hS (rp_off_of hG (by show 1 ≠ 3; decide)), rpO_keep hO (rp_off_of hG (by show 1 ≠ 11; decide)), rpM_keep hM (rp_off_of hG (by show 1 ≠ 6; decide)) (rp_off_of hG (by show 1 ≠ 10; decide))⟩
theorem tw_94 (hK : gk_K p s m c args cc RX4 nL y A) (hP : gk_P (ly_D y) A G H) (hS : va_S A s.heap H locs) (hR : rp y G td ru fr lv lt et tl hf hp ol PS pf ov md mq mt mv) {h : Nat} (hh4 : h < 4) (o : Option Nat) (hdg : decode cc pc = .ok (.putfield 94, 3))
    (kk : ∀ (H1 : Heap) (locs1 : List Loc) (G1 : gk_G), gk_P (ly_D y) A G1 H1 → va_S A s.heap H1 locs1 → rp y G1 td ru fr lv lt et tl hf (va_up hp h o) ol PS pf ov md mq mt mv → W p l e R s m args below meth c H1 locs1 cells slots Q (F0 m (pc + 3) ls rest)) : W p l e R s m args below meth c H locs cells slots Q (F0 m pc ls (va_rf o :: .ref (ly_f y 2 h) :: rest)) := by
  obtain ⟨hA, hB, hRr, hF, hH, hL, hSs, hO, hM⟩ := hR
  have hG := (hH.1 h hh4).2
  have hR := hRr
  have hSp := hS
  refine gk_put hK.1 hK.2.2.1.1 hP hS (k := 1) hG rfl inlX0 tyX0 tyX0_ok nmX0 (by decide) q_8_15 (fun _ h => h) rfl rp_nq.1 rp_nq.2 (Nat.lt_of_lt_of_le (Nat.lt_succ_self 1) (Nat.le_of_ble_eq_true rfl)) hdg (fun H1 locs1 P1 S1 => kk H1 locs1 _ P1 S1 ?_)
  have hS := hSs
  exact ⟨rpA_keep hA (rp_off_of hG (by show 1 ≠ 5; decide)), rpB_keep hB (rp_off_of hG (by show 1 ≠ 14; decide)), rpR_keep hR (rp_off_of hG (by show 1 ≠ 4; decide)), rpF_keep hF (rp_off_of hG (by show 1 ≠ 2; decide)), (rpH_put hH hh4 (hH.1 h hh4).1 (by simp only [rp_eH, va_up_self]; rfl) (fun k hk => ⟨rfl, va_up_ne _ _ hk⟩)), rpL_keep hL (rp_off_of hG (by show 1 ≠ 0; decide)) (rp_off_of hG (by show 1 ≠ 14; decide)), rpS_keep hS (rp_off_of hG (by show 1 ≠ 3; decide)), rpO_keep hO (rp_off_of hG (by show 1 ≠ 11; decide)), rpM_keep hM (rp_off_of hG (by show 1 ≠ 6; decide)) (rp_off_of hG (by show 1 ≠ 10; decide))⟩
theorem tr_104 (hK : gk_K p s m c args cc RX4 nL y A) (hP : gk_P (ly_D y) A G H) (hR : rp y G td ru fr lv lt et tl hf hp ol PS pf ov md mq mt mv) {t : Nat} (ht : PS t) (hdg : decode cc pc = .ok (.getfield 104, 3)) (kk : W p l e R s m args below meth c H locs cells slots Q (F0 m (pc + 3) ls (.int (pf 0 t) :: rest))) : W p l e R s m args below meth c H locs cells slots Q (F0 m pc ls (.ref t :: rest)) :=
  gk_get hK.1 hK.2.2.1.1 hP (k := 0) (hR.2.2.2.2.2.2.1 t ht) rfl inlX2 (by decide) q_10_11 (fun _ h => h) rfl hdg kk
theorem tw_104 (hK : gk_K p s m c args cc RX4 nL y A) (hP : gk_P (ly_D y) A G H) (hS : va_S A s.heap H locs) (hR : rp y G td ru fr lv lt et tl hf hp ol PS pf ov md mq mt mv) {t : Nat} (ht : PS t) {v : Int32} (hdg : decode cc pc = .ok (.putfield 104, 3))
    (kk : ∀ (H1 : Heap) (locs1 : List Loc) (G1 : gk_G), gk_P (ly_D y) A G1 H1 → va_S A s.heap H1 locs1 → rp y G1 td ru fr lv lt et tl hf hp ol PS (rp_u2 pf 0 t v) ov md mq mt mv → W p l e R s m args below meth c H1 locs1 cells slots Q (F0 m (pc + 3) ls rest)) : W p l e R s m args below meth c H locs cells slots Q (F0 m pc ls (.int v :: .ref t :: rest)) := by
  obtain ⟨hA, hB, hRr, hF, hH, hL, hSs, hO, hM⟩ := hR
  have hG := hSs t ht
  have hR := hRr
  have hSp := hS
  refine gk_put hK.1 hK.2.2.1.1 hP hS (k := 0) hG rfl inlX2 tyX2 tyX2_ok nmX2 (by decide) q_10_11 (fun _ h => h) rfl rfl rfl (Nat.lt_of_lt_of_le (Nat.lt_succ_self 0) (Nat.le_of_ble_eq_true rfl)) hdg (fun H1 locs1 P1 S1 => kk H1 locs1 _ P1 S1 ?_)
  have hS := hSs
  exact ⟨rpA_keep hA (rp_off_of hG (by show 3 ≠ 5; decide)), rpB_keep hB (rp_off_of hG (by show 3 ≠ 14; decide)), rpR_keep hR (rp_off_of hG (by show 3 ≠ 4; decide)), rpF_keep hF (rp_off_of hG (by show 3 ≠ 2; decide)), rpH_keep hH (rp_off_of hG (by show 3 ≠ 1; decide)), rpL_keep hL (rp_off_of hG (by show 3 ≠ 0; decide)) (rp_off_of hG (by show 3 ≠ 14; decide)), (rpS_put hS (by simp [rp_eS, rp_u2]) (fun k j hj => by simp [rp_u2, hj])), rpO_keep hO (rp_off_of hG (by show 3 ≠ 11; decide)), rpM_keep hM (rp_off_of hG (by show 3 ≠ 6; decide)) (rp_off_of hG (by show 3 ≠ 10; decide))⟩
theorem tr_150 (hK : gk_K p s m c args cc RX4 nL y A) (hP : gk_P (ly_D y) A G H) (hR : rp y G td ru fr lv lt et tl hf hp ol PS pf ov md mq mt mv) {t : Nat} (ht : PS t) (hdg : decode cc pc = .ok (.getfield 150, 3)) (kk : W p l e R s m args below meth c H locs cells slots Q (F0 m (pc + 3) ls (.int (pf 1 t) :: rest))) : W p l e R s m args below meth c H locs cells slots Q (F0 m pc ls (.ref t :: rest)) :=
  gk_get hK.1 hK.2.2.1.1 hP (k := 1) (hR.2.2.2.2.2.2.1 t ht) rfl inlX2 (by decide) q_12_8 (fun _ h => h) rfl hdg kk
theorem tw_150 (hK : gk_K p s m c args cc RX4 nL y A) (hP : gk_P (ly_D y) A G H) (hS : va_S A s.heap H locs) (hR : rp y G td ru fr lv lt et tl hf hp ol PS pf ov md mq mt mv) {t : Nat} (ht : PS t) {v : Int32} (hdg : decode cc pc = .ok (.putfield 150, 3))
    (kk : ∀ (H1 : Heap) (locs1 : List Loc) (G1 : gk_G), gk_P (ly_D y) A G1 H1 → va_S A s.heap H1 locs1 → rp y G1 td ru fr lv lt et tl hf hp ol PS (rp_u2 pf 1 t v) ov md mq mt mv → W p l e R s m args below meth c H1 locs1 cells slots Q (F0 m (pc + 3) ls rest)) : W p l e R s m args below meth c H locs cells slots Q (F0 m pc ls (.int v :: .ref t :: rest)) := by
  obtain ⟨hA, hB, hRr, hF, hH, hL, hSs, hO, hM⟩ := hR
  have hG := hSs t ht
  have hR := hRr
  have hSp := hS
  refine gk_put hK.1 hK.2.2.1.1 hP hS (k := 1) hG rfl inlX2 tyX2 tyX2_ok nmX2 (by decide) q_12_8 (fun _ h => h) rfl rfl rfl (Nat.lt_of_lt_of_le (Nat.lt_succ_self 1) (Nat.le_of_ble_eq_true rfl)) hdg (fun H1 locs1 P1 S1 => kk H1 locs1 _ P1 S1 ?_)
  have hS := hSs
  exact ⟨rpA_keep hA (rp_off_of hG (by show 3 ≠ 5; decide)), rpB_keep hB (rp_off_of hG (by show 3 ≠ 14; decide)), rpR_keep hR (rp_off_of hG (by show 3 ≠ 4; decide)), rpF_keep hF (rp_off_of hG (by show 3 ≠ 2; decide)), rpH_keep hH (rp_off_of hG (by show 3 ≠ 1; decide)), rpL_keep hL (rp_off_of hG (by show 3 ≠ 0; decide)) (rp_off_of hG (by show 3 ≠ 14; decide)), (rpS_put hS (by simp [rp_eS, rp_u2]) (fun k j hj => by simp [rp_u2, hj])), rpO_keep hO (rp_off_of hG (by show 3 ≠ 11; decide)), rpM_keep hM (rp_off_of hG (by show 3 ≠ 6; decide)) (rp_off_of hG (by show 3 ≠ 10; decide))⟩
theorem tr_157 (hK : gk_K p s m c args cc RX4 nL y A) (hP : gk_P (ly_D y) A G H) (hR : rp y G td ru fr lv lt et tl hf hp ol PS pf ov md mq mt mv) {t : Nat} (ht : PS t) (hdg : decode cc pc = .ok (.getfield 157, 3)) (kk : W p l e R s m args below meth c H locs cells slots Q (F0 m (pc + 3) ls (.int (pf 2 t) :: rest))) : W p l e R s m args below meth c H locs cells slots Q (F0 m pc ls (.ref t :: rest)) :=
  gk_get hK.1 hK.2.2.1.1 hP (k := 2) (hR.2.2.2.2.2.2.1 t ht) rfl inlX2 (by decide) q_15_4 (fun _ h => h) rfl hdg kk
theorem tw_157 (hK : gk_K p s m c args cc RX4 nL y A) (hP : gk_P (ly_D y) A G H) (hS : va_S A s.heap H locs) (hR : rp y G td ru fr lv lt et tl hf hp ol PS pf ov md mq mt mv) {t : Nat} (ht : PS t) {v : Int32} (hb : v = 0 ∨ v = 1) (hdg : decode cc pc = .ok (.putfield 157, 3))
    (kk : ∀ (H1 : Heap) (locs1 : List Loc) (G1 : gk_G), gk_P (ly_D y) A G1 H1 → va_S A s.heap H1 locs1 → rp y G1 td ru fr lv lt et tl hf hp ol PS (rp_u2 pf 2 t v) ov md mq mt mv → W p l e R s m args below meth c H1 locs1 cells slots Q (F0 m (pc + 3) ls rest)) : W p l e R s m args below meth c H locs cells slots Q (F0 m pc ls (.int v :: .ref t :: rest)) := by
  obtain ⟨hA, hB, hRr, hF, hH, hL, hSs, hO, hM⟩ := hR
  have hG := hSs t ht
  have hR := hRr
  have hSp := hS
  refine gk_put hK.1 hK.2.2.1.1 hP hS (k := 2) hG rfl inlX2 tyX2 tyX2_ok nmX2 (by decide) q_15_4 (fun _ h => h) rfl (rp_nz hb).1 (rp_nz hb).2.1 (Nat.lt_of_lt_of_le (Nat.lt_succ_self 2) (Nat.le_of_ble_eq_true rfl)) hdg (fun H1 locs1 P1 S1 => kk H1 locs1 _ P1 S1 ?_)
  have hS := hSs
  exact ⟨rpA_keep hA (rp_off_of hG (by show 3 ≠ 5; decide)), rpB_keep hB (rp_off_of hG (by show 3 ≠ 14; decide)), rpR_keep hR (rp_off_of hG (by show 3 ≠ 4; decide)), rpF_keep hF (rp_off_of hG (by show 3 ≠ 2; decide)), rpH_keep hH (rp_off_of hG (by show 3 ≠ 1; decide)), rpL_keep hL (rp_off_of hG (by show 3 ≠ 0; decide)) (rp_off_of hG (by show 3 ≠ 14; decide)), (rpS_put hS (by simp [rp_eS, rp_u2]) (fun k j hj => by simp [rp_u2, hj])), rpO_keep hO (rp_off_of hG (by show 3 ≠ 11; decide)), rpM_keep hM (rp_off_of hG (by show 3 ≠ 6; decide)) (rp_off_of hG (by show 3 ≠ 10; decide))⟩
theorem ta_rules (hK : gk_K p s m c args cc own nL y A) (hP : gk_P (ly_D y) A G H) (hR : rp y G td ru fr lv lt et tl hf hp ol PS pf ov md mq mt mv) {i : Nat} (hi : i < 3) (hdg : decode cc pc = .ok (.aaload, 1)) (kk : W p l e R s m args below meth c H locs cells slots Q (F0 m (pc + 1) ls (.ref (ly_f y 0 i) :: rest))) : W p l e R s m args below meth c H locs cells slots Q (F0 m pc ls (.int (nI i) :: .ref (ly_a y 1) :: rest)) := by
  obtain ⟨g, h1, h2⟩ := hR.2.1.1
  refine gk_aald hK.1 hK.2.2.1.1 hP 3 (C := RX3) h1 rfl (vp_in_nI hi (by decide)) hdg ?_
  rw [nI_clamp (Nat.lt_trans hi (by decide)), h2 i hi]
  exact kk
theorem ta_files (hK : gk_K p s m c args cc own nL y A) (hP : gk_P (ly_D y) A G H) (hR : rp y G td ru fr lv lt et tl hf hp ol PS pf ov md mq mt mv) {i : Nat} (hi : i < 5) (hdg : decode cc pc = .ok (.aaload, 1)) (kk : W p l e R s m args below meth c H locs cells slots Q (F0 m (pc + 1) ls (.ref (ly_f y 1 i) :: rest))) : W p l e R s m args below meth c H locs cells slots Q (F0 m pc ls (.int (nI i) :: .ref (ly_a y 2) :: rest)) := by
  obtain ⟨g, h1, h2⟩ := hR.2.1.2.1
  refine gk_aald hK.1 hK.2.2.1.1 hP 4 (C := RX1) h1 rfl (vp_in_nI hi (by decide)) hdg ?_
  rw [nI_clamp (Nat.lt_trans hi (by decide)), h2 i hi]
  exact kk
theorem ta_holders (hK : gk_K p s m c args cc own nL y A) (hP : gk_P (ly_D y) A G H) (hR : rp y G td ru fr lv lt et tl hf hp ol PS pf ov md mq mt mv) {i : Nat} (hi : i < 4) (hdg : decode cc pc = .ok (.aaload, 1)) (kk : W p l e R s m args below meth c H locs cells slots Q (F0 m (pc + 1) ls (.ref (ly_f y 2 i) :: rest))) : W p l e R s m args below meth c H locs cells slots Q (F0 m pc ls (.int (nI i) :: .ref (ly_a y 3) :: rest)) := by
  obtain ⟨g, h1, h2⟩ := hR.2.1.2.2
  refine gk_aald hK.1 hK.2.2.1.1 hP 5 (C := RX0) h1 rfl (vp_in_nI hi (by decide)) hdg ?_
  rw [nI_clamp (Nat.lt_trans hi (by decide)), h2 i hi]
  exact kk
theorem mr_7 (hK : gk_K p s m c args cc RX5 nL y A) (hP : gk_P (ly_D y) A G H) (hR : rp y G td ru fr lv lt et tl hf hp ol PS pf ov md mq mt mv) (hdg : decode cc pc = .ok (.getfield 7, 3)) (kk : W p l e R s m args below meth c H locs cells slots Q (F0 m (pc + 3) ls (.ref (ly_f y 4 0) :: rest))) : W p l e R s m args below meth c H locs cells slots Q (F0 m pc ls (.ref (ly_a y 5) :: rest)) :=
  gk_get hK.1 hK.2.2.1.1 hP (k := 1) (hR.2.2.2.2.2.2.2.2.1) rfl inlX5 (by decide) q_4_1 (fun _ h => h) rfl hdg kk
theorem mr_13 (hK : gk_K p s m c args cc RX5 nL y A) (hP : gk_P (ly_D y) A G H) (hR : rp y G td ru fr lv lt et tl hf hp ol PS pf ov md mq mt mv) (hdg : decode cc pc = .ok (.getfield 13, 3)) (kk : W p l e R s m args below meth c H locs cells slots Q (F0 m (pc + 3) ls (.ref (ly_f y 4 1) :: rest))) : W p l e R s m args below meth c H locs cells slots Q (F0 m pc ls (.ref (ly_a y 5) :: rest)) :=
  gk_get hK.1 hK.2.2.1.1 hP (k := 2) (hR.2.2.2.2.2.2.2.2.1) rfl inlX5 (by decide) q_4_2 (fun _ h => h) rfl hdg kk
theorem mr_16 (hK : gk_K p s m c args cc RX5 nL y A) (hP : gk_P (ly_D y) A G H) (hR : rp y G td ru fr lv lt et tl hf hp ol PS pf ov md mq mt mv) (hdg : decode cc pc = .ok (.getfield 16, 3)) (kk : W p l e R s m args below meth c H locs cells slots Q (F0 m (pc + 3) ls (.ref (ly_f y 4 2) :: rest))) : W p l e R s m args below meth c H locs cells slots Q (F0 m pc ls (.ref (ly_a y 5) :: rest)) :=
  gk_get hK.1 hK.2.2.1.1 hP (k := 3) (hR.2.2.2.2.2.2.2.2.1) rfl inlX5 (by decide) q_4_3 (fun _ h => h) rfl hdg kk
theorem mr_19 (hK : gk_K p s m c args cc RX5 nL y A) (hP : gk_P (ly_D y) A G H) (hR : rp y G td ru fr lv lt et tl hf hp ol PS pf ov md mq mt mv) (hdg : decode cc pc = .ok (.getfield 19, 3)) (kk : W p l e R s m args below meth c H locs cells slots Q (F0 m (pc + 3) ls (.ref (ly_f y 4 3) :: rest))) : W p l e R s m args below meth c H locs cells slots Q (F0 m pc ls (.ref (ly_a y 5) :: rest)) :=
  gk_get hK.1 hK.2.2.1.1 hP (k := 4) (hR.2.2.2.2.2.2.2.2.1) rfl inlX5 (by decide) q_4_4 (fun _ h => h) rfl hdg kk
theorem mr_22 (hK : gk_K p s m c args cc RX5 nL y A) (hP : gk_P (ly_D y) A G H) (hR : rp y G td ru fr lv lt et tl hf hp ol PS pf ov md mq mt mv) (hdg : decode cc pc = .ok (.getfield 22, 3)) (kk : W p l e R s m args below meth c H locs cells slots Q (F0 m (pc + 3) ls (.ref (ly_f y 4 4) :: rest))) : W p l e R s m args below meth c H locs cells slots Q (F0 m pc ls (.ref (ly_a y 5) :: rest)) :=
  gk_get hK.1 hK.2.2.1.1 hP (k := 5) (hR.2.2.2.2.2.2.2.2.1) rfl inlX5 (by decide) q_4_5 (fun _ h => h) rfl hdg kk
theorem mr_25 (hK : gk_K p s m c args cc RX5 nL y A) (hP : gk_P (ly_D y) A G H) (hR : rp y G td ru fr lv lt et tl hf hp ol PS pf ov md mq mt mv) (hdg : decode cc pc = .ok (.getfield 25, 3)) (kk : W p l e R s m args below meth c H locs cells slots Q (F0 m (pc + 3) ls (.ref (ly_f y 4 5) :: rest))) : W p l e R s m args below meth c H locs cells slots Q (F0 m pc ls (.ref (ly_a y 5) :: rest)) :=
  gk_get hK.1 hK.2.2.1.1 hP (k := 6) (hR.2.2.2.2.2.2.2.2.1) rfl inlX5 (by decide) q_4_6 (fun _ h => h) rfl hdg kk
theorem mr_28 (hK : gk_K p s m c args cc RX5 nL y A) (hP : gk_P (ly_D y) A G H) (hR : rp y G td ru fr lv lt et tl hf hp ol PS pf ov md mq mt mv) (hdg : decode cc pc = .ok (.getfield 28, 3)) (kk : W p l e R s m args below meth c H locs cells slots Q (F0 m (pc + 3) ls (.ref (ly_f y 4 6) :: rest))) : W p l e R s m args below meth c H locs cells slots Q (F0 m pc ls (.ref (ly_a y 5) :: rest)) :=
  gk_get hK.1 hK.2.2.1.1 hP (k := 7) (hR.2.2.2.2.2.2.2.2.1) rfl inlX5 (by decide) q_4_8 (fun _ h => h) rfl hdg kk
theorem mr_32 (hK : gk_K p s m c args cc RX5 nL y A) (hP : gk_P (ly_D y) A G H) (hR : rp y G td ru fr lv lt et tl hf hp ol PS pf ov md mq mt mv) (hdg : decode cc pc = .ok (.getfield 32, 3)) (kk : W p l e R s m args below meth c H locs cells slots Q (F0 m (pc + 3) ls (.ref (ly_f y 4 7) :: rest))) : W p l e R s m args below meth c H locs cells slots Q (F0 m pc ls (.ref (ly_a y 5) :: rest)) :=
  gk_get hK.1 hK.2.2.1.1 hP (k := 8) (hR.2.2.2.2.2.2.2.2.1) rfl inlX5 (by decide) q_4_9 (fun _ h => h) rfl hdg kk
theorem mr_35 (hK : gk_K p s m c args cc RX5 nL y A) (hP : gk_P (ly_D y) A G H) (hR : rp y G td ru fr lv lt et tl hf hp ol PS pf ov md mq mt mv) (hdg : decode cc pc = .ok (.getfield 35, 3)) (kk : W p l e R s m args below meth c H locs cells slots Q (F0 m (pc + 3) ls (.ref (ly_f y 4 8) :: rest))) : W p l e R s m args below meth c H locs cells slots Q (F0 m pc ls (.ref (ly_a y 5) :: rest)) :=
  gk_get hK.1 hK.2.2.1.1 hP (k := 9) (hR.2.2.2.2.2.2.2.2.1) rfl inlX5 (by decide) q_4_10 (fun _ h => h) rfl hdg kk
theorem mr_38 (hK : gk_K p s m c args cc RX5 nL y A) (hP : gk_P (ly_D y) A G H) (hR : rp y G td ru fr lv lt et tl hf hp ol PS pf ov md mq mt mv) (hdg : decode cc pc = .ok (.getfield 38, 3)) (kk : W p l e R s m args below meth c H locs cells slots Q (F0 m (pc + 3) ls (.ref (ly_f y 4 9) :: rest))) : W p l e R s m args below meth c H locs cells slots Q (F0 m pc ls (.ref (ly_a y 5) :: rest)) :=
  gk_get hK.1 hK.2.2.1.1 hP (k := 10) (hR.2.2.2.2.2.2.2.2.1) rfl inlX5 (by decide) q_4_11 (fun _ h => h) rfl hdg kk
theorem mr_41 (hK : gk_K p s m c args cc RX5 nL y A) (hP : gk_P (ly_D y) A G H) (hR : rp y G td ru fr lv lt et tl hf hp ol PS pf ov md mq mt mv) (hdg : decode cc pc = .ok (.getfield 41, 3)) (kk : W p l e R s m args below meth c H locs cells slots Q (F0 m (pc + 3) ls (.ref (ly_f y 4 10) :: rest))) : W p l e R s m args below meth c H locs cells slots Q (F0 m pc ls (.ref (ly_a y 5) :: rest)) :=
  gk_get hK.1 hK.2.2.1.1 hP (k := 11) (hR.2.2.2.2.2.2.2.2.1) rfl inlX5 (by decide) q_4_12 (fun _ h => h) rfl hdg kk
theorem mr_44 (hK : gk_K p s m c args cc RX5 nL y A) (hP : gk_P (ly_D y) A G H) (hR : rp y G td ru fr lv lt et tl hf hp ol PS pf ov md mq mt mv) (hdg : decode cc pc = .ok (.getfield 44, 3)) (kk : W p l e R s m args below meth c H locs cells slots Q (F0 m (pc + 3) ls (.ref (ly_f y 4 11) :: rest))) : W p l e R s m args below meth c H locs cells slots Q (F0 m pc ls (.ref (ly_a y 5) :: rest)) :=
  gk_get hK.1 hK.2.2.1.1 hP (k := 12) (hR.2.2.2.2.2.2.2.2.1) rfl inlX5 (by decide) q_4_13 (fun _ h => h) rfl hdg kk
theorem mr_47 (hK : gk_K p s m c args cc RX5 nL y A) (hP : gk_P (ly_D y) A G H) (hR : rp y G td ru fr lv lt et tl hf hp ol PS pf ov md mq mt mv) (hdg : decode cc pc = .ok (.getfield 47, 3)) (kk : W p l e R s m args below meth c H locs cells slots Q (F0 m (pc + 3) ls (.ref (ly_f y 4 12) :: rest))) : W p l e R s m args below meth c H locs cells slots Q (F0 m pc ls (.ref (ly_a y 5) :: rest)) :=
  gk_get hK.1 hK.2.2.1.1 hP (k := 13) (hR.2.2.2.2.2.2.2.2.1) rfl inlX5 (by decide) q_4_14 (fun _ h => h) rfl hdg kk
theorem mr_50 (hK : gk_K p s m c args cc RX5 nL y A) (hP : gk_P (ly_D y) A G H) (hR : rp y G td ru fr lv lt et tl hf hp ol PS pf ov md mq mt mv) (hdg : decode cc pc = .ok (.getfield 50, 3)) (kk : W p l e R s m args below meth c H locs cells slots Q (F0 m (pc + 3) ls (.ref (ly_f y 4 13) :: rest))) : W p l e R s m args below meth c H locs cells slots Q (F0 m pc ls (.ref (ly_a y 5) :: rest)) :=
  gk_get hK.1 hK.2.2.1.1 hP (k := 14) (hR.2.2.2.2.2.2.2.2.1) rfl inlX5 (by decide) q_4_15 (fun _ h => h) rfl hdg kk
theorem mr_53 (hK : gk_K p s m c args cc RX5 nL y A) (hP : gk_P (ly_D y) A G H) (hR : rp y G td ru fr lv lt et tl hf hp ol PS pf ov md mq mt mv) (hdg : decode cc pc = .ok (.getfield 53, 3)) (kk : W p l e R s m args below meth c H locs cells slots Q (F0 m (pc + 3) ls (.ref (ly_f y 4 14) :: rest))) : W p l e R s m args below meth c H locs cells slots Q (F0 m pc ls (.ref (ly_a y 5) :: rest)) :=
  gk_get hK.1 hK.2.2.1.1 hP (k := 16) (hR.2.2.2.2.2.2.2.2.1) rfl inlX5 (by decide) q_4_16 (fun _ h => h) rfl hdg kk
theorem mr_56 (hK : gk_K p s m c args cc RX5 nL y A) (hP : gk_P (ly_D y) A G H) (hR : rp y G td ru fr lv lt et tl hf hp ol PS pf ov md mq mt mv) (hdg : decode cc pc = .ok (.getfield 56, 3)) (kk : W p l e R s m args below meth c H locs cells slots Q (F0 m (pc + 3) ls (.ref (ly_f y 4 15) :: rest))) : W p l e R s m args below meth c H locs cells slots Q (F0 m pc ls (.ref (ly_a y 5) :: rest)) :=
  gk_get hK.1 hK.2.2.1.1 hP (k := 17) (hR.2.2.2.2.2.2.2.2.1) rfl inlX5 (by decide) q_4_17 (fun _ h => h) rfl hdg kk
theorem mr_59 (hK : gk_K p s m c args cc RX5 nL y A) (hP : gk_P (ly_D y) A G H) (hR : rp y G td ru fr lv lt et tl hf hp ol PS pf ov md mq mt mv) (hdg : decode cc pc = .ok (.getfield 59, 3)) (kk : W p l e R s m args below meth c H locs cells slots Q (F0 m (pc + 3) ls (.ref (ly_f y 4 16) :: rest))) : W p l e R s m args below meth c H locs cells slots Q (F0 m pc ls (.ref (ly_a y 5) :: rest)) :=
  gk_get hK.1 hK.2.2.1.1 hP (k := 18) (hR.2.2.2.2.2.2.2.2.1) rfl inlX5 (by decide) q_4_18 (fun _ h => h) rfl hdg kk
theorem mr_62 (hK : gk_K p s m c args cc RX5 nL y A) (hP : gk_P (ly_D y) A G H) (hR : rp y G td ru fr lv lt et tl hf hp ol PS pf ov md mq mt mv) (hdg : decode cc pc = .ok (.getfield 62, 3)) (kk : W p l e R s m args below meth c H locs cells slots Q (F0 m (pc + 3) ls (.ref (ly_f y 4 17) :: rest))) : W p l e R s m args below meth c H locs cells slots Q (F0 m pc ls (.ref (ly_a y 5) :: rest)) :=
  gk_get hK.1 hK.2.2.1.1 hP (k := 19) (hR.2.2.2.2.2.2.2.2.1) rfl inlX5 (by decide) q_4_19 (fun _ h => h) rfl hdg kk
theorem mr_65 (hK : gk_K p s m c args cc RX5 nL y A) (hP : gk_P (ly_D y) A G H) (hR : rp y G td ru fr lv lt et tl hf hp ol PS pf ov md mq mt mv) (hdg : decode cc pc = .ok (.getfield 65, 3)) (kk : W p l e R s m args below meth c H locs cells slots Q (F0 m (pc + 3) ls (.ref (ly_f y 4 18) :: rest))) : W p l e R s m args below meth c H locs cells slots Q (F0 m pc ls (.ref (ly_a y 5) :: rest)) :=
  gk_get hK.1 hK.2.2.1.1 hP (k := 20) (hR.2.2.2.2.2.2.2.2.1) rfl inlX5 (by decide) q_4_20 (fun _ h => h) rfl hdg kk
theorem mr_68 (hK : gk_K p s m c args cc RX5 nL y A) (hP : gk_P (ly_D y) A G H) (hR : rp y G td ru fr lv lt et tl hf hp ol PS pf ov md mq mt mv) (hdg : decode cc pc = .ok (.getfield 68, 3)) (kk : W p l e R s m args below meth c H locs cells slots Q (F0 m (pc + 3) ls (.ref (ly_f y 4 19) :: rest))) : W p l e R s m args below meth c H locs cells slots Q (F0 m pc ls (.ref (ly_a y 5) :: rest)) :=
  gk_get hK.1 hK.2.2.1.1 hP (k := 21) (hR.2.2.2.2.2.2.2.2.1) rfl inlX5 (by decide) q_4_21 (fun _ h => h) rfl hdg kk
theorem mr_93 (hK : gk_K p s m c args cc RX5 nL y A) (hP : gk_P (ly_D y) A G H) (hR : rp y G td ru fr lv lt et tl hf hp ol PS pf ov md mq mt mv) (hdg : decode cc pc = .ok (.getfield 93, 3)) (kk : W p l e R s m args below meth c H locs cells slots Q (F0 m (pc + 3) ls (.int md :: rest))) : W p l e R s m args below meth c H locs cells slots Q (F0 m pc ls (.ref (ly_a y 5) :: rest)) :=
  gk_get hK.1 hK.2.2.1.1 hP (k := 0) (hR.2.2.2.2.2.2.2.2.1) rfl inlX5 (by decide) q_11_4 (fun _ h => h) rfl hdg kk
theorem mw_93 (hK : gk_K p s m c args cc RX5 nL y A) (hP : gk_P (ly_D y) A G H) (hS : va_S A s.heap H locs) (hR : rp y G td ru fr lv lt et tl hf hp ol PS pf ov md mq mt mv) {v : Int32} (hdg : decode cc pc = .ok (.putfield 93, 3))
    (kk : ∀ (H1 : Heap) (locs1 : List Loc) (G1 : gk_G), gk_P (ly_D y) A G1 H1 → va_S A s.heap H1 locs1 → rp y G1 td ru fr lv lt et tl hf hp ol PS pf ov v mq mt mv → W p l e R s m args below meth c H1 locs1 cells slots Q (F0 m (pc + 3) ls rest)) : W p l e R s m args below meth c H locs cells slots Q (F0 m pc ls (.int v :: .ref (ly_a y 5) :: rest)) := by
  obtain ⟨hA, hB, hRr, hF, hH, hL, hSs, hO, hM⟩ := hR
  have hG := hM.1
  have hR := hRr
  have hSp := hS
  refine gk_put hK.1 hK.2.2.1.1 hP hS (k := 0) hG rfl inlX5 tyX5 tyX5_ok nmX5 (by decide) q_11_4 (fun _ h => h) rfl rfl rfl (Nat.lt_of_lt_of_le (Nat.lt_succ_self 0) (Nat.le_of_ble_eq_true rfl)) hdg (fun H1 locs1 P1 S1 => kk H1 locs1 _ P1 S1 ?_)
  have hS := hSs
  exact ⟨rpA_keep hA (rp_off_of hG (by show 6 ≠ 5; decide)), rpB_keep hB (rp_off_of hG (by show 6 ≠ 14; decide)), rpR_keep hR (rp_off_of hG (by show 6 ≠ 4; decide)), rpF_keep hF (rp_off_of hG (by show 6 ≠ 2; decide)), rpH_keep hH (rp_off_of hG (by show 6 ≠ 1; decide)), rpL_keep hL (rp_off_of hG (by show 6 ≠ 0; decide)) (rp_off_of hG (by show 6 ≠ 14; decide)), rpS_keep hS (rp_off_of hG (by show 6 ≠ 3; decide)), rpO_keep hO (rp_off_of hG (by show 6 ≠ 11; decide)), (rpM_puto hM rfl)⟩
theorem mr_100 (hK : gk_K p s m c args cc RX5 nL y A) (hP : gk_P (ly_D y) A G H) (hR : rp y G td ru fr lv lt et tl hf hp ol PS pf ov md mq mt mv) (hdg : decode cc pc = .ok (.getfield 100, 3)) (kk : W p l e R s m args below meth c H locs cells slots Q (F0 m (pc + 3) ls (.int mq :: rest))) : W p l e R s m args below meth c H locs cells slots Q (F0 m pc ls (.ref (ly_a y 5) :: rest)) :=
  gk_get hK.1 hK.2.2.1.1 hP (k := 15) (hR.2.2.2.2.2.2.2.2.1) rfl inlX5 (by decide) q_17_18 (fun _ h => h) rfl hdg kk
theorem mw_100 (hK : gk_K p s m c args cc RX5 nL y A) (hP : gk_P (ly_D y) A G H) (hS : va_S A s.heap H locs) (hR : rp y G td ru fr lv lt et tl hf hp ol PS pf ov md mq mt mv) {v : Int32} (hdg : decode cc pc = .ok (.putfield 100, 3))
    (kk : ∀ (H1 : Heap) (locs1 : List Loc) (G1 : gk_G), gk_P (ly_D y) A G1 H1 → va_S A s.heap H1 locs1 → rp y G1 td ru fr lv lt et tl hf hp ol PS pf ov md v mt mv → W p l e R s m args below meth c H1 locs1 cells slots Q (F0 m (pc + 3) ls rest)) : W p l e R s m args below meth c H locs cells slots Q (F0 m pc ls (.int v :: .ref (ly_a y 5) :: rest)) := by
  obtain ⟨hA, hB, hRr, hF, hH, hL, hSs, hO, hM⟩ := hR
  have hG := hM.1
  have hR := hRr
  have hSp := hS
  refine gk_put hK.1 hK.2.2.1.1 hP hS (k := 15) hG rfl inlX5 tyX5 tyX5_ok nmX5 (by decide) q_17_18 (fun _ h => h) rfl rfl rfl (Nat.lt_of_lt_of_le (Nat.lt_succ_self 15) (Nat.le_of_ble_eq_true rfl)) hdg (fun H1 locs1 P1 S1 => kk H1 locs1 _ P1 S1 ?_)
  have hS := hSs
  exact ⟨rpA_keep hA (rp_off_of hG (by show 6 ≠ 5; decide)), rpB_keep hB (rp_off_of hG (by show 6 ≠ 14; decide)), rpR_keep hR (rp_off_of hG (by show 6 ≠ 4; decide)), rpF_keep hF (rp_off_of hG (by show 6 ≠ 2; decide)), rpH_keep hH (rp_off_of hG (by show 6 ≠ 1; decide)), rpL_keep hL (rp_off_of hG (by show 6 ≠ 0; decide)) (rp_off_of hG (by show 6 ≠ 14; decide)), rpS_keep hS (rp_off_of hG (by show 6 ≠ 3; decide)), rpO_keep hO (rp_off_of hG (by show 6 ≠ 11; decide)), (rpM_puto hM rfl)⟩
theorem mr_71 (hK : gk_K p s m c args cc RX5 nL y A) (hP : gk_P (ly_D y) A G H) (hR : rp y G td ru fr lv lt et tl hf hp ol PS pf ov md mq mt mv) (hdg : decode cc pc = .ok (.getfield 71, 3)) (kk : W p l e R s m args below meth c H locs cells slots Q (F0 m (pc + 3) ls (.int mt :: rest))) : W p l e R s m args below meth c H locs cells slots Q (F0 m pc ls (.ref (ly_a y 5) :: rest)) :=
  gk_get hK.1 hK.2.2.1.1 hP (k := 22) (hR.2.2.2.2.2.2.2.2.1) rfl inlX5 (by decide) q_6_13 (fun _ h => h) rfl hdg kk
theorem mw_71 (hK : gk_K p s m c args cc RX5 nL y A) (hP : gk_P (ly_D y) A G H) (hS : va_S A s.heap H locs) (hR : rp y G td ru fr lv lt et tl hf hp ol PS pf ov md mq mt mv) {v : Int32} (hdg : decode cc pc = .ok (.putfield 71, 3))
    (kk : ∀ (H1 : Heap) (locs1 : List Loc) (G1 : gk_G), gk_P (ly_D y) A G1 H1 → va_S A s.heap H1 locs1 → rp y G1 td ru fr lv lt et tl hf hp ol PS pf ov md mq v mv → W p l e R s m args below meth c H1 locs1 cells slots Q (F0 m (pc + 3) ls rest)) : W p l e R s m args below meth c H locs cells slots Q (F0 m pc ls (.int v :: .ref (ly_a y 5) :: rest)) := by
  obtain ⟨hA, hB, hRr, hF, hH, hL, hSs, hO, hM⟩ := hR
  have hG := hM.1
  have hR := hRr
  have hSp := hS
  refine gk_put hK.1 hK.2.2.1.1 hP hS (k := 22) hG rfl inlX5 tyX5 tyX5_ok nmX5 (by decide) q_6_13 (fun _ h => h) rfl rfl rfl (Nat.lt_of_lt_of_le (Nat.lt_succ_self 22) (Nat.le_of_ble_eq_true rfl)) hdg (fun H1 locs1 P1 S1 => kk H1 locs1 _ P1 S1 ?_)
  have hS := hSs
  exact ⟨rpA_keep hA (rp_off_of hG (by show 6 ≠ 5; decide)), rpB_keep hB (rp_off_of hG (by show 6 ≠ 14; decide)), rpR_keep hR (rp_off_of hG (by show 6 ≠ 4; decide)), rpF_keep hF (rp_off_of hG (by show 6 ≠ 2; decide)), rpH_keep hH (rp_off_of hG (by show 6 ≠ 1; decide)), rpL_keep hL (rp_off_of hG (by show 6 ≠ 0; decide)) (rp_off_of hG (by show 6 ≠ 14; decide)), rpS_keep hS (rp_off_of hG (by show 6 ≠ 3; decide)), rpO_keep hO (rp_off_of hG (by show 6 ≠ 11; decide)), (rpM_puto hM rfl)⟩
theorem mr_ild (hK : gk_K p s m c args cc own nL y A) (hP : gk_P (ly_D y) A G H) (hR : rp y G td ru fr lv lt et tl hf hp ol PS pf ov md mq mt mv) (k : Nat) (hk : k < 20) (hc : mv_c y k = ly_k y 0) {j : Nat} (hj : j < mv_n k) (hdg : decode cc pc = .ok (.iaload, 1)) (kk : W p l e R s m args below meth c H locs cells slots Q (F0 m (pc + 1) ls (.int (mv k j) :: rest))) : W p l e R s m args below meth c H locs cells slots Q (F0 m pc ls (.int (nI j) :: .ref (ly_f y 4 k) :: rest)) := by
  have h1 := hR.2.2.2.2.2.2.2.2.2.1 k hk
  rw [hc] at h1
  have hn : mv_n k ≤ 4096 := by unfold mv_n; split <;> (try split) <;> (try split) <;> decide
  refine gk_iald hK.1 hK.2.2.1.1 hP 0 h1 rfl (vp_in_nI hj (by omega)) hdg ?_
  rw [nI_clamp (by omega)]
  exact kk
theorem mr_zld (hK : gk_K p s m c args cc own nL y A) (hP : gk_P (ly_D y) A G H) (hR : rp y G td ru fr lv lt et tl hf hp ol PS pf ov md mq mt mv) (k : Nat) (hk : k < 20) (hc : mv_c y k = ly_k y 1) {j : Nat} (hj : j < mv_n k) (hdg : decode cc pc = .ok (.baload, 1)) (kk : W p l e R s m args below meth c H locs cells slots Q (F0 m (pc + 1) ls (.int (mv k j) :: rest))) : W p l e R s m args below meth c H locs cells slots Q (F0 m pc ls (.int (nI j) :: .ref (ly_f y 4 k) :: rest)) := by
  have h1 := hR.2.2.2.2.2.2.2.2.2.1 k hk
  rw [hc] at h1
  have hn : mv_n k ≤ 4096 := by unfold mv_n; split <;> (try split) <;> (try split) <;> decide
  refine gk_zald hK.1 hK.2.2.1.1 hP 1 h1 rfl (vp_in_nI hj (by omega)) hdg ?_
  rw [nI_clamp (by omega)]
  exact kk
theorem mw_ist (hK : gk_K p s m c args cc own nL y A) (hP : gk_P (ly_D y) A G H) (hS : va_S A s.heap H locs) (hR : rp y G td ru fr lv lt et tl hf hp ol PS pf ov md mq mt mv) (k : Nat) (hk : k < 20) (hc : mv_c y k = ly_k y 0) {j : Nat} (hj : j < mv_n k) {v : Int32} (hdg : decode cc pc = .ok (.iastore, 1))
    (kk : ∀ (H1 : Heap) (locs1 : List Loc) (G1 : gk_G), gk_P (ly_D y) A G1 H1 → va_S A s.heap H1 locs1 → rp y G1 td ru fr lv lt et tl hf hp ol PS pf ov md mq mt (rp_u2 mv k j v) → W p l e R s m args below meth c H1 locs1 cells slots Q (F0 m (pc + 1) ls rest)) : W p l e R s m args below meth c H locs cells slots Q (F0 m pc ls (.int v :: .int (nI j) :: .ref (ly_f y 4 k) :: rest)) := by
  obtain ⟨hA, hB, hR, hF, hH, hL, hSs, hO, hM⟩ := hR
  have h1 := hM.2.1 k hk
  have hG := h1
  rw [hc] at h1
  have hn : mv_n k ≤ 4096 := by unfold mv_n; split <;> (try split) <;> (try split) <;> decide
  refine gk_iast hK.1 hK.2.2.1.1 hP hS 0 h1 rfl (vp_in_nI hj (by omega)) hdg (fun H1 locs1 P1 S1 => kk H1 locs1 _ P1 S1 ?_)
  have hS := hSs
  rw [nI_clamp (by omega)]
  exact ⟨rpA_keep hA (rp_off_of hG (by show 10 ≠ 5; decide)), rpB_keep hB (rp_off_of hG (by show 10 ≠ 14; decide)), rpR_keep hR (rp_off_of hG (by show 10 ≠ 4; decide)), rpF_keep hF (rp_off_of hG (by show 10 ≠ 2; decide)), rpH_keep hH (rp_off_of hG (by show 10 ≠ 1; decide)), rpL_keep hL (rp_off_of hG (by show 10 ≠ 0; decide)) (rp_off_of hG (by show 10 ≠ 14; decide)), rpS_keep hS (rp_off_of hG (by show 10 ≠ 3; decide)), rpO_keep hO (rp_off_of hG (by show 10 ≠ 11; decide)), (rpM_putv hM hk (by rw [hc]; congr 4; funext b; simp [rp_u2, upd]) (fun j2 hj2 => by funext b; simp [rp_u2, hj2]))⟩
theorem mw_zst (hK : gk_K p s m c args cc own nL y A) (hP : gk_P (ly_D y) A G H) (hS : va_S A s.heap H locs) (hR : rp y G td ru fr lv lt et tl hf hp ol PS pf ov md mq mt mv) (k : Nat) (hk : k < 20) (hc : mv_c y k = ly_k y 1) {j : Nat} (hj : j < mv_n k) {v : Int32} (hb : v = 0 ∨ v = 1) (hdg : decode cc pc = .ok (.bastore, 1))
    (kk : ∀ (H1 : Heap) (locs1 : List Loc) (G1 : gk_G), gk_P (ly_D y) A G1 H1 → va_S A s.heap H1 locs1 → rp y G1 td ru fr lv lt et tl hf hp ol PS pf ov md mq mt (rp_u2 mv k j v) → W p l e R s m args below meth c H1 locs1 cells slots Q (F0 m (pc + 1) ls rest)) : W p l e R s m args below meth c H locs cells slots Q (F0 m pc ls (.int v :: .int (nI j) :: .ref (ly_f y 4 k) :: rest)) := by
  obtain ⟨hA, hB, hR, hF, hH, hL, hSs, hO, hM⟩ := hR
  have h1 := hM.2.1 k hk
  have hG := h1
  rw [hc] at h1
  have hn : mv_n k ≤ 4096 := by unfold mv_n; split <;> (try split) <;> (try split) <;> decide
  refine gk_zast hK.1 hK.2.2.1.1 hP hS 1 h1 rfl (vp_in_nI hj (by omega)) (rp_nz hb).2.2 hdg (fun H1 locs1 P1 S1 => kk H1 locs1 _ P1 S1 ?_)
  have hS := hSs
  rw [nI_clamp (by omega)]
  exact ⟨rpA_keep hA (rp_off_of hG (by show 10 ≠ 5; decide)), rpB_keep hB (rp_off_of hG (by show 10 ≠ 14; decide)), rpR_keep hR (rp_off_of hG (by show 10 ≠ 4; decide)), rpF_keep hF (rp_off_of hG (by show 10 ≠ 2; decide)), rpH_keep hH (rp_off_of hG (by show 10 ≠ 1; decide)), rpL_keep hL (rp_off_of hG (by show 10 ≠ 0; decide)) (rp_off_of hG (by show 10 ≠ 14; decide)), rpS_keep hS (rp_off_of hG (by show 10 ≠ 3; decide)), rpO_keep hO (rp_off_of hG (by show 10 ≠ 11; decide)), (rpM_putv hM hk (by rw [hc]; congr 4; funext b; simp [rp_u2, upd]) (fun j2 hj2 => by funext b; simp [rp_u2, hj2]))⟩
theorem lo_get (hK : gk_K p s m c args cc own nL y A) (hP : gk_P (ly_D y) A G H) (hR : rp y G td ru fr lv lt et tl hf hp ol PS pf ov md mq mt mv) (hdg : decode cc pc = .ok (.laload, 1)) (kk : W p l e R s m args below meth c H locs cells slots Q (F0 m (pc + 1) ls (.long ov :: rest))) : W p l e R s m args below meth c H locs cells slots Q (F0 m pc ls (.int 0 :: .ref (ly_a y 4) :: rest)) := by
  obtain ⟨f, h1, h2⟩ := hR.2.2.2.2.2.2.2.1
  refine gk_lald hK.1 hK.2.2.1.1 hP 2 h1 rfl (vp_in_nI (n := 0) (by decide) (by decide)) hdg ?_
  rw [show (0 : Int32).toNatClampNeg = 0 from rfl, h2]
  exact kk
theorem lo_put (hK : gk_K p s m c args cc own nL y A) (hP : gk_P (ly_D y) A G H) (hS : va_S A s.heap H locs) (hR : rp y G td ru fr lv lt et tl hf hp ol PS pf ov md mq mt mv) {v : Int64} (hdg : decode cc pc = .ok (.lastore, 1))
    (kk : ∀ (H1 : Heap) (locs1 : List Loc) (G1 : gk_G), gk_P (ly_D y) A G1 H1 → va_S A s.heap H1 locs1 → rp y G1 td ru fr lv lt et tl hf hp ol PS pf v md mq mt mv → W p l e R s m args below meth c H1 locs1 cells slots Q (F0 m (pc + 1) ls rest)) : W p l e R s m args below meth c H locs cells slots Q (F0 m pc ls (.long v :: .int 0 :: .ref (ly_a y 4) :: rest)) := by
  obtain ⟨hA, hB, hR, hF, hH, hL, hSs, hO, hM⟩ := hR
  obtain ⟨f, hG, h2⟩ := hO
  refine gk_last hK.1 hK.2.2.1.1 hP hS 2 hG rfl (vp_in_nI (n := 0) (by decide) (by decide)) hdg (fun H1 locs1 P1 S1 => kk H1 locs1 _ P1 S1 ?_)
  have hS := hSs
  exact ⟨rpA_keep hA (rp_off_of hG (by show 11 ≠ 5; decide)), rpB_keep hB (rp_off_of hG (by show 11 ≠ 14; decide)), rpR_keep hR (rp_off_of hG (by show 11 ≠ 4; decide)), rpF_keep hF (rp_off_of hG (by show 11 ≠ 2; decide)), rpH_keep hH (rp_off_of hG (by show 11 ≠ 1; decide)), rpL_keep hL (rp_off_of hG (by show 11 ≠ 0; decide)) (rp_off_of hG (by show 11 ≠ 14; decide)), rpS_keep hS (rp_off_of hG (by show 11 ≠ 3; decide)), ⟨_, gk_us _ _ _, rfl⟩, rpM_keep hM (rp_off_of hG (by show 11 ≠ 6; decide)) (rp_off_of hG (by show 11 ≠ 10; decide))⟩
end RPW
end
section
/-! small facts for the walks -/
theorem rg_of {x : Int32} {n : Nat} (hn : n < 2 ^ 31) (h0 : ¬ x < 0) (h1 : x < nI n) : ∃ j : Nat, j < n ∧ x = nI j := by
  obtain ⟨j, hj, rfl⟩ := nI_of h0
  exact ⟨j, (nI_ltI hj hn).mp h1, rfl⟩
/-- an int in a range -/
def rg_in (x a b : Int32) : Prop := ¬ x < a ∧ x ≤ b
def rg_b (b : Bool) : Int32 := if b then 1 else 0
theorem rg_b01 (b : Bool) : rg_b b = 0 ∨ rg_b b = 1 := by cases b <;> simp [rg_b]
/-- no such number of n -/
def rg_out (x : Int32) (n : Nat) : Prop := x < 0 ∨ ¬ x < nI n
theorem rg_out_no {j n : Nat} (hj : j < n) (hn : n < 2 ^ 31) : ¬ rg_out (nI j) n := fun h => by
  rcases h with h | h
  · exact nI_pos (by omega) h
  · exact h (nI_lt hj hn)
theorem rg_b0 {b : Bool} : rg_b b = 0 ↔ b = false := by cases b <;> simp [rg_b]
theorem rg_b1 {b : Bool} : rg_b b = 1 ↔ b = true := by cases b <;> simp [rg_b]
/-- the class's own words: the rest of a division as floorMod has it; whether a day has come; too soon; due -/
def t_fm (x b : Int32) : Int32 := if (x ^^^ b) < 0 ∧ ¬ x - x / b * b = 0 then x - x / b * b + b else x - x / b * b
def t_come (w lt d n : Int32) : Bool := decide (¬ w = -1 ∧ lt + 1 + t_fm (w - (lt + 1)) n ≤ d)
def t_soon (et lt d le : Int32) : Bool := decide (¬ et = 0 ∧ d - lt < le)
def t_due (n sz wd mo le et lt d : Int32) : Bool := decide (¬ n = 0) && !(t_soon et lt d le) && ((decide (¬ sz = 0) && decide (sz ≤ n)) || t_come wd lt d 7 || t_come mo lt d 30)
theorem gk_uu (G : gk_G) (a : Nat) (e1 e2 : va_E) : gk_up (gk_up G a e1) a e2 = gk_up G a e2 := by
  funext q
  simp only [gk_up]
  split <;> rfl
theorem gl_mm (a b : Nat) (h : a < 2 ^ 31) (hb : b < 2 ^ 31) : (if nI a < nI b then nI b else nI a) = nI (max a b) := by
  by_cases c : a < b
  · rw [if_pos (nI_lt c hb), Nat.max_eq_right (by omega)]
  · rw [if_neg (nI_nlt (by omega) h), Nat.max_eq_left (by omega)]
theorem gl_mn (a b : Nat) (h : a < 2 ^ 31) (hb : b < 2 ^ 31) : (if nI b < nI a then nI b else nI a) = nI (min a b) := by
  by_cases c : b < a
  · rw [if_pos (nI_lt c h), Nat.min_eq_right (by omega)]
  · rw [if_neg (nI_nlt (by omega) hb), Nat.min_eq_left (by omega)]
/-- an object Part -/
def gl_pt (G : gk_G) (t : Nat) : Prop := ∃ vs, G t = some (.inr (3, vs))
theorem gl_asg {y : ly_T} {A : Nat → Prop} {s : State} (hV : gk_V y A s) : ∀ comp c0 : ClassId, s.vm.findClass "java/lang/Object" = some comp → s.vm.findClass RX2 = some c0 → s.vm.assignable c0 comp = true := fun comp c0 h1 h2 => by
  obtain ⟨c, t, a1, a2, a3⟩ := Cond.castable_spec (args := #[]) (first := s) (s := s) (o := none) (idx := []) hV.2.2.1.2.2.2.1.2.2.2
  rw [h1] at a2
  rw [h2] at a1
  cases a1
  cases a2
  exact a3
end
section
/-! the class: small methods -/
set_option maxHeartbeats 4000000 in
set_option maxRecDepth 100000 in
theorem c_X4_requireRange (l : Launch) {y : ly_T} {A : Nat → Prop} {G : gk_G} {td : Int32} {ru : Nat → Nat → Int32} {fr lv : Nat → Nat} {lt et tl : Nat → Int32} {hf hp : Nat → Option Nat} {ol : Nat → List Nat} {PS : Nat → Prop} {pf : Nat → Nat → Int32} {ov : Int64} {md mq mt : Int32} {mv : Nat → Nat → Int32} {x a b : Int32}  (hfl : l.stackTraces = false) (hR : rp y G td ru fr lv lt et tl hf hp ol PS pf ov md mq mt mv) : gk_M l yX4_requireRange (Cond.code yX4_requireRange cX4_requireRange 3 none) 6 82 1 6 y A [.int x, .int a, .int b] G (fun v G1 => v = none ∧ G1 = G ∧ rg_in x a b) (fun E G1 => E = "java/lang/IllegalArgumentException" ∧ G1 = G ∧ ¬ rg_in x a b) := by
  refine gk_ofX (cc := cX4_requireRange) (maxL := 3) (ret := none) (own := RX4) (by decide +kernel) rfl rfl (Nat.le_of_ble_eq_true rfl) ?_
  intro p e s m below meth c ls hK hret hlk hex hP hS hl
  have hl : lv_has ls 3 [(0, .int x), (1, .int a), (2, .int b)] := hl
  refine lv_iload_n hK.1.1 hK.1.2.1 dX4_requireRange_0 rfl (lv_at hl 0 rfl) ?_
  refine lv_iload_n hK.1.1 hK.1.2.1 dX4_requireRange_1 rfl (lv_at hl 1 rfl) ?_
  refine lv_icmp_lt (tgt := 10) hK.1.1 hK.1.2.1 dX4_requireRange_2 (by decide) (fun c2_1 => ?_) (fun c2_1 => ?_)
  · exact gk_thr1 hK hfl hK.2.2.1.2.1.2.2.2.2.2.2 hP hS hl.1 hex hlk dX4_requireRange_10 dX4_requireRange_13 dX4_requireRange_14 dX4_requireRange_16 dX4_requireRange_19 ⟨(Nat.le_of_ble_eq_true rfl), (Nat.le_of_ble_eq_true rfl), (Nat.le_of_ble_eq_true rfl), (Nat.le_of_ble_eq_true rfl)⟩ ⟨(Nat.le_of_ble_eq_true rfl), (Nat.le_of_ble_eq_true rfl)⟩ ⟨rfl, rfl, fun h => h.1 c2_1⟩
  · refine lv_iload_n hK.1.1 hK.1.2.1 dX4_requireRange_5 rfl (lv_at hl 0 rfl) ?_
    refine lv_iload_n hK.1.1 hK.1.2.1 dX4_requireRange_6 rfl (lv_at hl 2 rfl) ?_
    refine lv_icmp_le (tgt := 20) hK.1.1 hK.1.2.1 dX4_requireRange_7 (by decide) (fun c7_2 => ?_) (fun c7_2 => ?_)
    · exact vx_ret (gk_vret0 hK.1 hret hlk hP hS (Nat.le_of_ble_eq_true rfl) (Nat.le_of_ble_eq_true rfl) dX4_requireRange_20 ⟨rfl, rfl, ⟨c2_1, c7_2⟩⟩)
    · exact gk_thr1 hK hfl hK.2.2.1.2.1.2.2.2.2.2.2 hP hS hl.1 hex hlk dX4_requireRange_10 dX4_requireRange_13 dX4_requireRange_14 dX4_requireRange_16 dX4_requireRange_19 ⟨(Nat.le_of_ble_eq_true rfl), (Nat.le_of_ble_eq_true rfl), (Nat.le_of_ble_eq_true rfl), (Nat.le_of_ble_eq_true rfl)⟩ ⟨(Nat.le_of_ble_eq_true rfl), (Nat.le_of_ble_eq_true rfl)⟩ ⟨rfl, rfl, fun h => c7_2 h.2⟩
set_option maxHeartbeats 4000000 in
set_option maxRecDepth 100000 in
theorem c_X4_ruleOf (l : Launch) {y : ly_T} {A : Nat → Prop} {G : gk_G} {td : Int32} {ru : Nat → Nat → Int32} {fr lv : Nat → Nat} {lt et tl : Nat → Int32} {hf hp : Nat → Option Nat} {ol : Nat → List Nat} {PS : Nat → Prop} {pf : Nat → Nat → Int32} {ov : Int64} {md mq mt : Int32} {mv : Nat → Nat → Int32} {i : Int32}  (hfl : l.stackTraces = false) (hR : rp y G td ru fr lv lt et tl hf hp ol PS pf ov md mq mt mv) : gk_M l yX4_ruleOf (Cond.code yX4_ruleOf cX4_ruleOf 2 (some (.object "LogTurner$Rule"))) 6 82 1 6 y A [.ref (ly_a y 0), .int i] G (fun v G1 => ∃ r, r < 3 ∧ i = nI r ∧ v = some (.ref (ly_f y 0 r)) ∧ G1 = G) (fun E G1 => E = "java/lang/IndexOutOfBoundsException" ∧ G1 = G ∧ rg_out i 3) := by
  refine gk_ofX (cc := cX4_ruleOf) (maxL := 2) (ret := (some (.object "LogTurner$Rule"))) (own := RX4) (by decide +kernel) rfl rfl (Nat.le_of_ble_eq_true rfl) ?_
  intro p e s m below meth c ls hK hret hlk hex hP hS hl
  have hl : lv_has ls 2 [(0, .ref (ly_a y 0)), (1, .int i)] := hl
  refine lv_iload_n hK.1.1 hK.1.2.1 dX4_ruleOf_0 rfl (lv_at hl 1 rfl) ?_
  refine lv_if_lt (tgt := 9) hK.1.1 hK.1.2.1 dX4_ruleOf_1 (by decide) (fun c1_1 => ?_) (fun c1_1 => ?_)
  · exact gk_thr0 hK hfl hK.2.2.1.2.1.2.2.1 hP hS hl.1 hex hlk dX4_ruleOf_9 dX4_ruleOf_12 dX4_ruleOf_13 dX4_ruleOf_15 dX4_ruleOf_18 ⟨(Nat.le_of_ble_eq_true rfl), (Nat.le_of_ble_eq_true rfl), (Nat.le_of_ble_eq_true rfl), (Nat.le_of_ble_eq_true rfl)⟩ ⟨(Nat.le_of_ble_eq_true rfl), (Nat.le_of_ble_eq_true rfl)⟩ ⟨rfl, rfl, Or.inl c1_1⟩
  · refine lv_iload_n hK.1.1 hK.1.2.1 dX4_ruleOf_4 rfl (lv_at hl 1 rfl) ?_
    refine lv_iconst (v := 3) hK.1.1 hK.1.2.1 dX4_ruleOf_5 (by decide) ?_
    refine lv_icmp_lt (tgt := 19) hK.1.1 hK.1.2.1 dX4_ruleOf_6 (by decide) (fun c6_2 => ?_) (fun c6_2 => ?_)
    · obtain ⟨r, hr, rfl⟩ := rg_of (n := 3) (by decide) c1_1 c6_2
      refine lv_aload_n hK.1.1 hK.1.2.1 dX4_ruleOf_19 rfl (lv_at hl 0 rfl) ?_
      refine tr_11 hK hP hR dX4_ruleOf_20 ?_
      refine lv_iload_n hK.1.1 hK.1.2.1 dX4_ruleOf_23 rfl (lv_at hl 1 rfl) ?_
      refine ta_rules hK hP hR (i := r) hr dX4_ruleOf_24 ?_
      exact vx_ret (gk_aret0 hK.1 hret (by first | exact Or.inl ⟨_, rfl⟩ | exact Or.inr ⟨_, rfl⟩) (by first | exact Or.inr ⟨_, rfl⟩ | exact Or.inl rfl | exact va_rf_or _) hlk hP hS (Nat.le_of_ble_eq_true rfl) (Nat.le_of_ble_eq_true rfl) dX4_ruleOf_25 ⟨r, hr, rfl, rfl, rfl⟩)
    · exact gk_thr0 hK hfl hK.2.2.1.2.1.2.2.1 hP hS hl.1 hex hlk dX4_ruleOf_9 dX4_ruleOf_12 dX4_ruleOf_13 dX4_ruleOf_15 dX4_ruleOf_18 ⟨(Nat.le_of_ble_eq_true rfl), (Nat.le_of_ble_eq_true rfl), (Nat.le_of_ble_eq_true rfl), (Nat.le_of_ble_eq_true rfl)⟩ ⟨(Nat.le_of_ble_eq_true rfl), (Nat.le_of_ble_eq_true rfl)⟩ ⟨rfl, rfl, Or.inr c6_2⟩
set_option maxHeartbeats 4000000 in
set_option maxRecDepth 100000 in
theorem c_X4_fileOf (l : Launch) {y : ly_T} {A : Nat → Prop} {G : gk_G} {td : Int32} {ru : Nat → Nat → Int32} {fr lv : Nat → Nat} {lt et tl : Nat → Int32} {hf hp : Nat → Option Nat} {ol : Nat → List Nat} {PS : Nat → Prop} {pf : Nat → Nat → Int32} {ov : Int64} {md mq mt : Int32} {mv : Nat → Nat → Int32} {i : Int32}  (hfl : l.stackTraces = false) (hR : rp y G td ru fr lv lt et tl hf hp ol PS pf ov md mq mt mv) : gk_M l yX4_fileOf (Cond.code yX4_fileOf cX4_fileOf 2 (some (.object "LogTurner$LogFile"))) 6 82 1 6 y A [.ref (ly_a y 0), .int i] G (fun v G1 => ∃ f, f < 5 ∧ i = nI f ∧ v = some (.ref (ly_f y 1 f)) ∧ G1 = G) (fun E G1 => E = "java/lang/IndexOutOfBoundsException" ∧ G1 = G ∧ rg_out i 5) := by
  refine gk_ofX (cc := cX4_fileOf) (maxL := 2) (ret := (some (.object "LogTurner$LogFile"))) (own := RX4) (by decide +kernel) rfl rfl (Nat.le_of_ble_eq_true rfl) ?_
  intro p e s m below meth c ls hK hret hlk hex hP hS hl
  have hl : lv_has ls 2 [(0, .ref (ly_a y 0)), (1, .int i)] := hl
  refine lv_iload_n hK.1.1 hK.1.2.1 dX4_fileOf_0 rfl (lv_at hl 1 rfl) ?_
  refine lv_if_lt (tgt := 9) hK.1.1 hK.1.2.1 dX4_fileOf_1 (by decide) (fun c1_1 => ?_) (fun c1_1 => ?_)
  · exact gk_thr0 hK hfl hK.2.2.1.2.1.2.2.2.1 hP hS hl.1 hex hlk dX4_fileOf_9 dX4_fileOf_12 dX4_fileOf_13 dX4_fileOf_15 dX4_fileOf_18 ⟨(Nat.le_of_ble_eq_true rfl), (Nat.le_of_ble_eq_true rfl), (Nat.le_of_ble_eq_true rfl), (Nat.le_of_ble_eq_true rfl)⟩ ⟨(Nat.le_of_ble_eq_true rfl), (Nat.le_of_ble_eq_true rfl)⟩ ⟨rfl, rfl, Or.inl c1_1⟩
  · refine lv_iload_n hK.1.1 hK.1.2.1 dX4_fileOf_4 rfl (lv_at hl 1 rfl) ?_
    refine lv_iconst (v := 5) hK.1.1 hK.1.2.1 dX4_fileOf_5 (by decide) ?_
    refine lv_icmp_lt (tgt := 19) hK.1.1 hK.1.2.1 dX4_fileOf_6 (by decide) (fun c6_2 => ?_) (fun c6_2 => ?_)
    · obtain ⟨f, hf, rfl⟩ := rg_of (n := 5) (by decide) c1_1 c6_2
      refine lv_aload_n hK.1.1 hK.1.2.1 dX4_fileOf_19 rfl (lv_at hl 0 rfl) ?_
      refine tr_17 hK hP hR dX4_fileOf_20 ?_
      refine lv_iload_n hK.1.1 hK.1.2.1 dX4_fileOf_23 rfl (lv_at hl 1 rfl) ?_
      refine ta_files hK hP hR (i := f) hf dX4_fileOf_24 ?_
      exact vx_ret (gk_aret0 hK.1 hret (by first | exact Or.inl ⟨_, rfl⟩ | exact Or.inr ⟨_, rfl⟩) (by first | exact Or.inr ⟨_, rfl⟩ | exact Or.inl rfl | exact va_rf_or _) hlk hP hS (Nat.le_of_ble_eq_true rfl) (Nat.le_of_ble_eq_true rfl) dX4_fileOf_25 ⟨f, hf, rfl, rfl, rfl⟩)
    · exact gk_thr0 hK hfl hK.2.2.1.2.1.2.2.2.1 hP hS hl.1 hex hlk dX4_fileOf_9 dX4_fileOf_12 dX4_fileOf_13 dX4_fileOf_15 dX4_fileOf_18 ⟨(Nat.le_of_ble_eq_true rfl), (Nat.le_of_ble_eq_true rfl), (Nat.le_of_ble_eq_true rfl), (Nat.le_of_ble_eq_true rfl)⟩ ⟨(Nat.le_of_ble_eq_true rfl), (Nat.le_of_ble_eq_true rfl)⟩ ⟨rfl, rfl, Or.inr c6_2⟩
set_option maxHeartbeats 4000000 in
set_option maxRecDepth 100000 in
theorem c_X4_holderOf (l : Launch) {y : ly_T} {A : Nat → Prop} {G : gk_G} {td : Int32} {ru : Nat → Nat → Int32} {fr lv : Nat → Nat} {lt et tl : Nat → Int32} {hf hp : Nat → Option Nat} {ol : Nat → List Nat} {PS : Nat → Prop} {pf : Nat → Nat → Int32} {ov : Int64} {md mq mt : Int32} {mv : Nat → Nat → Int32} {i : Int32}  (hfl : l.stackTraces = false) (hR : rp y G td ru fr lv lt et tl hf hp ol PS pf ov md mq mt mv) : gk_M l yX4_holderOf (Cond.code yX4_holderOf cX4_holderOf 2 (some (.object "LogTurner$Holder"))) 6 82 1 6 y A [.ref (ly_a y 0), .int i] G (fun v G1 => ∃ h, h < 4 ∧ i = nI h ∧ v = some (.ref (ly_f y 2 h)) ∧ G1 = G) (fun E G1 => E = "java/lang/IndexOutOfBoundsException" ∧ G1 = G ∧ rg_out i 4) := by
  refine gk_ofX (cc := cX4_holderOf) (maxL := 2) (ret := (some (.object "LogTurner$Holder"))) (own := RX4) (by decide +kernel) rfl rfl (Nat.le_of_ble_eq_true rfl) ?_
  intro p e s m below meth c ls hK hret hlk hex hP hS hl
  have hl : lv_has ls 2 [(0, .ref (ly_a y 0)), (1, .int i)] := hl
  refine lv_iload_n hK.1.1 hK.1.2.1 dX4_holderOf_0 rfl (lv_at hl 1 rfl) ?_
  refine lv_if_lt (tgt := 9) hK.1.1 hK.1.2.1 dX4_holderOf_1 (by decide) (fun c1_1 => ?_) (fun c1_1 => ?_)
  · exact gk_thr0 hK hfl hK.2.2.1.2.1.2.2.2.2.1 hP hS hl.1 hex hlk dX4_holderOf_9 dX4_holderOf_12 dX4_holderOf_13 dX4_holderOf_15 dX4_holderOf_18 ⟨(Nat.le_of_ble_eq_true rfl), (Nat.le_of_ble_eq_true rfl), (Nat.le_of_ble_eq_true rfl), (Nat.le_of_ble_eq_true rfl)⟩ ⟨(Nat.le_of_ble_eq_true rfl), (Nat.le_of_ble_eq_true rfl)⟩ ⟨rfl, rfl, Or.inl c1_1⟩
  · refine lv_iload_n hK.1.1 hK.1.2.1 dX4_holderOf_4 rfl (lv_at hl 1 rfl) ?_
    refine lv_iconst (v := 4) hK.1.1 hK.1.2.1 dX4_holderOf_5 (by decide) ?_
    refine lv_icmp_lt (tgt := 19) hK.1.1 hK.1.2.1 dX4_holderOf_6 (by decide) (fun c6_2 => ?_) (fun c6_2 => ?_)
    · obtain ⟨h, hh, rfl⟩ := rg_of (n := 4) (by decide) c1_1 c6_2
      refine lv_aload_n hK.1.1 hK.1.2.1 dX4_holderOf_19 rfl (lv_at hl 0 rfl) ?_
      refine tr_23 hK hP hR dX4_holderOf_20 ?_
      refine lv_iload_n hK.1.1 hK.1.2.1 dX4_holderOf_23 rfl (lv_at hl 1 rfl) ?_
      refine ta_holders hK hP hR (i := h) hh dX4_holderOf_24 ?_
      exact vx_ret (gk_aret0 hK.1 hret (by first | exact Or.inl ⟨_, rfl⟩ | exact Or.inr ⟨_, rfl⟩) (by first | exact Or.inr ⟨_, rfl⟩ | exact Or.inl rfl | exact va_rf_or _) hlk hP hS (Nat.le_of_ble_eq_true rfl) (Nat.le_of_ble_eq_true rfl) dX4_holderOf_25 ⟨h, hh, rfl, rfl, rfl⟩)
    · exact gk_thr0 hK hfl hK.2.2.1.2.1.2.2.2.2.1 hP hS hl.1 hex hlk dX4_holderOf_9 dX4_holderOf_12 dX4_holderOf_13 dX4_holderOf_15 dX4_holderOf_18 ⟨(Nat.le_of_ble_eq_true rfl), (Nat.le_of_ble_eq_true rfl), (Nat.le_of_ble_eq_true rfl), (Nat.le_of_ble_eq_true rfl)⟩ ⟨(Nat.le_of_ble_eq_true rfl), (Nat.le_of_ble_eq_true rfl)⟩ ⟨rfl, rfl, Or.inr c6_2⟩
end
section
/-! the class: the calls that write one field or two -/
set_option maxHeartbeats 4000000 in
set_option maxRecDepth 100000 in
theorem c_X4_setDue (l : Launch) {y : ly_T} {A : Nat → Prop} {G : gk_G} {td : Int32} {ru : Nat → Nat → Int32} {fr lv : Nat → Nat} {lt et tl : Nat → Int32} {hf hp : Nat → Option Nat} {ol : Nat → List Nat} {PS : Nat → Prop} {pf : Nat → Nat → Int32} {ov : Int64} {md mq mt : Int32} {mv : Nat → Nat → Int32} {i size wd mo le : Int32}  (hfl : l.stackTraces = false) (hR : rp y G td ru fr lv lt et tl hf hp ol PS pf ov md mq mt mv) : gk_M l yX4_setDue (Cond.code yX4_setDue cX4_setDue 7 none) 7 110 16 128 y A [.ref (ly_a y 0), .int i, .int size, .int wd, .int mo, .int le] G (fun v G1 => ∃ r, r < 3 ∧ i = nI r ∧ v = none ∧ (rg_in size 0 10000 ∧ rg_in wd (-1) 6 ∧ rg_in mo (-1) 29 ∧ rg_in le 0 100) ∧ rp y G1 td (rp_u2 (rp_u2 (rp_u2 (rp_u2 ru r 1 size) r 2 wd) r 3 mo) r 4 le) fr lv lt et tl hf hp ol PS pf ov md mq mt mv) (fun E G1 => (E = "java/lang/IndexOutOfBoundsException" ∧ G1 = G ∧ rg_out i 3) ∨ (E = "java/lang/IllegalArgumentException" ∧ G1 = G ∧ ¬ rg_out i 3 ∧ ¬ (rg_in size 0 10000 ∧ rg_in wd (-1) 6 ∧ rg_in mo (-1) 29 ∧ rg_in le 0 100))) := by
  refine gk_ofX (cc := cX4_setDue) (maxL := 7) (ret := none) (own := RX4) (by decide +kernel) rfl rfl (Nat.le_of_ble_eq_true rfl) ?_
  intro p e s m below meth c ls hK hret hlk hex hP hS hl
  have hl : lv_has ls 7 [(0, .ref (ly_a y 0)), (1, .int i), (2, .int size), (3, .int wd), (4, .int mo), (5, .int le)] := hl
  refine lv_aload_n hK.1.1 hK.1.2.1 dX4_setDue_0 rfl (lv_at hl 0 rfl) ?_
  refine lv_iload_n hK.1.1 hK.1.2.1 dX4_setDue_1 rfl (lv_at hl 1 rfl) ?_
  refine gk_callV (n := 1) (As := [.int i]) (rest := []) hK (c_X4_ruleOf l hfl hR (i := i)) (gk_gV q_5_12 q_5_13 q_5_14 q_1_2 q_5_15) ⟨rfl, by decide +kernel, by decide +kernel, by decide +kernel⟩ ⟨(Nat.le_of_ble_eq_true rfl), (Nat.le_of_ble_eq_true rfl)⟩ hP hS (gk_recv hK.2.2.1.1 hP hR.1 rfl) rfl hl.1 rfl (Nat.le_of_ble_eq_true rfl) dX4_setDue_2 ⟨(Nat.le_of_ble_eq_true rfl), (Nat.le_of_ble_eq_true rfl)⟩ (fun E ce q9 G1 H locs hx hP hS h1 h2 h3 => gk_out hex hlk hP hS h1 h2 h3 (Or.inl hx) (Nat.le_of_ble_eq_true rfl) (Nat.le_of_ble_eq_true rfl)) (fun v G1 H locs hw hP hS => ?_)
  obtain ⟨r_1, hr_1, rfl, rfl, hG9⟩ := hw
  rw [hG9] at hP
  refine W.eq (g2 := F0 m 5 ls [.ref (ly_f y 0 r_1)]) rfl ?_
  refine lv_astore (lv' := [(6, .ref (ly_f y 0 r_1)), (0, .ref (ly_a y 0)), (1, .int (nI r_1)), (2, .int size), (3, .int wd), (4, .int mo), (5, .int le)]) hK.1.1 hK.1.2.1 dX4_setDue_5 hl (by decide) rfl (fun ls hl => ?_)
  refine lv_iload_n hK.1.1 hK.1.2.1 dX4_setDue_7 rfl (lv_at hl 3 rfl) ?_
  refine lv_iconst (v := 0) hK.1.1 hK.1.2.1 dX4_setDue_8 (by decide) ?_
  refine lv_sipush (v := 10000) hK.1.1 hK.1.2.1 dX4_setDue_9 (by decide) ?_
  refine gk_callS (n := 3) (As := [.int size, .int 0, .int 10000]) (rest := []) hK (c_X4_requireRange l hfl hR (x := size) (a := 0) (b := 10000)) (gk_gS q_5_18 q_5_19 q_1_2 q_5_20) ⟨by decide +kernel, by decide +kernel, by decide +kernel⟩ ⟨(Nat.le_of_ble_eq_true rfl), (Nat.le_of_ble_eq_true rfl)⟩ hP hS rfl hl.1 rfl (Nat.le_of_ble_eq_true rfl) dX4_setDue_12 ⟨(Nat.le_of_ble_eq_true rfl), (Nat.le_of_ble_eq_true rfl)⟩ (fun E ce q9 G1 H locs hx hP hS h1 h2 h3 => gk_out hex hlk hP hS h1 h2 h3 (Or.inr ⟨hx.1, hx.2.1, rg_out_no hr_1 (by decide), fun h => hx.2.2 h.1⟩) (Nat.le_of_ble_eq_true rfl) (Nat.le_of_ble_eq_true rfl)) (fun v G1 H locs hw hP hS => ?_)
  obtain ⟨rfl, hG9, g_2⟩ := hw
  rw [hG9] at hP
  refine W.eq (g2 := F0 m 15 ls []) rfl ?_
  refine lv_iload_n hK.1.1 hK.1.2.1 dX4_setDue_15 rfl (lv_at hl 4 rfl) ?_
  refine lv_iconst (v := (-1)) hK.1.1 hK.1.2.1 dX4_setDue_16 (by decide) ?_
  refine lv_bipush (v := 6) hK.1.1 hK.1.2.1 dX4_setDue_17 (by decide) ?_
  refine gk_callS (n := 3) (As := [.int wd, .int (-1), .int 6]) (rest := []) hK (c_X4_requireRange l hfl hR (x := wd) (a := (-1)) (b := 6)) (gk_gS q_5_18 q_5_19 q_1_2 q_5_20) ⟨by decide +kernel, by decide +kernel, by decide +kernel⟩ ⟨(Nat.le_of_ble_eq_true rfl), (Nat.le_of_ble_eq_true rfl)⟩ hP hS rfl hl.1 rfl (Nat.le_of_ble_eq_true rfl) dX4_setDue_19 ⟨(Nat.le_of_ble_eq_true rfl), (Nat.le_of_ble_eq_true rfl)⟩ (fun E ce q9 G1 H locs hx hP hS h1 h2 h3 => gk_out hex hlk hP hS h1 h2 h3 (Or.inr ⟨hx.1, hx.2.1, rg_out_no hr_1 (by decide), fun h => hx.2.2 h.2.1⟩) (Nat.le_of_ble_eq_true rfl) (Nat.le_of_ble_eq_true rfl)) (fun v G1 H locs hw hP hS => ?_)
  obtain ⟨rfl, hG9, g_3⟩ := hw
  rw [hG9] at hP
  refine W.eq (g2 := F0 m 22 ls []) rfl ?_
  refine lv_iload hK.1.1 hK.1.2.1 dX4_setDue_22 (lv_at hl 5 rfl) ?_
  refine lv_iconst (v := (-1)) hK.1.1 hK.1.2.1 dX4_setDue_24 (by decide) ?_
  refine lv_bipush (v := 29) hK.1.1 hK.1.2.1 dX4_setDue_25 (by decide) ?_
  refine gk_callS (n := 3) (As := [.int mo, .int (-1), .int 29]) (rest := []) hK (c_X4_requireRange l hfl hR (x := mo) (a := (-1)) (b := 29)) (gk_gS q_5_18 q_5_19 q_1_2 q_5_20) ⟨by decide +kernel, by decide +kernel, by decide +kernel⟩ ⟨(Nat.le_of_ble_eq_true rfl), (Nat.le_of_ble_eq_true rfl)⟩ hP hS rfl hl.1 rfl (Nat.le_of_ble_eq_true rfl) dX4_setDue_27 ⟨(Nat.le_of_ble_eq_true rfl), (Nat.le_of_ble_eq_true rfl)⟩ (fun E ce q9 G1 H locs hx hP hS h1 h2 h3 => gk_out hex hlk hP hS h1 h2 h3 (Or.inr ⟨hx.1, hx.2.1, rg_out_no hr_1 (by decide), fun h => hx.2.2 h.2.2.1⟩) (Nat.le_of_ble_eq_true rfl) (Nat.le_of_ble_eq_true rfl)) (fun v G1 H locs hw hP hS => ?_)
  obtain ⟨rfl, hG9, g_4⟩ := hw
  rw [hG9] at hP
  refine W.eq (g2 := F0 m 30 ls []) rfl ?_
  refine lv_iload hK.1.1 hK.1.2.1 dX4_setDue_30 (lv_at hl 6 rfl) ?_
  refine lv_iconst (v := 0) hK.1.1 hK.1.2.1 dX4_setDue_32 (by decide) ?_
  refine lv_bipush (v := 100) hK.1.1 hK.1.2.1 dX4_setDue_33 (by decide) ?_
  refine gk_callS (n := 3) (As := [.int le, .int 0, .int 100]) (rest := []) hK (c_X4_requireRange l hfl hR (x := le) (a := 0) (b := 100)) (gk_gS q_5_18 q_5_19 q_1_2 q_5_20) ⟨by decide +kernel, by decide +kernel, by decide +kernel⟩ ⟨(Nat.le_of_ble_eq_true rfl), (Nat.le_of_ble_eq_true rfl)⟩ hP hS rfl hl.1 rfl (Nat.le_of_ble_eq_true rfl) dX4_setDue_35 ⟨(Nat.le_of_ble_eq_true rfl), (Nat.le_of_ble_eq_true rfl)⟩ (fun E ce q9 G1 H locs hx hP hS h1 h2 h3 => gk_out hex hlk hP hS h1 h2 h3 (Or.inr ⟨hx.1, hx.2.1, rg_out_no hr_1 (by decide), fun h => hx.2.2 h.2.2.2⟩) (Nat.le_of_ble_eq_true rfl) (Nat.le_of_ble_eq_true rfl)) (fun v G1 H locs hw hP hS => ?_)
  obtain ⟨rfl, hG9, g_5⟩ := hw
  rw [hG9] at hP
  refine W.eq (g2 := F0 m 38 ls []) rfl ?_
  refine lv_aload hK.1.1 hK.1.2.1 dX4_setDue_38 (lv_at hl 0 rfl) ?_
  refine lv_iload_n hK.1.1 hK.1.2.1 dX4_setDue_40 rfl (lv_at hl 3 rfl) ?_
  refine tw_42 hK hP hS hR hr_1 dX4_setDue_41 (fun H locs G hP hS hR => ?_)
  refine lv_aload hK.1.1 hK.1.2.1 dX4_setDue_44 (lv_at hl 0 rfl) ?_
  refine lv_iload_n hK.1.1 hK.1.2.1 dX4_setDue_46 rfl (lv_at hl 4 rfl) ?_
  refine tw_46 hK hP hS hR hr_1 dX4_setDue_47 (fun H locs G hP hS hR => ?_)
  refine lv_aload hK.1.1 hK.1.2.1 dX4_setDue_50 (lv_at hl 0 rfl) ?_
  refine lv_iload hK.1.1 hK.1.2.1 dX4_setDue_52 (lv_at hl 5 rfl) ?_
  refine tw_49 hK hP hS hR hr_1 dX4_setDue_54 (fun H locs G hP hS hR => ?_)
  refine lv_aload hK.1.1 hK.1.2.1 dX4_setDue_57 (lv_at hl 0 rfl) ?_
  refine lv_iload hK.1.1 hK.1.2.1 dX4_setDue_59 (lv_at hl 6 rfl) ?_
  refine tw_52 hK hP hS hR hr_1 dX4_setDue_61 (fun H locs G hP hS hR => ?_)
  exact vx_ret (gk_vret0 hK.1 hret hlk hP hS (Nat.le_of_ble_eq_true rfl) (Nat.le_of_ble_eq_true rfl) dX4_setDue_64 ⟨r_1, hr_1, rfl, rfl, ⟨g_2, g_3, g_4, g_5⟩, hR⟩)
set_option maxHeartbeats 4000000 in
set_option maxRecDepth 100000 in
theorem c_X4_setOld (l : Launch) {y : ly_T} {A : Nat → Prop} {G : gk_G} {td : Int32} {ru : Nat → Nat → Int32} {fr lv : Nat → Nat} {lt et tl : Nat → Int32} {hf hp : Nat → Option Nat} {ol : Nat → List Nat} {PS : Nat → Prop} {pf : Nat → Nat → Int32} {ov : Int64} {md mq mt : Int32} {mv : Nat → Nat → Int32} {i kp gr b1 b2 b3 : Int32}  (hfl : l.stackTraces = false) (hR : rp y G td ru fr lv lt et tl hf hp ol PS pf ov md mq mt mv) (hb1 : b1 = 0 ∨ b1 = 1) (hb2 : b2 = 0 ∨ b2 = 1) (hb3 : b3 = 0 ∨ b3 = 1) : gk_M l yX4_setOld (Cond.code yX4_setOld cX4_setOld 8 none) 7 110 16 128 y A [.ref (ly_a y 0), .int i, .int kp, .int gr, .int b1, .int b2, .int b3] G (fun v G1 => ∃ r, r < 3 ∧ i = nI r ∧ v = none ∧ (rg_in kp 0 10 ∧ rg_in gr 0 1000) ∧ rp y G1 td (rp_u2 (rp_u2 (rp_u2 (rp_u2 (rp_u2 ru r 5 kp) r 6 gr) r 7 b1) r 8 b2) r 9 b3) fr lv lt et tl hf hp ol PS pf ov md mq mt mv) (fun E G1 => (E = "java/lang/IndexOutOfBoundsException" ∧ G1 = G ∧ rg_out i 3) ∨ (E = "java/lang/IllegalArgumentException" ∧ G1 = G ∧ ¬ rg_out i 3 ∧ ¬ (rg_in kp 0 10 ∧ rg_in gr 0 1000))) := by
  refine gk_ofX (cc := cX4_setOld) (maxL := 8) (ret := none) (own := RX4) (by decide +kernel) rfl rfl (Nat.le_of_ble_eq_true rfl) ?_
  intro p e s m below meth c ls hK hret hlk hex hP hS hl
  have hl : lv_has ls 8 [(0, .ref (ly_a y 0)), (1, .int i), (2, .int kp), (3, .int gr), (4, .int b1), (5, .int b2), (6, .int b3)] := hl
  refine lv_aload_n hK.1.1 hK.1.2.1 dX4_setOld_0 rfl (lv_at hl 0 rfl) ?_
  refine lv_iload_n hK.1.1 hK.1.2.1 dX4_setOld_1 rfl (lv_at hl 1 rfl) ?_
  refine gk_callV (n := 1) (As := [.int i]) (rest := []) hK (c_X4_ruleOf l hfl hR (i := i)) (gk_gV q_5_12 q_5_13 q_5_14 q_1_2 q_5_15) ⟨rfl, by decide +kernel, by decide +kernel, by decide +kernel⟩ ⟨(Nat.le_of_ble_eq_true rfl), (Nat.le_of_ble_eq_true rfl)⟩ hP hS (gk_recv hK.2.2.1.1 hP hR.1 rfl) rfl hl.1 rfl (Nat.le_of_ble_eq_true rfl) dX4_setOld_2 ⟨(Nat.le_of_ble_eq_true rfl), (Nat.le_of_ble_eq_true rfl)⟩ (fun E ce q9 G1 H locs hx hP hS h1 h2 h3 => gk_out hex hlk hP hS h1 h2 h3 (Or.inl hx) (Nat.le_of_ble_eq_true rfl) (Nat.le_of_ble_eq_true rfl)) (fun v G1 H locs hw hP hS => ?_)
  obtain ⟨r_1, hr_1, rfl, rfl, hG9⟩ := hw
  rw [hG9] at hP
  refine W.eq (g2 := F0 m 5 ls [.ref (ly_f y 0 r_1)]) rfl ?_
  refine lv_astore (lv' := [(7, .ref (ly_f y 0 r_1)), (0, .ref (ly_a y 0)), (1, .int (nI r_1)), (2, .int kp), (3, .int gr), (4, .int b1), (5, .int b2), (6, .int b3)]) hK.1.1 hK.1.2.1 dX4_setOld_5 hl (by decide) rfl (fun ls hl => ?_)
  refine lv_iload_n hK.1.1 hK.1.2.1 dX4_setOld_7 rfl (lv_at hl 3 rfl) ?_
  refine lv_iconst (v := 0) hK.1.1 hK.1.2.1 dX4_setOld_8 (by decide) ?_
  refine lv_bipush (v := 10) hK.1.1 hK.1.2.1 dX4_setOld_9 (by decide) ?_
  refine gk_callS (n := 3) (As := [.int kp, .int 0, .int 10]) (rest := []) hK (c_X4_requireRange l hfl hR (x := kp) (a := 0) (b := 10)) (gk_gS q_5_18 q_5_19 q_1_2 q_5_20) ⟨by decide +kernel, by decide +kernel, by decide +kernel⟩ ⟨(Nat.le_of_ble_eq_true rfl), (Nat.le_of_ble_eq_true rfl)⟩ hP hS rfl hl.1 rfl (Nat.le_of_ble_eq_true rfl) dX4_setOld_11 ⟨(Nat.le_of_ble_eq_true rfl), (Nat.le_of_ble_eq_true rfl)⟩ (fun E ce q9 G1 H locs hx hP hS h1 h2 h3 => gk_out hex hlk hP hS h1 h2 h3 (Or.inr ⟨hx.1, hx.2.1, rg_out_no hr_1 (by decide), fun h => hx.2.2 h.1⟩) (Nat.le_of_ble_eq_true rfl) (Nat.le_of_ble_eq_true rfl)) (fun v G1 H locs hw hP hS => ?_)
  obtain ⟨rfl, hG9, g_2⟩ := hw
  rw [hG9] at hP
  refine W.eq (g2 := F0 m 14 ls []) rfl ?_
  refine lv_iload_n hK.1.1 hK.1.2.1 dX4_setOld_14 rfl (lv_at hl 4 rfl) ?_
  refine lv_iconst (v := 0) hK.1.1 hK.1.2.1 dX4_setOld_15 (by decide) ?_
  refine lv_sipush (v := 1000) hK.1.1 hK.1.2.1 dX4_setOld_16 (by decide) ?_
  refine gk_callS (n := 3) (As := [.int gr, .int 0, .int 1000]) (rest := []) hK (c_X4_requireRange l hfl hR (x := gr) (a := 0) (b := 1000)) (gk_gS q_5_18 q_5_19 q_1_2 q_5_20) ⟨by decide +kernel, by decide +kernel, by decide +kernel⟩ ⟨(Nat.le_of_ble_eq_true rfl), (Nat.le_of_ble_eq_true rfl)⟩ hP hS rfl hl.1 rfl (Nat.le_of_ble_eq_true rfl) dX4_setOld_19 ⟨(Nat.le_of_ble_eq_true rfl), (Nat.le_of_ble_eq_true rfl)⟩ (fun E ce q9 G1 H locs hx hP hS h1 h2 h3 => gk_out hex hlk hP hS h1 h2 h3 (Or.inr ⟨hx.1, hx.2.1, rg_out_no hr_1 (by decide), fun h => hx.2.2 h.2⟩) (Nat.le_of_ble_eq_true rfl) (Nat.le_of_ble_eq_true rfl)) (fun v G1 H locs hw hP hS => ?_)
  obtain ⟨rfl, hG9, g_3⟩ := hw
  rw [hG9] at hP
  refine W.eq (g2 := F0 m 22 ls []) rfl ?_
  refine lv_aload hK.1.1 hK.1.2.1 dX4_setOld_22 (lv_at hl 0 rfl) ?_
  refine lv_iload_n hK.1.1 hK.1.2.1 dX4_setOld_24 rfl (lv_at hl 3 rfl) ?_
  refine tw_55 hK hP hS hR hr_1 dX4_setOld_25 (fun H locs G hP hS hR => ?_)
  refine lv_aload hK.1.1 hK.1.2.1 dX4_setOld_28 (lv_at hl 0 rfl) ?_
  refine lv_iload_n hK.1.1 hK.1.2.1 dX4_setOld_30 rfl (lv_at hl 4 rfl) ?_
  refine tw_58 hK hP hS hR hr_1 dX4_setOld_31 (fun H locs G hP hS hR => ?_)
  refine lv_aload hK.1.1 hK.1.2.1 dX4_setOld_34 (lv_at hl 0 rfl) ?_
  refine lv_iload hK.1.1 hK.1.2.1 dX4_setOld_36 (lv_at hl 5 rfl) ?_
  refine tw_61 hK hP hS hR hr_1 hb1 dX4_setOld_38 (fun H locs G hP hS hR => ?_)
  refine lv_aload hK.1.1 hK.1.2.1 dX4_setOld_41 (lv_at hl 0 rfl) ?_
  refine lv_iload hK.1.1 hK.1.2.1 dX4_setOld_43 (lv_at hl 6 rfl) ?_
  refine tw_65 hK hP hS hR hr_1 hb2 dX4_setOld_45 (fun H locs G hP hS hR => ?_)
  refine lv_aload hK.1.1 hK.1.2.1 dX4_setOld_48 (lv_at hl 0 rfl) ?_
  refine lv_iload hK.1.1 hK.1.2.1 dX4_setOld_50 (lv_at hl 7 rfl) ?_
  refine tw_68 hK hP hS hR hr_1 hb3 dX4_setOld_52 (fun H locs G hP hS hR => ?_)
  exact vx_ret (gk_vret0 hK.1 hret hlk hP hS (Nat.le_of_ble_eq_true rfl) (Nat.le_of_ble_eq_true rfl) dX4_setOld_55 ⟨r_1, hr_1, rfl, rfl, ⟨g_2, g_3⟩, hR⟩)
set_option maxHeartbeats 4000000 in
set_option maxRecDepth 100000 in
theorem c_X4_give (l : Launch) {y : ly_T} {A : Nat → Prop} {G : gk_G} {td : Int32} {ru : Nat → Nat → Int32} {fr lv : Nat → Nat} {lt et tl : Nat → Int32} {hf hp : Nat → Option Nat} {ol : Nat → List Nat} {PS : Nat → Prop} {pf : Nat → Nat → Int32} {ov : Int64} {md mq mt : Int32} {mv : Nat → Nat → Int32} {i j : Int32}  (hfl : l.stackTraces = false) (hR : rp y G td ru fr lv lt et tl hf hp ol PS pf ov md mq mt mv) : gk_M l yX4_give (Cond.code yX4_give cX4_give 6 (some .int)) 7 110 16 128 y A [.ref (ly_a y 0), .int i, .int j] G (fun v G1 => ∃ f r, f < 5 ∧ r < 3 ∧ i = nI f ∧ j = nI r ∧ v = some (.int (nI (fr f))) ∧ rp y G1 td ru (va_up fr f r) lv lt et tl hf hp ol PS pf ov md mq mt mv) (fun E G1 => E = "java/lang/IndexOutOfBoundsException" ∧ G1 = G ∧ (rg_out i 5 ∨ rg_out j 3)) := by
  refine gk_ofX (cc := cX4_give) (maxL := 6) (ret := (some .int)) (own := RX4) (by decide +kernel) rfl rfl (Nat.le_of_ble_eq_true rfl) ?_
  intro p e s m below meth c ls hK hret hlk hex hP hS hl
  have hl : lv_has ls 6 [(0, .ref (ly_a y 0)), (1, .int i), (2, .int j)] := hl
  refine lv_aload_n hK.1.1 hK.1.2.1 dX4_give_0 rfl (lv_at hl 0 rfl) ?_
  refine lv_iload_n hK.1.1 hK.1.2.1 dX4_give_1 rfl (lv_at hl 1 rfl) ?_
  refine gk_callV (n := 1) (As := [.int i]) (rest := []) hK (c_X4_fileOf l hfl hR (i := i)) (gk_gV q_7_19 q_7_20 q_7_21 q_1_2 q_7_22) ⟨rfl, by decide +kernel, by decide +kernel, by decide +kernel⟩ ⟨(Nat.le_of_ble_eq_true rfl), (Nat.le_of_ble_eq_true rfl)⟩ hP hS (gk_recv hK.2.2.1.1 hP hR.1 rfl) rfl hl.1 rfl (Nat.le_of_ble_eq_true rfl) dX4_give_2 ⟨(Nat.le_of_ble_eq_true rfl), (Nat.le_of_ble_eq_true rfl)⟩ (fun E ce q9 G1 H locs hx hP hS h1 h2 h3 => gk_out hex hlk hP hS h1 h2 h3 ⟨hx.1, hx.2.1, Or.inl hx.2.2⟩ (Nat.le_of_ble_eq_true rfl) (Nat.le_of_ble_eq_true rfl)) (fun v G1 H locs hw hP hS => ?_)
  obtain ⟨f_1, hf_1, rfl, rfl, hG9⟩ := hw
  rw [hG9] at hP
  refine W.eq (g2 := F0 m 5 ls [.ref (ly_f y 1 f_1)]) rfl ?_
  refine lv_astore_n (lv' := [(3, .ref (ly_f y 1 f_1)), (0, .ref (ly_a y 0)), (1, .int (nI f_1)), (2, .int j)]) hK.1.1 hK.1.2.1 dX4_give_5 rfl hl (by decide) rfl (fun ls hl => ?_)
  refine lv_aload_n hK.1.1 hK.1.2.1 dX4_give_6 rfl (lv_at hl 1 rfl) ?_
  refine lv_iload_n hK.1.1 hK.1.2.1 dX4_give_7 rfl (lv_at hl 3 rfl) ?_
  refine gk_callV (n := 1) (As := [.int j]) (rest := []) hK (c_X4_ruleOf l hfl hR (i := j)) (gk_gV q_5_12 q_5_13 q_5_14 q_1_2 q_5_15) ⟨rfl, by decide +kernel, by decide +kernel, by decide +kernel⟩ ⟨(Nat.le_of_ble_eq_true rfl), (Nat.le_of_ble_eq_true rfl)⟩ hP hS (gk_recv hK.2.2.1.1 hP hR.1 rfl) rfl hl.1 rfl (Nat.le_of_ble_eq_true rfl) dX4_give_8 ⟨(Nat.le_of_ble_eq_true rfl), (Nat.le_of_ble_eq_true rfl)⟩ (fun E ce q9 G1 H locs hx hP hS h1 h2 h3 => gk_out hex hlk hP hS h1 h2 h3 ⟨hx.1, hx.2.1, Or.inr hx.2.2⟩ (Nat.le_of_ble_eq_true rfl) (Nat.le_of_ble_eq_true rfl)) (fun v G1 H locs hw hP hS => ?_)
  obtain ⟨r_2, hr_2, rfl, rfl, hG9⟩ := hw
  rw [hG9] at hP
  refine W.eq (g2 := F0 m 11 ls [.ref (ly_f y 0 r_2)]) rfl ?_
  refine lv_astore (lv' := [(4, .ref (ly_f y 0 r_2)), (3, .ref (ly_f y 1 f_1)), (0, .ref (ly_a y 0)), (1, .int (nI f_1)), (2, .int (nI r_2))]) hK.1.1 hK.1.2.1 dX4_give_11 hl (by decide) rfl (fun ls hl => ?_)
  refine lv_aload_n hK.1.1 hK.1.2.1 dX4_give_13 rfl (lv_at hl 1 rfl) ?_
  refine tr_75 hK hP hR hf_1 dX4_give_14 ?_
  refine tr_79 hK hP hR (hR.2.2.2.1 f_1 hf_1).1 dX4_give_17 ?_
  refine lv_istore (lv' := [(5, .int (nI (fr f_1))), (4, .ref (ly_f y 0 r_2)), (3, .ref (ly_f y 1 f_1)), (0, .ref (ly_a y 0)), (1, .int (nI f_1)), (2, .int (nI r_2))]) hK.1.1 hK.1.2.1 dX4_give_20 hl (by decide) rfl (fun ls hl => ?_)
  refine lv_aload_n hK.1.1 hK.1.2.1 dX4_give_22 rfl (lv_at hl 2 rfl) ?_
  refine lv_aload hK.1.1 hK.1.2.1 dX4_give_23 (lv_at hl 1 rfl) ?_
  refine tw_75 hK hP hS hR hf_1 hr_2 dX4_give_25 (fun H locs G hP hS hR => ?_)
  refine lv_iload hK.1.1 hK.1.2.1 dX4_give_28 (lv_at hl 0 rfl) ?_
  exact vx_ret (gk_iret0 hK.1 hret hlk hP hS (Nat.le_of_ble_eq_true rfl) (Nat.le_of_ble_eq_true rfl) dX4_give_30 ⟨f_1, r_2, hf_1, hr_2, rfl, rfl, rfl, hR⟩)
set_option maxHeartbeats 4000000 in
set_option maxRecDepth 100000 in
theorem c_X4_open (l : Launch) {y : ly_T} {A : Nat → Prop} {G : gk_G} {td : Int32} {ru : Nat → Nat → Int32} {fr lv : Nat → Nat} {lt et tl : Nat → Int32} {hf hp : Nat → Option Nat} {ol : Nat → List Nat} {PS : Nat → Prop} {pf : Nat → Nat → Int32} {ov : Int64} {md mq mt : Int32} {mv : Nat → Nat → Int32} {i j : Int32}  (hfl : l.stackTraces = false) (hR : rp y G td ru fr lv lt et tl hf hp ol PS pf ov md mq mt mv) : gk_M l yX4_open (Cond.code yX4_open cX4_open 5 none) 7 110 16 128 y A [.ref (ly_a y 0), .int i, .int j] G (fun v G1 => ∃ h f, h < 4 ∧ f < 5 ∧ i = nI h ∧ j = nI f ∧ v = none ∧ rp y G1 td ru fr lv lt et tl (va_up hf h (some f)) (va_up hp h (some (lv f))) ol PS pf ov md mq mt mv) (fun E G1 => E = "java/lang/IndexOutOfBoundsException" ∧ G1 = G ∧ (rg_out i 4 ∨ rg_out j 5)) := by
  refine gk_ofX (cc := cX4_open) (maxL := 5) (ret := none) (own := RX4) (by decide +kernel) rfl rfl (Nat.le_of_ble_eq_true rfl) ?_
  intro p e s m below meth c ls hK hret hlk hex hP hS hl
  have hl : lv_has ls 5 [(0, .ref (ly_a y 0)), (1, .int i), (2, .int j)] := hl
  refine lv_aload_n hK.1.1 hK.1.2.1 dX4_open_0 rfl (lv_at hl 0 rfl) ?_
  refine lv_iload_n hK.1.1 hK.1.2.1 dX4_open_1 rfl (lv_at hl 1 rfl) ?_
  refine gk_callV (n := 1) (As := [.int i]) (rest := []) hK (c_X4_holderOf l hfl hR (i := i)) (gk_gV q_8_16 q_8_17 q_8_18 q_1_2 q_8_19) ⟨rfl, by decide +kernel, by decide +kernel, by decide +kernel⟩ ⟨(Nat.le_of_ble_eq_true rfl), (Nat.le_of_ble_eq_true rfl)⟩ hP hS (gk_recv hK.2.2.1.1 hP hR.1 rfl) rfl hl.1 rfl (Nat.le_of_ble_eq_true rfl) dX4_open_2 ⟨(Nat.le_of_ble_eq_true rfl), (Nat.le_of_ble_eq_true rfl)⟩ (fun E ce q9 G1 H locs hx hP hS h1 h2 h3 => gk_out hex hlk hP hS h1 h2 h3 ⟨hx.1, hx.2.1, Or.inl hx.2.2⟩ (Nat.le_of_ble_eq_true rfl) (Nat.le_of_ble_eq_true rfl)) (fun v G1 H locs hw hP hS => ?_)
  obtain ⟨h_1, hh_1, rfl, rfl, hG9⟩ := hw
  rw [hG9] at hP
  refine W.eq (g2 := F0 m 5 ls [.ref (ly_f y 2 h_1)]) rfl ?_
  refine lv_astore_n (lv' := [(3, .ref (ly_f y 2 h_1)), (0, .ref (ly_a y 0)), (1, .int (nI h_1)), (2, .int j)]) hK.1.1 hK.1.2.1 dX4_open_5 rfl hl (by decide) rfl (fun ls hl => ?_)
  refine lv_aload_n hK.1.1 hK.1.2.1 dX4_open_6 rfl (lv_at hl 1 rfl) ?_
  refine lv_iload_n hK.1.1 hK.1.2.1 dX4_open_7 rfl (lv_at hl 3 rfl) ?_
  refine gk_callV (n := 1) (As := [.int j]) (rest := []) hK (c_X4_fileOf l hfl hR (i := j)) (gk_gV q_7_19 q_7_20 q_7_21 q_1_2 q_7_22) ⟨rfl, by decide +kernel, by decide +kernel, by decide +kernel⟩ ⟨(Nat.le_of_ble_eq_true rfl), (Nat.le_of_ble_eq_true rfl)⟩ hP hS (gk_recv hK.2.2.1.1 hP hR.1 rfl) rfl hl.1 rfl (Nat.le_of_ble_eq_true rfl) dX4_open_8 ⟨(Nat.le_of_ble_eq_true rfl), (Nat.le_of_ble_eq_true rfl)⟩ (fun E ce q9 G1 H locs hx hP hS h1 h2 h3 => gk_out hex hlk hP hS h1 h2 h3 ⟨hx.1, hx.2.1, Or.inr hx.2.2⟩ (Nat.le_of_ble_eq_true rfl) (Nat.le_of_ble_eq_true rfl)) (fun v G1 H locs hw hP hS => ?_)
  obtain ⟨f_2, hf_2, rfl, rfl, hG9⟩ := hw
  rw [hG9] at hP
  refine W.eq (g2 := F0 m 11 ls [.ref (ly_f y 1 f_2)]) rfl ?_
  refine lv_astore (lv' := [(4, .ref (ly_f y 1 f_2)), (3, .ref (ly_f y 2 h_1)), (0, .ref (ly_a y 0)), (1, .int (nI h_1)), (2, .int (nI f_2))]) hK.1.1 hK.1.2.1 dX4_open_11 hl (by decide) rfl (fun ls hl => ?_)
  refine lv_aload_n hK.1.1 hK.1.2.1 dX4_open_13 rfl (lv_at hl 1 rfl) ?_
  refine lv_aload hK.1.1 hK.1.2.1 dX4_open_14 (lv_at hl 0 rfl) ?_
  refine tw_86 hK hP hS hR hh_1 (some f_2) (fun _ h => by cases h; exact hf_2) dX4_open_16 (fun H locs G hP hS hR => ?_)
  refine lv_aload_n hK.1.1 hK.1.2.1 dX4_open_19 rfl (lv_at hl 1 rfl) ?_
  refine lv_aload hK.1.1 hK.1.2.1 dX4_open_20 (lv_at hl 0 rfl) ?_
  refine tr_90 hK hP hR hf_2 dX4_open_22 ?_
  refine tw_94 hK hP hS hR hh_1 (some (lv f_2)) dX4_open_25 (fun H locs G hP hS hR => ?_)
  exact vx_ret (gk_vret0 hK.1 hret hlk hP hS (Nat.le_of_ble_eq_true rfl) (Nat.le_of_ble_eq_true rfl) dX4_open_28 ⟨h_1, f_2, hh_1, hf_2, rfl, rfl, rfl, hR⟩)
set_option maxHeartbeats 4000000 in
set_option maxRecDepth 100000 in
theorem c_X4_shut (l : Launch) {y : ly_T} {A : Nat → Prop} {G : gk_G} {td : Int32} {ru : Nat → Nat → Int32} {fr lv : Nat → Nat} {lt et tl : Nat → Int32} {hf hp : Nat → Option Nat} {ol : Nat → List Nat} {PS : Nat → Prop} {pf : Nat → Nat → Int32} {ov : Int64} {md mq mt : Int32} {mv : Nat → Nat → Int32} {i : Int32}  (hfl : l.stackTraces = false) (hR : rp y G td ru fr lv lt et tl hf hp ol PS pf ov md mq mt mv) : gk_M l yX4_shut (Cond.code yX4_shut cX4_shut 4 (some .boolean)) 7 110 16 128 y A [.ref (ly_a y 0), .int i] G (fun v G1 => ∃ h, h < 4 ∧ i = nI h ∧ v = some (.int (rg_b (hp h).isSome)) ∧ rp y G1 td ru fr lv lt et tl (va_up hf h none) (va_up hp h none) ol PS pf ov md mq mt mv) (fun E G1 => E = "java/lang/IndexOutOfBoundsException" ∧ G1 = G ∧ rg_out i 4) := by
  refine gk_ofX (cc := cX4_shut) (maxL := 4) (ret := (some .boolean)) (own := RX4) (by decide +kernel) rfl rfl (Nat.le_of_ble_eq_true rfl) ?_
  intro p e s m below meth c ls hK hret hlk hex hP hS hl
  have hl : lv_has ls 4 [(0, .ref (ly_a y 0)), (1, .int i)] := hl
  refine lv_aload_n hK.1.1 hK.1.2.1 dX4_shut_0 rfl (lv_at hl 0 rfl) ?_
  refine lv_iload_n hK.1.1 hK.1.2.1 dX4_shut_1 rfl (lv_at hl 1 rfl) ?_
  refine gk_callV (n := 1) (As := [.int i]) (rest := []) hK (c_X4_holderOf l hfl hR (i := i)) (gk_gV q_8_16 q_8_17 q_8_18 q_1_2 q_8_19) ⟨rfl, by decide +kernel, by decide +kernel, by decide +kernel⟩ ⟨(Nat.le_of_ble_eq_true rfl), (Nat.le_of_ble_eq_true rfl)⟩ hP hS (gk_recv hK.2.2.1.1 hP hR.1 rfl) rfl hl.1 rfl (Nat.le_of_ble_eq_true rfl) dX4_shut_2 ⟨(Nat.le_of_ble_eq_true rfl), (Nat.le_of_ble_eq_true rfl)⟩ (fun E ce q9 G1 H locs hx hP hS h1 h2 h3 => gk_out hex hlk hP hS h1 h2 h3 hx (Nat.le_of_ble_eq_true rfl) (Nat.le_of_ble_eq_true rfl)) (fun v G1 H locs hw hP hS => ?_)
  obtain ⟨h_1, hh_1, rfl, rfl, hG9⟩ := hw
  rw [hG9] at hP
  refine W.eq (g2 := F0 m 5 ls [.ref (ly_f y 2 h_1)]) rfl ?_
  refine lv_astore_n (lv' := [(2, .ref (ly_f y 2 h_1)), (0, .ref (ly_a y 0)), (1, .int (nI h_1))]) hK.1.1 hK.1.2.1 dX4_shut_5 rfl hl (by decide) rfl (fun ls hl => ?_)
  refine lv_aload_n hK.1.1 hK.1.2.1 dX4_shut_6 rfl (lv_at hl 0 rfl) ?_
  rcases ep_3 : hp h_1 with _ | t_2
  · refine tr_94 hK hP hR hh_1 dX4_shut_7 ?_
    rw [ep_3]
    refine W.eq (g2 := F0 m 10 ls [.null]) rfl ?_
    refine lv_ifnullN (tgt := 17) hK.1.1 hK.1.2.1 dX4_shut_10 (by decide) ?_
    refine lv_iconst (v := 0) hK.1.1 hK.1.2.1 dX4_shut_17 (by decide) ?_
    refine lv_istore_n (lv' := [(3, .int 0), (2, .ref (ly_f y 2 h_1)), (0, .ref (ly_a y 0)), (1, .int (nI h_1))]) hK.1.1 hK.1.2.1 dX4_shut_18 rfl hl (by decide) rfl (fun ls hl => ?_)
    refine lv_aload_n hK.1.1 hK.1.2.1 dX4_shut_19 rfl (lv_at hl 1 rfl) ?_
    refine lv_null hK.1.1 hK.1.2.1 dX4_shut_20 ?_
    refine tw_86 hK hP hS hR hh_1 none (fun _ h => by cases h) dX4_shut_21 (fun H locs G hP hS hR => ?_)
    refine lv_aload_n hK.1.1 hK.1.2.1 dX4_shut_24 rfl (lv_at hl 1 rfl) ?_
    refine lv_null hK.1.1 hK.1.2.1 dX4_shut_25 ?_
    refine tw_94 hK hP hS hR hh_1 none dX4_shut_26 (fun H locs G hP hS hR => ?_)
    refine lv_iload_n hK.1.1 hK.1.2.1 dX4_shut_29 rfl (lv_at hl 0 rfl) ?_
    exact vx_ret (gk_zret0 hK.1 hret (by first | decide | exact (rp_nz (by first | assumption | (simp; done))).1) hlk hP hS (Nat.le_of_ble_eq_true rfl) (Nat.le_of_ble_eq_true rfl) dX4_shut_30 ⟨h_1, hh_1, rfl, by rw [ep_3]; rfl, hR⟩)
  · refine tr_94 hK hP hR hh_1 dX4_shut_7 ?_
    rw [ep_3]
    refine W.eq (g2 := F0 m 10 ls [.ref t_2]) rfl ?_
    refine lv_ifnull hK.1.1 hK.1.2.1 dX4_shut_10 ?_
    refine lv_iconst (v := 1) hK.1.1 hK.1.2.1 dX4_shut_13 (by decide) ?_
    refine lv_goto (tgt := 18) hK.1.1 hK.1.2.1 dX4_shut_14 (by decide) ?_
    refine lv_istore_n (lv' := [(3, .int 1), (2, .ref (ly_f y 2 h_1)), (0, .ref (ly_a y 0)), (1, .int (nI h_1))]) hK.1.1 hK.1.2.1 dX4_shut_18 rfl hl (by decide) rfl (fun ls hl => ?_)
    refine lv_aload_n hK.1.1 hK.1.2.1 dX4_shut_19 rfl (lv_at hl 1 rfl) ?_
    refine lv_null hK.1.1 hK.1.2.1 dX4_shut_20 ?_
    refine tw_86 hK hP hS hR hh_1 none (fun _ h => by cases h) dX4_shut_21 (fun H locs G hP hS hR => ?_)
    refine lv_aload_n hK.1.1 hK.1.2.1 dX4_shut_24 rfl (lv_at hl 1 rfl) ?_
    refine lv_null hK.1.1 hK.1.2.1 dX4_shut_25 ?_
    refine tw_94 hK hP hS hR hh_1 none dX4_shut_26 (fun H locs G hP hS hR => ?_)
    refine lv_iload_n hK.1.1 hK.1.2.1 dX4_shut_29 rfl (lv_at hl 0 rfl) ?_
    exact vx_ret (gk_zret0 hK.1 hret (by first | decide | exact (rp_nz (by first | assumption | (simp; done))).1) hlk hP hS (Nat.le_of_ble_eq_true rfl) (Nat.le_of_ble_eq_true rfl) dX4_shut_30 ⟨h_1, hh_1, rfl, by rw [ep_3]; rfl, hR⟩)
set_option maxHeartbeats 4000000 in
set_option maxRecDepth 100000 in
theorem c_X4_tell (l : Launch) {y : ly_T} {A : Nat → Prop} {G : gk_G} {td : Int32} {ru : Nat → Nat → Int32} {fr lv : Nat → Nat} {lt et tl : Nat → Int32} {hf hp : Nat → Option Nat} {ol : Nat → List Nat} {PS : Nat → Prop} {pf : Nat → Nat → Int32} {ov : Int64} {md mq mt : Int32} {mv : Nat → Nat → Int32} {i : Int32}  (hfl : l.stackTraces = false) (hR : rp y G td ru fr lv lt et tl hf hp ol PS pf ov md mq mt mv) : gk_M l yX4_tell (Cond.code yX4_tell cX4_tell 5 (some .boolean)) 7 110 16 128 y A [.ref (ly_a y 0), .int i] G (fun v G1 => ∃ h f, h < 4 ∧ f < 5 ∧ i = nI h ∧ hf h = some f ∧ v = some (.int (rg_b (decide (¬ hp h = some (lv f))))) ∧ rp y G1 td ru fr lv lt et tl hf (va_up hp h (some (lv f))) ol PS pf ov md mq mt mv) (fun E G1 => (E = "java/lang/IndexOutOfBoundsException" ∧ G1 = G ∧ rg_out i 4) ∨ (E = "java/lang/IllegalStateException" ∧ G1 = G ∧ ∃ h, h < 4 ∧ i = nI h ∧ hf h = none)) := by
  refine gk_ofX (cc := cX4_tell) (maxL := 5) (ret := (some .boolean)) (own := RX4) (by decide +kernel) rfl rfl (Nat.le_of_ble_eq_true rfl) ?_
  intro p e s m below meth c ls hK hret hlk hex hP hS hl
  have hl : lv_has ls 5 [(0, .ref (ly_a y 0)), (1, .int i)] := hl
  refine lv_aload_n hK.1.1 hK.1.2.1 dX4_tell_0 rfl (lv_at hl 0 rfl) ?_
  refine lv_iload_n hK.1.1 hK.1.2.1 dX4_tell_1 rfl (lv_at hl 1 rfl) ?_
  refine gk_callV (n := 1) (As := [.int i]) (rest := []) hK (c_X4_holderOf l hfl hR (i := i)) (gk_gV q_8_16 q_8_17 q_8_18 q_1_2 q_8_19) ⟨rfl, by decide +kernel, by decide +kernel, by decide +kernel⟩ ⟨(Nat.le_of_ble_eq_true rfl), (Nat.le_of_ble_eq_true rfl)⟩ hP hS (gk_recv hK.2.2.1.1 hP hR.1 rfl) rfl hl.1 rfl (Nat.le_of_ble_eq_true rfl) dX4_tell_2 ⟨(Nat.le_of_ble_eq_true rfl), (Nat.le_of_ble_eq_true rfl)⟩ (fun E ce q9 G1 H locs hx hP hS h1 h2 h3 => gk_out hex hlk hP hS h1 h2 h3 (Or.inl hx) (Nat.le_of_ble_eq_true rfl) (Nat.le_of_ble_eq_true rfl)) (fun v G1 H locs hw hP hS => ?_)
  obtain ⟨h_1, hh_1, rfl, rfl, hG9⟩ := hw
  rw [hG9] at hP
  refine W.eq (g2 := F0 m 5 ls [.ref (ly_f y 2 h_1)]) rfl ?_
  refine lv_astore_n (lv' := [(2, .ref (ly_f y 2 h_1)), (0, .ref (ly_a y 0)), (1, .int (nI h_1))]) hK.1.1 hK.1.2.1 dX4_tell_5 rfl hl (by decide) rfl (fun ls hl => ?_)
  refine lv_aload_n hK.1.1 hK.1.2.1 dX4_tell_6 rfl (lv_at hl 0 rfl) ?_
  rcases ef_3 : hf h_1 with _ | f_2
  · refine tr_86 hK hP hR hh_1 dX4_tell_7 ?_
    rw [ef_3]
    refine W.eq (g2 := F0 m 10 ls [.null]) rfl ?_
    refine lv_astore_nN (lv' := [(3, .null), (2, .ref (ly_f y 2 h_1)), (0, .ref (ly_a y 0)), (1, .int (nI h_1))]) hK.1.1 hK.1.2.1 dX4_tell_10 rfl hl (by decide) rfl (fun ls hl => ?_)
    refine lv_aload_nN hK.1.1 hK.1.2.1 dX4_tell_11 rfl (lv_at hl 0 rfl) ?_
    refine lv_ifnonnullN hK.1.1 hK.1.2.1 dX4_tell_12 ?_
    exact gk_thr2 hK hfl hK.2.2.1.2.1.1 hP hS hl.1 hex hlk dX4_tell_15 dX4_tell_18 dX4_tell_19 dX4_tell_21 dX4_tell_24 ⟨(Nat.le_of_ble_eq_true rfl), (Nat.le_of_ble_eq_true rfl), (Nat.le_of_ble_eq_true rfl), (Nat.le_of_ble_eq_true rfl)⟩ ⟨(Nat.le_of_ble_eq_true rfl), (Nat.le_of_ble_eq_true rfl)⟩ (Or.inr ⟨rfl, rfl, h_1, hh_1, rfl, ef_3⟩)
  · have hf_2 : f_2 < 5 := (hR.2.2.2.2.1.1 h_1 hh_1).1 f_2 ef_3
    refine tr_86 hK hP hR hh_1 dX4_tell_7 ?_
    rw [ef_3]
    refine W.eq (g2 := F0 m 10 ls [.ref (ly_f y 1 f_2)]) rfl ?_
    refine lv_astore_n (lv' := [(3, .ref (ly_f y 1 f_2)), (2, .ref (ly_f y 2 h_1)), (0, .ref (ly_a y 0)), (1, .int (nI h_1))]) hK.1.1 hK.1.2.1 dX4_tell_10 rfl hl (by decide) rfl (fun ls hl => ?_)
    refine lv_aload_n hK.1.1 hK.1.2.1 dX4_tell_11 rfl (lv_at hl 0 rfl) ?_
    refine lv_ifnonnull (tgt := 25) hK.1.1 hK.1.2.1 dX4_tell_12 (by decide) ?_
    refine lv_aload_n hK.1.1 hK.1.2.1 dX4_tell_25 rfl (lv_at hl 1 rfl) ?_
    refine tr_94 hK hP hR hh_1 dX4_tell_26 ?_
    refine lv_aload_n hK.1.1 hK.1.2.1 dX4_tell_29 rfl (lv_at hl 0 rfl) ?_
    refine tr_90 hK hP hR hf_2 dX4_tell_30 ?_
    refine lv_acmp_eq (rx := hp h_1) (ry := some (lv f_2)) (tgt := 40) hK.1.1 hK.1.2.1 dX4_tell_33 (by decide) (fun c33_4 => ?_) (fun c33_4 => ?_)
    · refine lv_iconst (v := 0) hK.1.1 hK.1.2.1 dX4_tell_40 (by decide) ?_
      refine lv_istore (lv' := [(4, .int 0), (3, .ref (ly_f y 1 f_2)), (2, .ref (ly_f y 2 h_1)), (0, .ref (ly_a y 0)), (1, .int (nI h_1))]) hK.1.1 hK.1.2.1 dX4_tell_41 hl (by decide) rfl (fun ls hl => ?_)
      refine lv_aload_n hK.1.1 hK.1.2.1 dX4_tell_43 rfl (lv_at hl 2 rfl) ?_
      refine lv_aload_n hK.1.1 hK.1.2.1 dX4_tell_44 rfl (lv_at hl 1 rfl) ?_
      refine tr_90 hK hP hR hf_2 dX4_tell_45 ?_
      refine tw_94 hK hP hS hR hh_1 (some (lv f_2)) dX4_tell_48 (fun H locs G hP hS hR => ?_)
      refine lv_iload hK.1.1 hK.1.2.1 dX4_tell_51 (lv_at hl 0 rfl) ?_
      exact vx_ret (gk_zret0 hK.1 hret (by first | decide | exact (rp_nz (by first | assumption | (simp; done))).1) hlk hP hS (Nat.le_of_ble_eq_true rfl) (Nat.le_of_ble_eq_true rfl) dX4_tell_53 ⟨h_1, f_2, hh_1, hf_2, rfl, ef_3, (by (try simp only [rg_b0, rg_b1, Bool.not_eq_false, Bool.not_eq_true] at c33_4); simp [rg_b, c33_4]), hR⟩)
    · refine lv_iconst (v := 1) hK.1.1 hK.1.2.1 dX4_tell_36 (by decide) ?_
      refine lv_goto (tgt := 41) hK.1.1 hK.1.2.1 dX4_tell_37 (by decide) ?_
      refine lv_istore (lv' := [(4, .int 1), (3, .ref (ly_f y 1 f_2)), (2, .ref (ly_f y 2 h_1)), (0, .ref (ly_a y 0)), (1, .int (nI h_1))]) hK.1.1 hK.1.2.1 dX4_tell_41 hl (by decide) rfl (fun ls hl => ?_)
      refine lv_aload_n hK.1.1 hK.1.2.1 dX4_tell_43 rfl (lv_at hl 2 rfl) ?_
      refine lv_aload_n hK.1.1 hK.1.2.1 dX4_tell_44 rfl (lv_at hl 1 rfl) ?_
      refine tr_90 hK hP hR hf_2 dX4_tell_45 ?_
      refine tw_94 hK hP hS hR hh_1 (some (lv f_2)) dX4_tell_48 (fun H locs G hP hS hR => ?_)
      refine lv_iload hK.1.1 hK.1.2.1 dX4_tell_51 (lv_at hl 0 rfl) ?_
      exact vx_ret (gk_zret0 hK.1 hret (by first | decide | exact (rp_nz (by first | assumption | (simp; done))).1) hlk hP hS (Nat.le_of_ble_eq_true rfl) (Nat.le_of_ble_eq_true rfl) dX4_tell_53 ⟨h_1, f_2, hh_1, hf_2, rfl, ef_3, (by (try simp only [rg_b0, rg_b1, Bool.not_eq_false, Bool.not_eq_true] at c33_4); simp [rg_b, c33_4]), hR⟩)
set_option maxHeartbeats 4000000 in
set_option maxRecDepth 100000 in
theorem c_X4_write (l : Launch) {y : ly_T} {A : Nat → Prop} {G : gk_G} {td : Int32} {ru : Nat → Nat → Int32} {fr lv : Nat → Nat} {lt et tl : Nat → Int32} {hf hp : Nat → Option Nat} {ol : Nat → List Nat} {PS : Nat → Prop} {pf : Nat → Nat → Int32} {ov : Int64} {md mq mt : Int32} {mv : Nat → Nat → Int32} {i n : Int32}  (hfl : l.stackTraces = false) (hR : rp y G td ru fr lv lt et tl hf hp ol PS pf ov md mq mt mv) (hLp : ∀ h, h < 4 → ∀ t, hp h = some t → PS t) : gk_M l yX4_write (Cond.code yX4_write cX4_write 4 (some .int)) 7 110 16 128 y A [.ref (ly_a y 0), .int i, .int n] G (fun v G1 => ∃ h t, h < 4 ∧ i = nI h ∧ hp h = some t ∧ rg_in n 1 1000 ∧ v = some (.int (pf 0 t + n)) ∧ rp y G1 td ru fr lv lt et tl hf hp ol PS (rp_u2 pf 0 t (pf 0 t + n)) ov md mq mt mv) (fun E G1 => (E = "java/lang/IndexOutOfBoundsException" ∧ G1 = G ∧ rg_out i 4) ∨ (E = "java/lang/IllegalArgumentException" ∧ G1 = G ∧ ¬ rg_out i 4 ∧ ¬ rg_in n 1 1000) ∨ (E = "java/lang/IllegalStateException" ∧ G1 = G ∧ rg_in n 1 1000 ∧ ∃ h, h < 4 ∧ i = nI h ∧ hp h = none)) := by
  refine gk_ofX (cc := cX4_write) (maxL := 4) (ret := (some .int)) (own := RX4) (by decide +kernel) rfl rfl (Nat.le_of_ble_eq_true rfl) ?_
  intro p e s m below meth c ls hK hret hlk hex hP hS hl
  have hl : lv_has ls 4 [(0, .ref (ly_a y 0)), (1, .int i), (2, .int n)] := hl
  refine lv_aload_n hK.1.1 hK.1.2.1 dX4_write_0 rfl (lv_at hl 0 rfl) ?_
  refine lv_iload_n hK.1.1 hK.1.2.1 dX4_write_1 rfl (lv_at hl 1 rfl) ?_
  refine gk_callV (n := 1) (As := [.int i]) (rest := []) hK (c_X4_holderOf l hfl hR (i := i)) (gk_gV q_8_16 q_8_17 q_8_18 q_1_2 q_8_19) ⟨rfl, by decide +kernel, by decide +kernel, by decide +kernel⟩ ⟨(Nat.le_of_ble_eq_true rfl), (Nat.le_of_ble_eq_true rfl)⟩ hP hS (gk_recv hK.2.2.1.1 hP hR.1 rfl) rfl hl.1 rfl (Nat.le_of_ble_eq_true rfl) dX4_write_2 ⟨(Nat.le_of_ble_eq_true rfl), (Nat.le_of_ble_eq_true rfl)⟩ (fun E ce q9 G1 H locs hx hP hS h1 h2 h3 => gk_out hex hlk hP hS h1 h2 h3 (Or.inl hx) (Nat.le_of_ble_eq_true rfl) (Nat.le_of_ble_eq_true rfl)) (fun v G1 H locs hw hP hS => ?_)
  obtain ⟨h_1, hh_1, rfl, rfl, hG9⟩ := hw
  rw [hG9] at hP
  refine W.eq (g2 := F0 m 5 ls [.ref (ly_f y 2 h_1)]) rfl ?_
  rcases ep_3 : hp h_1 with _ | t_2
  · refine tr_94 hK hP hR hh_1 dX4_write_5 ?_
    rw [ep_3]
    refine W.eq (g2 := F0 m 8 ls [.null]) rfl ?_
    refine lv_astore_nN (lv' := [(3, .null), (0, .ref (ly_a y 0)), (1, .int (nI h_1)), (2, .int n)]) hK.1.1 hK.1.2.1 dX4_write_8 rfl hl (by decide) rfl (fun ls hl => ?_)
    refine lv_iload_n hK.1.1 hK.1.2.1 dX4_write_9 rfl (lv_at hl 3 rfl) ?_
    refine lv_iconst (v := 1) hK.1.1 hK.1.2.1 dX4_write_10 (by decide) ?_
    refine lv_sipush (v := 1000) hK.1.1 hK.1.2.1 dX4_write_11 (by decide) ?_
    refine gk_callS (n := 3) (As := [.int n, .int 1, .int 1000]) (rest := []) hK (c_X4_requireRange l hfl hR (x := n) (a := 1) (b := 1000)) (gk_gS q_5_18 q_5_19 q_1_2 q_5_20) ⟨by decide +kernel, by decide +kernel, by decide +kernel⟩ ⟨(Nat.le_of_ble_eq_true rfl), (Nat.le_of_ble_eq_true rfl)⟩ hP hS rfl hl.1 rfl (Nat.le_of_ble_eq_true rfl) dX4_write_14 ⟨(Nat.le_of_ble_eq_true rfl), (Nat.le_of_ble_eq_true rfl)⟩ (fun E ce q9 G1 H locs hx hP hS h1 h2 h3 => gk_out hex hlk hP hS h1 h2 h3 (Or.inr (Or.inl ⟨hx.1, hx.2.1, rg_out_no hh_1 (by decide), hx.2.2⟩)) (Nat.le_of_ble_eq_true rfl) (Nat.le_of_ble_eq_true rfl)) (fun v G1 H locs hw hP hS => ?_)
    obtain ⟨rfl, hG9, g_4⟩ := hw
    rw [hG9] at hP
    refine W.eq (g2 := F0 m 17 ls []) rfl ?_
    refine lv_aload_nN hK.1.1 hK.1.2.1 dX4_write_17 rfl (lv_at hl 0 rfl) ?_
    refine lv_ifnonnullN hK.1.1 hK.1.2.1 dX4_write_18 ?_
    exact gk_thr2 hK hfl hK.2.2.1.2.1.1 hP hS hl.1 hex hlk dX4_write_21 dX4_write_24 dX4_write_25 dX4_write_27 dX4_write_30 ⟨(Nat.le_of_ble_eq_true rfl), (Nat.le_of_ble_eq_true rfl), (Nat.le_of_ble_eq_true rfl), (Nat.le_of_ble_eq_true rfl)⟩ ⟨(Nat.le_of_ble_eq_true rfl), (Nat.le_of_ble_eq_true rfl)⟩ (Or.inr (Or.inr ⟨rfl, rfl, g_4, h_1, hh_1, rfl, ep_3⟩))
  · have ht_2 : PS t_2 := hLp h_1 hh_1 t_2 ep_3
    refine tr_94 hK hP hR hh_1 dX4_write_5 ?_
    rw [ep_3]
    refine W.eq (g2 := F0 m 8 ls [.ref t_2]) rfl ?_
    refine lv_astore_n (lv' := [(3, .ref t_2), (0, .ref (ly_a y 0)), (1, .int (nI h_1)), (2, .int n)]) hK.1.1 hK.1.2.1 dX4_write_8 rfl hl (by decide) rfl (fun ls hl => ?_)
    refine lv_iload_n hK.1.1 hK.1.2.1 dX4_write_9 rfl (lv_at hl 3 rfl) ?_
    refine lv_iconst (v := 1) hK.1.1 hK.1.2.1 dX4_write_10 (by decide) ?_
    refine lv_sipush (v := 1000) hK.1.1 hK.1.2.1 dX4_write_11 (by decide) ?_
    refine gk_callS (n := 3) (As := [.int n, .int 1, .int 1000]) (rest := []) hK (c_X4_requireRange l hfl hR (x := n) (a := 1) (b := 1000)) (gk_gS q_5_18 q_5_19 q_1_2 q_5_20) ⟨by decide +kernel, by decide +kernel, by decide +kernel⟩ ⟨(Nat.le_of_ble_eq_true rfl), (Nat.le_of_ble_eq_true rfl)⟩ hP hS rfl hl.1 rfl (Nat.le_of_ble_eq_true rfl) dX4_write_14 ⟨(Nat.le_of_ble_eq_true rfl), (Nat.le_of_ble_eq_true rfl)⟩ (fun E ce q9 G1 H locs hx hP hS h1 h2 h3 => gk_out hex hlk hP hS h1 h2 h3 (Or.inr (Or.inl ⟨hx.1, hx.2.1, rg_out_no hh_1 (by decide), hx.2.2⟩)) (Nat.le_of_ble_eq_true rfl) (Nat.le_of_ble_eq_true rfl)) (fun v G1 H locs hw hP hS => ?_)
    obtain ⟨rfl, hG9, g_5⟩ := hw
    rw [hG9] at hP
    refine W.eq (g2 := F0 m 17 ls []) rfl ?_
    refine lv_aload_n hK.1.1 hK.1.2.1 dX4_write_17 rfl (lv_at hl 0 rfl) ?_
    refine lv_ifnonnull (tgt := 31) hK.1.1 hK.1.2.1 dX4_write_18 (by decide) ?_
    refine lv_aload_n hK.1.1 hK.1.2.1 dX4_write_31 rfl (lv_at hl 0 rfl) ?_
    refine lv_dup hK.1.1 hK.1.2.1 dX4_write_32 rfl ?_
    refine tr_104 hK hP hR ht_2 dX4_write_33 ?_
    refine lv_iload_n hK.1.1 hK.1.2.1 dX4_write_36 rfl (lv_at hl 3 rfl) ?_
    refine lv_iadd hK.1.1 hK.1.2.1 dX4_write_37 ?_
    refine tw_104 hK hP hS hR ht_2 dX4_write_38 (fun H locs G hP hS hR => ?_)
    refine lv_aload_n hK.1.1 hK.1.2.1 dX4_write_41 rfl (lv_at hl 0 rfl) ?_
    refine tr_104 hK hP hR ht_2 dX4_write_42 ?_
    exact vx_ret (gk_iret0 hK.1 hret hlk hP hS (Nat.le_of_ble_eq_true rfl) (Nat.le_of_ble_eq_true rfl) dX4_write_45 ⟨h_1, t_2, hh_1, rfl, ep_3, g_5, by rw [rp_u2s], hR⟩)
set_option maxHeartbeats 4000000 in
set_option maxRecDepth 100000 in
theorem c_X4_advance (l : Launch) {y : ly_T} {A : Nat → Prop} {G : gk_G} {td : Int32} {ru : Nat → Nat → Int32} {fr lv : Nat → Nat} {lt et tl : Nat → Int32} {hf hp : Nat → Option Nat} {ol : Nat → List Nat} {PS : Nat → Prop} {pf : Nat → Nat → Int32} {ov : Int64} {md mq mt : Int32} {mv : Nat → Nat → Int32} {n : Int32}  (hfl : l.stackTraces = false) (hR : rp y G td ru fr lv lt et tl hf hp ol PS pf ov md mq mt mv) : gk_M l yX4_advance (Cond.code yX4_advance cX4_advance 2 (some .int)) 7 110 16 128 y A [.ref (ly_a y 0), .int n] G (fun v G1 => rg_in n 1 100 ∧ td + n ≤ 5000 ∧ v = some (.int (td + n)) ∧ rp y G1 (td + n) ru fr lv lt et tl hf hp ol PS pf ov md mq mt mv) (fun E G1 => (E = "java/lang/IllegalArgumentException" ∧ G1 = G ∧ ¬ rg_in n 1 100) ∨ (E = "java/lang/IllegalStateException" ∧ G1 = G ∧ rg_in n 1 100 ∧ ¬ td + n ≤ 5000)) := by
  refine gk_ofX (cc := cX4_advance) (maxL := 2) (ret := (some .int)) (own := RX4) (by decide +kernel) rfl rfl (Nat.le_of_ble_eq_true rfl) ?_
  intro p e s m below meth c ls hK hret hlk hex hP hS hl
  have hl : lv_has ls 2 [(0, .ref (ly_a y 0)), (1, .int n)] := hl
  refine lv_iload_n hK.1.1 hK.1.2.1 dX4_advance_0 rfl (lv_at hl 1 rfl) ?_
  refine lv_iconst (v := 1) hK.1.1 hK.1.2.1 dX4_advance_1 (by decide) ?_
  refine lv_bipush (v := 100) hK.1.1 hK.1.2.1 dX4_advance_2 (by decide) ?_
  refine gk_callS (n := 3) (As := [.int n, .int 1, .int 100]) (rest := []) hK (c_X4_requireRange l hfl hR (x := n) (a := 1) (b := 100)) (gk_gS q_5_18 q_5_19 q_1_2 q_5_20) ⟨by decide +kernel, by decide +kernel, by decide +kernel⟩ ⟨(Nat.le_of_ble_eq_true rfl), (Nat.le_of_ble_eq_true rfl)⟩ hP hS rfl hl.1 rfl (Nat.le_of_ble_eq_true rfl) dX4_advance_4 ⟨(Nat.le_of_ble_eq_true rfl), (Nat.le_of_ble_eq_true rfl)⟩ (fun E ce q9 G1 H locs hx hP hS h1 h2 h3 => gk_out hex hlk hP hS h1 h2 h3 (Or.inl hx) (Nat.le_of_ble_eq_true rfl) (Nat.le_of_ble_eq_true rfl)) (fun v G1 H locs hw hP hS => ?_)
  obtain ⟨rfl, hG9, g_1⟩ := hw
  rw [hG9] at hP
  refine W.eq (g2 := F0 m 7 ls []) rfl ?_
  refine lv_aload_n hK.1.1 hK.1.2.1 dX4_advance_7 rfl (lv_at hl 0 rfl) ?_
  refine tr_109 hK hP hR dX4_advance_8 ?_
  refine lv_iload_n hK.1.1 hK.1.2.1 dX4_advance_11 rfl (lv_at hl 1 rfl) ?_
  refine lv_iadd hK.1.1 hK.1.2.1 dX4_advance_12 ?_
  refine lv_sipush (v := 5000) hK.1.1 hK.1.2.1 dX4_advance_13 (by decide) ?_
  refine lv_icmp_le (tgt := 29) hK.1.1 hK.1.2.1 dX4_advance_16 (by decide) (fun c16_2 => ?_) (fun c16_2 => ?_)
  · refine lv_aload_n hK.1.1 hK.1.2.1 dX4_advance_29 rfl (lv_at hl 0 rfl) ?_
    refine lv_dup hK.1.1 hK.1.2.1 dX4_advance_30 rfl ?_
    refine tr_109 hK hP hR dX4_advance_31 ?_
    refine lv_iload_n hK.1.1 hK.1.2.1 dX4_advance_34 rfl (lv_at hl 1 rfl) ?_
    refine lv_iadd hK.1.1 hK.1.2.1 dX4_advance_35 ?_
    refine tw_109 hK hP hS hR dX4_advance_36 (fun H locs G hP hS hR => ?_)
    refine lv_aload_n hK.1.1 hK.1.2.1 dX4_advance_39 rfl (lv_at hl 0 rfl) ?_
    refine tr_109 hK hP hR dX4_advance_40 ?_
    exact vx_ret (gk_iret0 hK.1 hret hlk hP hS (Nat.le_of_ble_eq_true rfl) (Nat.le_of_ble_eq_true rfl) dX4_advance_43 ⟨g_1, c16_2, rfl, hR⟩)
  · exact gk_thr2 hK hfl hK.2.2.1.2.1.2.1 hP hS hl.1 hex hlk dX4_advance_19 dX4_advance_22 dX4_advance_23 dX4_advance_25 dX4_advance_28 ⟨(Nat.le_of_ble_eq_true rfl), (Nat.le_of_ble_eq_true rfl), (Nat.le_of_ble_eq_true rfl), (Nat.le_of_ble_eq_true rfl)⟩ ⟨(Nat.le_of_ble_eq_true rfl), (Nat.le_of_ble_eq_true rfl)⟩ (Or.inr ⟨rfl, rfl, g_1, c16_2⟩)
set_option maxHeartbeats 4000000 in
set_option maxRecDepth 100000 in
theorem c_X4_markTurnedToday (l : Launch) {y : ly_T} {A : Nat → Prop} {G : gk_G} {td : Int32} {ru : Nat → Nat → Int32} {fr lv : Nat → Nat} {lt et tl : Nat → Int32} {hf hp : Nat → Option Nat} {ol : Nat → List Nat} {PS : Nat → Prop} {pf : Nat → Nat → Int32} {ov : Int64} {md mq mt : Int32} {mv : Nat → Nat → Int32} {f : Nat}  (hR : rp y G td ru fr lv lt et tl hf hp ol PS pf ov md mq mt mv) (hf5 : f < 5) : gk_M0 l yX4_markTurnedToday (Cond.code yX4_markTurnedToday cX4_markTurnedToday 2 none) 0 0 0 0 y A [.ref (ly_a y 0), .ref (ly_f y 1 f)] G (fun v G1 => v = none ∧ rp y G1 td ru fr lv (va_up lt f td) (va_up et f 1) tl hf hp ol PS pf ov md mq mt mv) := by
  refine gk_of0 (cc := cX4_markTurnedToday) (maxL := 2) (ret := none) (own := RX4) (by decide +kernel) rfl rfl (Nat.le_of_ble_eq_true rfl) ?_
  intro p e s m below meth c ls hK hret hlk _ hP hS hl
  have hl : lv_has ls 2 [(0, .ref (ly_a y 0)), (1, .ref (ly_f y 1 f))] := hl
  refine lv_aload_n hK.1.1 hK.1.2.1 dX4_markTurnedToday_0 rfl (lv_at hl 1 rfl) ?_
  refine lv_aload_n hK.1.1 hK.1.2.1 dX4_markTurnedToday_1 rfl (lv_at hl 0 rfl) ?_
  refine tr_109 hK hP hR dX4_markTurnedToday_2 ?_
  refine tw_130 hK hP hS hR hf5 dX4_markTurnedToday_5 (fun H locs G hP hS hR => ?_)
  refine lv_aload_n hK.1.1 hK.1.2.1 dX4_markTurnedToday_8 rfl (lv_at hl 1 rfl) ?_
  refine lv_iconst (v := 1) hK.1.1 hK.1.2.1 dX4_markTurnedToday_9 (by decide) ?_
  refine tw_198 hK hP hS hR hf5 (by decide) dX4_markTurnedToday_10 (fun H locs G hP hS hR => ?_)
  exact gk_vret0 hK.1 hret hlk hP hS (Nat.le_of_ble_eq_true rfl) (Nat.le_of_ble_eq_true rfl) dX4_markTurnedToday_13 ⟨rfl, hR⟩
set_option maxHeartbeats 4000000 in
set_option maxRecDepth 100000 in
theorem c_X4_lose (l : Launch) {y : ly_T} {A : Nat → Prop} {G : gk_G} {td : Int32} {ru : Nat → Nat → Int32} {fr lv : Nat → Nat} {lt et tl : Nat → Int32} {hf hp : Nat → Option Nat} {ol : Nat → List Nat} {PS : Nat → Prop} {pf : Nat → Nat → Int32} {ov : Int64} {md mq mt : Int32} {mv : Nat → Nat → Int32} {i : Int32}  (hfl : l.stackTraces = false) (hR : rp y G td ru fr lv lt et tl hf hp ol PS pf ov md mq mt mv) : gk_M l yX4_lose (Cond.code yX4_lose cX4_lose 4 (some .int)) 7 110 16 128 y A [.ref (ly_a y 0), .int i] G (fun v G1 => ∃ f, f < 5 ∧ i = nI f ∧ v = some (.int (lt f)) ∧ rp y G1 td ru fr lv (va_up lt f td) (va_up et f 1) tl hf hp ol PS pf ov md mq mt mv) (fun E G1 => E = "java/lang/IndexOutOfBoundsException" ∧ G1 = G ∧ rg_out i 5) := by
  refine gk_ofX (cc := cX4_lose) (maxL := 4) (ret := (some .int)) (own := RX4) (by decide +kernel) rfl rfl (Nat.le_of_ble_eq_true rfl) ?_
  intro p e s m below meth c ls hK hret hlk hex hP hS hl
  have hl : lv_has ls 4 [(0, .ref (ly_a y 0)), (1, .int i)] := hl
  refine lv_aload_n hK.1.1 hK.1.2.1 dX4_lose_0 rfl (lv_at hl 0 rfl) ?_
  refine lv_iload_n hK.1.1 hK.1.2.1 dX4_lose_1 rfl (lv_at hl 1 rfl) ?_
  refine gk_callV (n := 1) (As := [.int i]) (rest := []) hK (c_X4_fileOf l hfl hR (i := i)) (gk_gV q_7_19 q_7_20 q_7_21 q_1_2 q_7_22) ⟨rfl, by decide +kernel, by decide +kernel, by decide +kernel⟩ ⟨(Nat.le_of_ble_eq_true rfl), (Nat.le_of_ble_eq_true rfl)⟩ hP hS (gk_recv hK.2.2.1.1 hP hR.1 rfl) rfl hl.1 rfl (Nat.le_of_ble_eq_true rfl) dX4_lose_2 ⟨(Nat.le_of_ble_eq_true rfl), (Nat.le_of_ble_eq_true rfl)⟩ (fun E ce q9 G1 H locs hx hP hS h1 h2 h3 => gk_out hex hlk hP hS h1 h2 h3 hx (Nat.le_of_ble_eq_true rfl) (Nat.le_of_ble_eq_true rfl)) (fun v G1 H locs hw hP hS => ?_)
  obtain ⟨f_1, hf_1, rfl, rfl, hG9⟩ := hw
  rw [hG9] at hP
  refine W.eq (g2 := F0 m 5 ls [.ref (ly_f y 1 f_1)]) rfl ?_
  refine lv_astore_n (lv' := [(2, .ref (ly_f y 1 f_1)), (0, .ref (ly_a y 0)), (1, .int (nI f_1))]) hK.1.1 hK.1.2.1 dX4_lose_5 rfl hl (by decide) rfl (fun ls hl => ?_)
  refine lv_aload_n hK.1.1 hK.1.2.1 dX4_lose_6 rfl (lv_at hl 0 rfl) ?_
  refine tr_130 hK hP hR hf_1 dX4_lose_7 ?_
  refine lv_istore_n (lv' := [(3, .int (lt f_1)), (2, .ref (ly_f y 1 f_1)), (0, .ref (ly_a y 0)), (1, .int (nI f_1))]) hK.1.1 hK.1.2.1 dX4_lose_10 rfl hl (by decide) rfl (fun ls hl => ?_)
  refine lv_aload_n hK.1.1 hK.1.2.1 dX4_lose_11 rfl (lv_at hl 2 rfl) ?_
  refine lv_aload_n hK.1.1 hK.1.2.1 dX4_lose_12 rfl (lv_at hl 1 rfl) ?_
  refine gk_callV0 (n := 1) (As := [.ref (ly_f y 1 f_1)]) (rest := []) hK (c_X4_markTurnedToday l hR (f := f_1) hf_1) (gk_gV q_14_19 q_14_20 q_14_21 q_1_2 q_14_22) ⟨rfl, by decide +kernel, by decide +kernel, by decide +kernel⟩ ⟨(Nat.le_of_ble_eq_true rfl), (Nat.le_of_ble_eq_true rfl)⟩ hP hS (gk_recv hK.2.2.1.1 hP hR.1 rfl) rfl hl.1 rfl (Nat.le_of_ble_eq_true rfl) dX4_lose_13 ⟨(Nat.le_of_ble_eq_true rfl), (Nat.le_of_ble_eq_true rfl)⟩ (fun v G1 H locs hw hP hS => ?_)
  obtain ⟨rfl, hR⟩ := hw
  refine W.eq (g2 := F0 m 16 ls []) rfl ?_
  refine lv_iload_n hK.1.1 hK.1.2.1 dX4_lose_16 rfl (lv_at hl 0 rfl) ?_
  exact vx_ret (gk_iret0 hK.1 hret hlk hP hS (Nat.le_of_ble_eq_true rfl) (Nat.le_of_ble_eq_true rfl) dX4_lose_17 ⟨f_1, hf_1, rfl, rfl, hR⟩)
set_option maxHeartbeats 4000000 in
set_option maxRecDepth 100000 in
theorem c_X4_day (l : Launch) {y : ly_T} {A : Nat → Prop} {G : gk_G} {td : Int32} {ru : Nat → Nat → Int32} {fr lv : Nat → Nat} {lt et tl : Nat → Int32} {hf hp : Nat → Option Nat} {ol : Nat → List Nat} {PS : Nat → Prop} {pf : Nat → Nat → Int32} {ov : Int64} {md mq mt : Int32} {mv : Nat → Nat → Int32}  (hR : rp y G td ru fr lv lt et tl hf hp ol PS pf ov md mq mt mv) : gk_M0 l yX4_day (Cond.code yX4_day cX4_day 1 (some .int)) 0 0 0 0 y A [.ref (ly_a y 0)] G (fun v G1 => v = some (.int td) ∧ G1 = G) := by
  refine gk_of0 (cc := cX4_day) (maxL := 1) (ret := (some .int)) (own := RX4) (by decide +kernel) rfl rfl (Nat.le_of_ble_eq_true rfl) ?_
  intro p e s m below meth c ls hK hret hlk _ hP hS hl
  have hl : lv_has ls 1 [(0, .ref (ly_a y 0))] := hl
  refine lv_aload_n hK.1.1 hK.1.2.1 dX4_day_0 rfl (lv_at hl 0 rfl) ?_
  refine tr_109 hK hP hR dX4_day_1 ?_
  exact gk_iret0 hK.1 hret hlk hP hS (Nat.le_of_ble_eq_true rfl) (Nat.le_of_ble_eq_true rfl) dX4_day_4 ⟨rfl, rfl⟩
set_option maxHeartbeats 4000000 in
set_option maxRecDepth 100000 in
theorem c_X4_isTooSoon (l : Launch) {y : ly_T} {A : Nat → Prop} {G : gk_G} {td : Int32} {ru : Nat → Nat → Int32} {fr lv : Nat → Nat} {lt et tl : Nat → Int32} {hf hp : Nat → Option Nat} {ol : Nat → List Nat} {PS : Nat → Prop} {pf : Nat → Nat → Int32} {ov : Int64} {md mq mt : Int32} {mv : Nat → Nat → Int32} {f : Nat} {d : Int32}  (hR : rp y G td ru fr lv lt et tl hf hp ol PS pf ov md mq mt mv) (hf5 : f < 5) : gk_M0 l yX4_isTooSoon (Cond.code yX4_isTooSoon cX4_isTooSoon 2 (some .boolean)) 0 0 0 0 y A [.ref (ly_f y 1 f), .int d] G (fun v G1 => v = some (.int (rg_b (t_soon (et f) (lt f) d (ru (fr f) 4)))) ∧ G1 = G) := by
  refine gk_of0 (cc := cX4_isTooSoon) (maxL := 2) (ret := (some .boolean)) (own := RX4) (by decide +kernel) rfl rfl (Nat.le_of_ble_eq_true rfl) ?_
  intro p e s m below meth c ls hK hret hlk _ hP hS hl
  have hl : lv_has ls 2 [(0, .ref (ly_f y 1 f)), (1, .int d)] := hl
  refine lv_aload_n hK.1.1 hK.1.2.1 dX4_isTooSoon_0 rfl (lv_at hl 0 rfl) ?_
  refine tr_198 hK hP hR hf5 dX4_isTooSoon_1 ?_
  refine lv_if_eq (tgt := 27) hK.1.1 hK.1.2.1 dX4_isTooSoon_4 (by decide) (fun c4_1 => ?_) (fun c4_1 => ?_)
  · refine lv_iconst (v := 0) hK.1.1 hK.1.2.1 dX4_isTooSoon_27 (by decide) ?_
    exact gk_zret0 hK.1 hret (by first | decide | exact (rp_nz (by first | assumption | (simp; done))).1) hlk hP hS (Nat.le_of_ble_eq_true rfl) (Nat.le_of_ble_eq_true rfl) dX4_isTooSoon_28 ⟨(by (try simp only [rg_b0, rg_b1, Bool.not_eq_false, Bool.not_eq_true] at c4_1); simp [t_soon, rg_b, c4_1]), rfl⟩
  · refine lv_iload_n hK.1.1 hK.1.2.1 dX4_isTooSoon_7 rfl (lv_at hl 1 rfl) ?_
    refine lv_aload_n hK.1.1 hK.1.2.1 dX4_isTooSoon_8 rfl (lv_at hl 0 rfl) ?_
    refine tr_130 hK hP hR hf5 dX4_isTooSoon_9 ?_
    refine lv_isub hK.1.1 hK.1.2.1 dX4_isTooSoon_12 ?_
    refine lv_aload_n hK.1.1 hK.1.2.1 dX4_isTooSoon_13 rfl (lv_at hl 0 rfl) ?_
    refine tr_75 hK hP hR hf5 dX4_isTooSoon_14 ?_
    refine tr_52 hK hP hR (hR.2.2.2.1 f hf5).1 dX4_isTooSoon_17 ?_
    refine lv_icmp_ge (tgt := 27) hK.1.1 hK.1.2.1 dX4_isTooSoon_20 (by decide) (fun c20_2 => ?_) (fun c20_2 => ?_)
    · refine lv_iconst (v := 0) hK.1.1 hK.1.2.1 dX4_isTooSoon_27 (by decide) ?_
      exact gk_zret0 hK.1 hret (by first | decide | exact (rp_nz (by first | assumption | (simp; done))).1) hlk hP hS (Nat.le_of_ble_eq_true rfl) (Nat.le_of_ble_eq_true rfl) dX4_isTooSoon_28 ⟨(by (try simp only [rg_b0, rg_b1, Bool.not_eq_false, Bool.not_eq_true] at c4_1 c20_2); simp [t_soon, rg_b, c4_1, c20_2]), rfl⟩
    · refine lv_iconst (v := 1) hK.1.1 hK.1.2.1 dX4_isTooSoon_23 (by decide) ?_
      refine lv_goto (tgt := 28) hK.1.1 hK.1.2.1 dX4_isTooSoon_24 (by decide) ?_
      exact gk_zret0 hK.1 hret (by first | decide | exact (rp_nz (by first | assumption | (simp; done))).1) hlk hP hS (Nat.le_of_ble_eq_true rfl) (Nat.le_of_ble_eq_true rfl) dX4_isTooSoon_28 ⟨(by (try simp only [rg_b0, rg_b1, Bool.not_eq_false, Bool.not_eq_true] at c4_1 c20_2); simp [t_soon, rg_b, c4_1, c20_2]), rfl⟩
set_option maxHeartbeats 4000000 in
set_option maxRecDepth 100000 in
theorem c_J9_floorMod_7cf53 (l : Launch) {y : ly_T} {A : Nat → Prop} {G : gk_G} {td : Int32} {ru : Nat → Nat → Int32} {fr lv : Nat → Nat} {lt et tl : Nat → Int32} {hf hp : Nat → Option Nat} {ol : Nat → List Nat} {PS : Nat → Prop} {pf : Nat → Nat → Int32} {ov : Int64} {md mq mt : Int32} {mv : Nat → Nat → Int32} {a b : Int32}  (hR : rp y G td ru fr lv lt et tl hf hp ol PS pf ov md mq mt mv) (hb : ¬ b = 0) : gk_M0 l yJ9_floorMod_7cf53 (Cond.code yJ9_floorMod_7cf53 cJ9_floorMod_7cf53 3 (some .int)) 0 0 0 0 y A [.int a, .int b] G (fun v G1 => v = some (.int (t_fm a b)) ∧ G1 = G) := by
  refine gk_of0 (cc := cJ9_floorMod_7cf53) (maxL := 3) (ret := (some .int)) (own := RJ9) (by decide +kernel) rfl rfl (Nat.le_of_ble_eq_true rfl) ?_
  intro p e s m below meth c ls hK hret hlk _ hP hS hl
  have hl : lv_has ls 3 [(0, .int a), (1, .int b)] := hl
  refine lv_iload_n hK.1.1 hK.1.2.1 dJ9_floorMod_7cf53_0 rfl (lv_at hl 0 rfl) ?_
  refine lv_iload_n hK.1.1 hK.1.2.1 dJ9_floorMod_7cf53_1 rfl (lv_at hl 1 rfl) ?_
  refine lv_irem hK.1.1 hK.1.2.1 dJ9_floorMod_7cf53_2 hb ?_
  refine lv_istore_n (lv' := [(2, .int (a - a / b * b)), (0, .int a), (1, .int b)]) hK.1.1 hK.1.2.1 dJ9_floorMod_7cf53_3 rfl hl (by decide) rfl (fun ls hl => ?_)
  refine lv_iload_n hK.1.1 hK.1.2.1 dJ9_floorMod_7cf53_4 rfl (lv_at hl 1 rfl) ?_
  refine lv_iload_n hK.1.1 hK.1.2.1 dJ9_floorMod_7cf53_5 rfl (lv_at hl 2 rfl) ?_
  refine lv_ixor hK.1.1 hK.1.2.1 dJ9_floorMod_7cf53_6 ?_
  refine lv_if_ge (tgt := 18) hK.1.1 hK.1.2.1 dJ9_floorMod_7cf53_7 (by decide) (fun c7_1 => ?_) (fun c7_1 => ?_)
  · refine lv_iload_n hK.1.1 hK.1.2.1 dJ9_floorMod_7cf53_18 rfl (lv_at hl 0 rfl) ?_
    exact gk_iret0 hK.1 hret hlk hP hS (Nat.le_of_ble_eq_true rfl) (Nat.le_of_ble_eq_true rfl) dJ9_floorMod_7cf53_19 ⟨(by rw [t_fm, if_neg (fun h => absurd h.1 (Int32.not_lt.mpr c7_1))]), rfl⟩
  · refine lv_iload_n hK.1.1 hK.1.2.1 dJ9_floorMod_7cf53_10 rfl (lv_at hl 0 rfl) ?_
    refine lv_if_eq (tgt := 18) hK.1.1 hK.1.2.1 dJ9_floorMod_7cf53_11 (by decide) (fun c11_2 => ?_) (fun c11_2 => ?_)
    · refine lv_iload_n hK.1.1 hK.1.2.1 dJ9_floorMod_7cf53_18 rfl (lv_at hl 0 rfl) ?_
      exact gk_iret0 hK.1 hret hlk hP hS (Nat.le_of_ble_eq_true rfl) (Nat.le_of_ble_eq_true rfl) dJ9_floorMod_7cf53_19 ⟨(by rw [t_fm, if_neg (fun h => h.2 c11_2)]), rfl⟩
    · refine lv_iload_n hK.1.1 hK.1.2.1 dJ9_floorMod_7cf53_14 rfl (lv_at hl 0 rfl) ?_
      refine lv_iload_n hK.1.1 hK.1.2.1 dJ9_floorMod_7cf53_15 rfl (lv_at hl 2 rfl) ?_
      refine lv_iadd hK.1.1 hK.1.2.1 dJ9_floorMod_7cf53_16 ?_
      exact gk_iret0 hK.1 hret hlk hP hS (Nat.le_of_ble_eq_true rfl) (Nat.le_of_ble_eq_true rfl) dJ9_floorMod_7cf53_17 ⟨(by rw [t_fm, if_pos ⟨Int32.not_le.mp c7_1, c11_2⟩]), rfl⟩
set_option maxHeartbeats 4000000 in
set_option maxRecDepth 100000 in
theorem c_X4_hasWeekdayCome (l : Launch) {y : ly_T} {A : Nat → Prop} {G : gk_G} {td : Int32} {ru : Nat → Nat → Int32} {fr lv : Nat → Nat} {lt et tl : Nat → Int32} {hf hp : Nat → Option Nat} {ol : Nat → List Nat} {PS : Nat → Prop} {pf : Nat → Nat → Int32} {ov : Int64} {md mq mt : Int32} {mv : Nat → Nat → Int32} {a b d : Int32}  (hR : rp y G td ru fr lv lt et tl hf hp ol PS pf ov md mq mt mv) : gk_M0 l yX4_hasWeekdayCome (Cond.code yX4_hasWeekdayCome cX4_hasWeekdayCome 4 (some .boolean)) 1 30 0 0 y A [.int a, .int b, .int d] G (fun v G1 => v = some (.int (rg_b (t_come a b d 7))) ∧ G1 = G) := by
  refine gk_of0 (cc := cX4_hasWeekdayCome) (maxL := 4) (ret := (some .boolean)) (own := RX4) (by decide +kernel) rfl rfl (Nat.le_of_ble_eq_true rfl) ?_
  intro p e s m below meth c ls hK hret hlk _ hP hS hl
  have hl : lv_has ls 4 [(0, .int a), (1, .int b), (2, .int d)] := hl
  refine lv_iload_n hK.1.1 hK.1.2.1 dX4_hasWeekdayCome_0 rfl (lv_at hl 1 rfl) ?_
  refine lv_iconst (v := 1) hK.1.1 hK.1.2.1 dX4_hasWeekdayCome_1 (by decide) ?_
  refine lv_iadd hK.1.1 hK.1.2.1 dX4_hasWeekdayCome_2 ?_
  refine lv_istore_n (lv' := [(3, .int (b + 1)), (0, .int a), (1, .int b), (2, .int d)]) hK.1.1 hK.1.2.1 dX4_hasWeekdayCome_3 rfl hl (by decide) rfl (fun ls hl => ?_)
  refine lv_iload_n hK.1.1 hK.1.2.1 dX4_hasWeekdayCome_4 rfl (lv_at hl 1 rfl) ?_
  refine lv_iconst (v := (-1)) hK.1.1 hK.1.2.1 dX4_hasWeekdayCome_5 (by decide) ?_
  refine lv_icmp_eq (tgt := 27) hK.1.1 hK.1.2.1 dX4_hasWeekdayCome_6 (by decide) (fun c6_1 => ?_) (fun c6_1 => ?_)
  · refine lv_iconst (v := 0) hK.1.1 hK.1.2.1 dX4_hasWeekdayCome_27 (by decide) ?_
    exact gk_zret0 hK.1 hret (by first | decide | exact (rp_nz (by first | assumption | (simp; done))).1) hlk hP hS (Nat.le_of_ble_eq_true rfl) (Nat.le_of_ble_eq_true rfl) dX4_hasWeekdayCome_28 ⟨(by rw [show t_come a b d _ = false from decide_eq_false (fun h => h.1 c6_1)]; rfl), rfl⟩
  · refine lv_iload_n hK.1.1 hK.1.2.1 dX4_hasWeekdayCome_9 rfl (lv_at hl 0 rfl) ?_
    refine lv_iload_n hK.1.1 hK.1.2.1 dX4_hasWeekdayCome_10 rfl (lv_at hl 1 rfl) ?_
    refine lv_iload_n hK.1.1 hK.1.2.1 dX4_hasWeekdayCome_11 rfl (lv_at hl 0 rfl) ?_
    refine lv_isub hK.1.1 hK.1.2.1 dX4_hasWeekdayCome_12 ?_
    refine lv_bipush (v := 7) hK.1.1 hK.1.2.1 dX4_hasWeekdayCome_13 (by decide) ?_
    refine gk_callS0 (n := 2) (As := [.int (a - (b + 1)), .int 7]) (rest := [.int (b + 1)]) hK (c_J9_floorMod_7cf53 l hR (a := (a - (b + 1))) (b := 7) (by decide)) (gk_gS q_11_20 q_11_21 q_11_22 q_11_23) ⟨by decide +kernel, by decide +kernel, by decide +kernel⟩ ⟨(Nat.le_of_ble_eq_true rfl), (Nat.le_of_ble_eq_true rfl)⟩ hP hS rfl hl.1 rfl (Nat.le_of_ble_eq_true rfl) dX4_hasWeekdayCome_15 ⟨(Nat.le_of_ble_eq_true rfl), (Nat.le_of_ble_eq_true rfl)⟩ (fun v G1 H locs hw hP hS => ?_)
    obtain ⟨rfl, hG9⟩ := hw
    rw [hG9] at hP
    refine W.eq (g2 := F0 m 18 ls [.int (t_fm (a - (b + 1)) 7), .int (b + 1)]) rfl ?_
    refine lv_iadd hK.1.1 hK.1.2.1 dX4_hasWeekdayCome_18 ?_
    refine lv_iload_n hK.1.1 hK.1.2.1 dX4_hasWeekdayCome_19 rfl (lv_at hl 3 rfl) ?_
    refine lv_icmp_gt (tgt := 27) hK.1.1 hK.1.2.1 dX4_hasWeekdayCome_20 (by decide) (fun c20_2 => ?_) (fun c20_2 => ?_)
    · refine lv_iconst (v := 0) hK.1.1 hK.1.2.1 dX4_hasWeekdayCome_27 (by decide) ?_
      exact gk_zret0 hK.1 hret (by first | decide | exact (rp_nz (by first | assumption | (simp; done))).1) hlk hP hS (Nat.le_of_ble_eq_true rfl) (Nat.le_of_ble_eq_true rfl) dX4_hasWeekdayCome_28 ⟨(by rw [show t_come a b d _ = false from decide_eq_false (fun h => absurd h.2 (Int32.not_le.mpr c20_2))]; rfl), rfl⟩
    · refine lv_iconst (v := 1) hK.1.1 hK.1.2.1 dX4_hasWeekdayCome_23 (by decide) ?_
      refine lv_goto (tgt := 28) hK.1.1 hK.1.2.1 dX4_hasWeekdayCome_24 (by decide) ?_
      exact gk_zret0 hK.1 hret (by first | decide | exact (rp_nz (by first | assumption | (simp; done))).1) hlk hP hS (Nat.le_of_ble_eq_true rfl) (Nat.le_of_ble_eq_true rfl) dX4_hasWeekdayCome_28 ⟨(by rw [show t_come a b d _ = true from decide_eq_true ⟨c6_1, Int32.not_lt.mp c20_2⟩]; rfl), rfl⟩
set_option maxHeartbeats 4000000 in
set_option maxRecDepth 100000 in
theorem c_X4_hasMonthlyCome (l : Launch) {y : ly_T} {A : Nat → Prop} {G : gk_G} {td : Int32} {ru : Nat → Nat → Int32} {fr lv : Nat → Nat} {lt et tl : Nat → Int32} {hf hp : Nat → Option Nat} {ol : Nat → List Nat} {PS : Nat → Prop} {pf : Nat → Nat → Int32} {ov : Int64} {md mq mt : Int32} {mv : Nat → Nat → Int32} {a b d : Int32}  (hR : rp y G td ru fr lv lt et tl hf hp ol PS pf ov md mq mt mv) : gk_M0 l yX4_hasMonthlyCome (Cond.code yX4_hasMonthlyCome cX4_hasMonthlyCome 4 (some .boolean)) 1 30 0 0 y A [.int a, .int b, .int d] G (fun v G1 => v = some (.int (rg_b (t_come a b d 30))) ∧ G1 = G) := by
  refine gk_of0 (cc := cX4_hasMonthlyCome) (maxL := 4) (ret := (some .boolean)) (own := RX4) (by decide +kernel) rfl rfl (Nat.le_of_ble_eq_true rfl) ?_
  intro p e s m below meth c ls hK hret hlk _ hP hS hl
  have hl : lv_has ls 4 [(0, .int a), (1, .int b), (2, .int d)] := hl
  refine lv_iload_n hK.1.1 hK.1.2.1 dX4_hasMonthlyCome_0 rfl (lv_at hl 1 rfl) ?_
  refine lv_iconst (v := 1) hK.1.1 hK.1.2.1 dX4_hasMonthlyCome_1 (by decide) ?_
  refine lv_iadd hK.1.1 hK.1.2.1 dX4_hasMonthlyCome_2 ?_
  refine lv_istore_n (lv' := [(3, .int (b + 1)), (0, .int a), (1, .int b), (2, .int d)]) hK.1.1 hK.1.2.1 dX4_hasMonthlyCome_3 rfl hl (by decide) rfl (fun ls hl => ?_)
  refine lv_iload_n hK.1.1 hK.1.2.1 dX4_hasMonthlyCome_4 rfl (lv_at hl 1 rfl) ?_
  refine lv_iconst (v := (-1)) hK.1.1 hK.1.2.1 dX4_hasMonthlyCome_5 (by decide) ?_
  refine lv_icmp_eq (tgt := 27) hK.1.1 hK.1.2.1 dX4_hasMonthlyCome_6 (by decide) (fun c6_1 => ?_) (fun c6_1 => ?_)
  · refine lv_iconst (v := 0) hK.1.1 hK.1.2.1 dX4_hasMonthlyCome_27 (by decide) ?_
    exact gk_zret0 hK.1 hret (by first | decide | exact (rp_nz (by first | assumption | (simp; done))).1) hlk hP hS (Nat.le_of_ble_eq_true rfl) (Nat.le_of_ble_eq_true rfl) dX4_hasMonthlyCome_28 ⟨(by rw [show t_come a b d _ = false from decide_eq_false (fun h => h.1 c6_1)]; rfl), rfl⟩
  · refine lv_iload_n hK.1.1 hK.1.2.1 dX4_hasMonthlyCome_9 rfl (lv_at hl 0 rfl) ?_
    refine lv_iload_n hK.1.1 hK.1.2.1 dX4_hasMonthlyCome_10 rfl (lv_at hl 1 rfl) ?_
    refine lv_iload_n hK.1.1 hK.1.2.1 dX4_hasMonthlyCome_11 rfl (lv_at hl 0 rfl) ?_
    refine lv_isub hK.1.1 hK.1.2.1 dX4_hasMonthlyCome_12 ?_
    refine lv_bipush (v := 30) hK.1.1 hK.1.2.1 dX4_hasMonthlyCome_13 (by decide) ?_
    refine gk_callS0 (n := 2) (As := [.int (a - (b + 1)), .int 30]) (rest := [.int (b + 1)]) hK (c_J9_floorMod_7cf53 l hR (a := (a - (b + 1))) (b := 30) (by decide)) (gk_gS q_11_20 q_11_21 q_11_22 q_11_23) ⟨by decide +kernel, by decide +kernel, by decide +kernel⟩ ⟨(Nat.le_of_ble_eq_true rfl), (Nat.le_of_ble_eq_true rfl)⟩ hP hS rfl hl.1 rfl (Nat.le_of_ble_eq_true rfl) dX4_hasMonthlyCome_15 ⟨(Nat.le_of_ble_eq_true rfl), (Nat.le_of_ble_eq_true rfl)⟩ (fun v G1 H locs hw hP hS => ?_)
    obtain ⟨rfl, hG9⟩ := hw
    rw [hG9] at hP
    refine W.eq (g2 := F0 m 18 ls [.int (t_fm (a - (b + 1)) 30), .int (b + 1)]) rfl ?_
    refine lv_iadd hK.1.1 hK.1.2.1 dX4_hasMonthlyCome_18 ?_
    refine lv_iload_n hK.1.1 hK.1.2.1 dX4_hasMonthlyCome_19 rfl (lv_at hl 3 rfl) ?_
    refine lv_icmp_gt (tgt := 27) hK.1.1 hK.1.2.1 dX4_hasMonthlyCome_20 (by decide) (fun c20_2 => ?_) (fun c20_2 => ?_)
    · refine lv_iconst (v := 0) hK.1.1 hK.1.2.1 dX4_hasMonthlyCome_27 (by decide) ?_
      exact gk_zret0 hK.1 hret (by first | decide | exact (rp_nz (by first | assumption | (simp; done))).1) hlk hP hS (Nat.le_of_ble_eq_true rfl) (Nat.le_of_ble_eq_true rfl) dX4_hasMonthlyCome_28 ⟨(by rw [show t_come a b d _ = false from decide_eq_false (fun h => absurd h.2 (Int32.not_le.mpr c20_2))]; rfl), rfl⟩
    · refine lv_iconst (v := 1) hK.1.1 hK.1.2.1 dX4_hasMonthlyCome_23 (by decide) ?_
      refine lv_goto (tgt := 28) hK.1.1 hK.1.2.1 dX4_hasMonthlyCome_24 (by decide) ?_
      exact gk_zret0 hK.1 hret (by first | decide | exact (rp_nz (by first | assumption | (simp; done))).1) hlk hP hS (Nat.le_of_ble_eq_true rfl) (Nat.le_of_ble_eq_true rfl) dX4_hasMonthlyCome_28 ⟨(by rw [show t_come a b d _ = true from decide_eq_true ⟨c6_1, Int32.not_lt.mp c20_2⟩]; rfl), rfl⟩
set_option maxHeartbeats 4000000 in
set_option maxRecDepth 100000 in
theorem c_X4_isDueOn (l : Launch) {y : ly_T} {A : Nat → Prop} {G : gk_G} {td : Int32} {ru : Nat → Nat → Int32} {fr lv : Nat → Nat} {lt et tl : Nat → Int32} {hf hp : Nat → Option Nat} {ol : Nat → List Nat} {PS : Nat → Prop} {pf : Nat → Nat → Int32} {ov : Int64} {md mq mt : Int32} {mv : Nat → Nat → Int32} {f : Nat} {d : Int32}  (hR : rp y G td ru fr lv lt et tl hf hp ol PS pf ov md mq mt mv) (hf5 : f < 5) (hLl : ∀ f, f < 5 → PS (lv f)) : gk_M0 l yX4_isDueOn (Cond.code yX4_isDueOn cX4_isDueOn 5 (some .boolean)) 2 60 0 0 y A [.ref (ly_f y 1 f), .int d] G (fun v G1 => v = some (.int (rg_b (t_due (pf 0 (lv f)) (ru (fr f) 1) (ru (fr f) 2) (ru (fr f) 3) (ru (fr f) 4) (et f) (lt f) d))) ∧ G1 = G) := by
  refine gk_of0 (cc := cX4_isDueOn) (maxL := 5) (ret := (some .boolean)) (own := RX4) (by decide +kernel) rfl rfl (Nat.le_of_ble_eq_true rfl) ?_
  intro p e s m below meth c ls hK hret hlk _ hP hS hl
  have hl : lv_has ls 5 [(0, .ref (ly_f y 1 f)), (1, .int d)] := hl
  refine lv_aload_n hK.1.1 hK.1.2.1 dX4_isDueOn_0 rfl (lv_at hl 0 rfl) ?_
  refine tr_75 hK hP hR hf5 dX4_isDueOn_1 ?_
  refine lv_astore_n (lv' := [(2, .ref (ly_f y 0 (fr f))), (0, .ref (ly_f y 1 f)), (1, .int d)]) hK.1.1 hK.1.2.1 dX4_isDueOn_4 rfl hl (by decide) rfl (fun ls hl => ?_)
  refine lv_aload_n hK.1.1 hK.1.2.1 dX4_isDueOn_5 rfl (lv_at hl 1 rfl) ?_
  refine tr_90 hK hP hR hf5 dX4_isDueOn_6 ?_
  refine tr_104 hK hP hR (hLl f hf5) dX4_isDueOn_9 ?_
  refine lv_istore_n (lv' := [(3, .int (pf 0 (lv f))), (2, .ref (ly_f y 0 (fr f))), (0, .ref (ly_f y 1 f)), (1, .int d)]) hK.1.1 hK.1.2.1 dX4_isDueOn_12 rfl hl (by decide) rfl (fun ls hl => ?_)
  refine lv_iload_n hK.1.1 hK.1.2.1 dX4_isDueOn_13 rfl (lv_at hl 0 rfl) ?_
  refine lv_if_eq (tgt := 25) hK.1.1 hK.1.2.1 dX4_isDueOn_14 (by decide) (fun c14_1 => ?_) (fun c14_1 => ?_)
  · refine lv_iconst (v := 0) hK.1.1 hK.1.2.1 dX4_isDueOn_25 (by decide) ?_
    exact gk_zret0 hK.1 hret (by first | decide | exact (rp_nz (by first | assumption | (simp; done))).1) hlk hP hS (Nat.le_of_ble_eq_true rfl) (Nat.le_of_ble_eq_true rfl) dX4_isDueOn_26 ⟨(by (try simp only [rg_b0, rg_b1, Bool.not_eq_false, Bool.not_eq_true] at c14_1); simp [t_due, rg_b, c14_1]), rfl⟩
  · refine lv_aload_n hK.1.1 hK.1.2.1 dX4_isDueOn_17 rfl (lv_at hl 2 rfl) ?_
    refine lv_iload_n hK.1.1 hK.1.2.1 dX4_isDueOn_18 rfl (lv_at hl 3 rfl) ?_
    refine gk_callS0 (n := 2) (As := [.ref (ly_f y 1 f), .int d]) (rest := []) hK (c_X4_isTooSoon l hR (f := f) (d := d) hf5) (gk_gS q_11_13 q_11_14 q_1_2 q_11_15) ⟨by decide +kernel, by decide +kernel, by decide +kernel⟩ ⟨(Nat.le_of_ble_eq_true rfl), (Nat.le_of_ble_eq_true rfl)⟩ hP hS rfl hl.1 rfl (Nat.le_of_ble_eq_true rfl) dX4_isDueOn_19 ⟨(Nat.le_of_ble_eq_true rfl), (Nat.le_of_ble_eq_true rfl)⟩ (fun v G1 H locs hw hP hS => ?_)
    obtain ⟨rfl, hG9⟩ := hw
    rw [hG9] at hP
    refine W.eq (g2 := F0 m 22 ls [.int (rg_b (t_soon (et f) (lt f) d (ru (fr f) 4)))]) rfl ?_
    refine lv_if_eq (tgt := 27) hK.1.1 hK.1.2.1 dX4_isDueOn_22 (by decide) (fun c22_2 => ?_) (fun c22_2 => ?_)
    · refine lv_aload_n hK.1.1 hK.1.2.1 dX4_isDueOn_27 rfl (lv_at hl 1 rfl) ?_
      refine tr_42 hK hP hR (hR.2.2.2.1 f hf5).1 dX4_isDueOn_28 ?_
      refine lv_if_eq (tgt := 46) hK.1.1 hK.1.2.1 dX4_isDueOn_31 (by decide) (fun c31_3 => ?_) (fun c31_3 => ?_)
      · refine lv_iconst (v := 0) hK.1.1 hK.1.2.1 dX4_isDueOn_46 (by decide) ?_
        refine lv_istore (lv' := [(4, .int 0), (3, .int (pf 0 (lv f))), (2, .ref (ly_f y 0 (fr f))), (0, .ref (ly_f y 1 f)), (1, .int d)]) hK.1.1 hK.1.2.1 dX4_isDueOn_47 hl (by decide) rfl (fun ls hl => ?_)
        refine lv_iload hK.1.1 hK.1.2.1 dX4_isDueOn_49 (lv_at hl 0 rfl) ?_
        refine lv_if_ne (tgt := 84) hK.1.1 hK.1.2.1 dX4_isDueOn_51 (by decide) (fun c => absurd c (by decide)) (fun _ => ?_)
        refine lv_aload_n hK.1.1 hK.1.2.1 dX4_isDueOn_54 rfl (lv_at hl 2 rfl) ?_
        refine tr_46 hK hP hR (hR.2.2.2.1 f hf5).1 dX4_isDueOn_55 ?_
        refine lv_aload_n hK.1.1 hK.1.2.1 dX4_isDueOn_58 rfl (lv_at hl 3 rfl) ?_
        refine tr_130 hK hP hR hf5 dX4_isDueOn_59 ?_
        refine lv_iload_n hK.1.1 hK.1.2.1 dX4_isDueOn_62 rfl (lv_at hl 4 rfl) ?_
        refine gk_callS0 (n := 3) (As := [.int (ru (fr f) 2), .int (lt f), .int d]) (rest := []) hK (c_X4_hasWeekdayCome l hR (a := (ru (fr f) 2)) (b := (lt f)) (d := d)) (gk_gS q_11_17 q_11_18 q_1_2 q_11_19) ⟨by decide +kernel, by decide +kernel, by decide +kernel⟩ ⟨(Nat.le_of_ble_eq_true rfl), (Nat.le_of_ble_eq_true rfl)⟩ hP hS rfl hl.1 rfl (Nat.le_of_ble_eq_true rfl) dX4_isDueOn_63 ⟨(Nat.le_of_ble_eq_true rfl), (Nat.le_of_ble_eq_true rfl)⟩ (fun v G1 H locs hw hP hS => ?_)
        obtain ⟨rfl, hG9⟩ := hw
        rw [hG9] at hP
        refine W.eq (g2 := F0 m 66 ls [.int (rg_b (t_come (ru (fr f) 2) (lt f) d 7))]) rfl ?_
        refine lv_if_ne (tgt := 84) hK.1.1 hK.1.2.1 dX4_isDueOn_66 (by decide) (fun c66_4 => ?_) (fun c66_4 => ?_)
        · refine lv_iconst (v := 1) hK.1.1 hK.1.2.1 dX4_isDueOn_84 (by decide) ?_
          refine lv_goto (tgt := 89) hK.1.1 hK.1.2.1 dX4_isDueOn_85 (by decide) ?_
          exact gk_zret0 hK.1 hret (by first | decide | exact (rp_nz (by first | assumption | (simp; done))).1) hlk hP hS (Nat.le_of_ble_eq_true rfl) (Nat.le_of_ble_eq_true rfl) dX4_isDueOn_89 ⟨(by (try simp only [rg_b0, rg_b1, Bool.not_eq_false, Bool.not_eq_true] at c14_1 c22_2 c31_3 c66_4); simp [t_due, rg_b, c14_1, c22_2, c31_3, c66_4]), rfl⟩
        · refine lv_aload_n hK.1.1 hK.1.2.1 dX4_isDueOn_69 rfl (lv_at hl 2 rfl) ?_
          refine tr_49 hK hP hR (hR.2.2.2.1 f hf5).1 dX4_isDueOn_70 ?_
          refine lv_aload_n hK.1.1 hK.1.2.1 dX4_isDueOn_73 rfl (lv_at hl 3 rfl) ?_
          refine tr_130 hK hP hR hf5 dX4_isDueOn_74 ?_
          refine lv_iload_n hK.1.1 hK.1.2.1 dX4_isDueOn_77 rfl (lv_at hl 4 rfl) ?_
          refine gk_callS0 (n := 3) (As := [.int (ru (fr f) 3), .int (lt f), .int d]) (rest := []) hK (c_X4_hasMonthlyCome l hR (a := (ru (fr f) 3)) (b := (lt f)) (d := d)) (gk_gS q_12_0 q_12_1 q_1_2 q_12_2) ⟨by decide +kernel, by decide +kernel, by decide +kernel⟩ ⟨(Nat.le_of_ble_eq_true rfl), (Nat.le_of_ble_eq_true rfl)⟩ hP hS rfl hl.1 rfl (Nat.le_of_ble_eq_true rfl) dX4_isDueOn_78 ⟨(Nat.le_of_ble_eq_true rfl), (Nat.le_of_ble_eq_true rfl)⟩ (fun v G1 H locs hw hP hS => ?_)
          obtain ⟨rfl, hG9⟩ := hw
          rw [hG9] at hP
          refine W.eq (g2 := F0 m 81 ls [.int (rg_b (t_come (ru (fr f) 3) (lt f) d 30))]) rfl ?_
          refine lv_if_eq (tgt := 88) hK.1.1 hK.1.2.1 dX4_isDueOn_81 (by decide) (fun c81_5 => ?_) (fun c81_5 => ?_)
          · refine lv_iconst (v := 0) hK.1.1 hK.1.2.1 dX4_isDueOn_88 (by decide) ?_
            exact gk_zret0 hK.1 hret (by first | decide | exact (rp_nz (by first | assumption | (simp; done))).1) hlk hP hS (Nat.le_of_ble_eq_true rfl) (Nat.le_of_ble_eq_true rfl) dX4_isDueOn_89 ⟨(by (try simp only [rg_b0, rg_b1, Bool.not_eq_false, Bool.not_eq_true] at c14_1 c22_2 c31_3 c66_4 c81_5); simp [t_due, rg_b, c14_1, c22_2, c31_3, c66_4, c81_5]), rfl⟩
          · refine lv_iconst (v := 1) hK.1.1 hK.1.2.1 dX4_isDueOn_84 (by decide) ?_
            refine lv_goto (tgt := 89) hK.1.1 hK.1.2.1 dX4_isDueOn_85 (by decide) ?_
            exact gk_zret0 hK.1 hret (by first | decide | exact (rp_nz (by first | assumption | (simp; done))).1) hlk hP hS (Nat.le_of_ble_eq_true rfl) (Nat.le_of_ble_eq_true rfl) dX4_isDueOn_89 ⟨(by (try simp only [rg_b0, rg_b1, Bool.not_eq_false, Bool.not_eq_true] at c14_1 c22_2 c31_3 c66_4 c81_5); simp [t_due, rg_b, c14_1, c22_2, c31_3, c66_4, c81_5]), rfl⟩
      · refine lv_iload_n hK.1.1 hK.1.2.1 dX4_isDueOn_34 rfl (lv_at hl 0 rfl) ?_
        refine lv_aload_n hK.1.1 hK.1.2.1 dX4_isDueOn_35 rfl (lv_at hl 1 rfl) ?_
        refine tr_42 hK hP hR (hR.2.2.2.1 f hf5).1 dX4_isDueOn_36 ?_
        refine lv_icmp_lt (tgt := 46) hK.1.1 hK.1.2.1 dX4_isDueOn_39 (by decide) (fun c39_6 => ?_) (fun c39_6 => ?_)
        · refine lv_iconst (v := 0) hK.1.1 hK.1.2.1 dX4_isDueOn_46 (by decide) ?_
          refine lv_istore (lv' := [(4, .int 0), (3, .int (pf 0 (lv f))), (2, .ref (ly_f y 0 (fr f))), (0, .ref (ly_f y 1 f)), (1, .int d)]) hK.1.1 hK.1.2.1 dX4_isDueOn_47 hl (by decide) rfl (fun ls hl => ?_)
          refine lv_iload hK.1.1 hK.1.2.1 dX4_isDueOn_49 (lv_at hl 0 rfl) ?_
          refine lv_if_ne (tgt := 84) hK.1.1 hK.1.2.1 dX4_isDueOn_51 (by decide) (fun c => absurd c (by decide)) (fun _ => ?_)
          refine lv_aload_n hK.1.1 hK.1.2.1 dX4_isDueOn_54 rfl (lv_at hl 2 rfl) ?_
          refine tr_46 hK hP hR (hR.2.2.2.1 f hf5).1 dX4_isDueOn_55 ?_
          refine lv_aload_n hK.1.1 hK.1.2.1 dX4_isDueOn_58 rfl (lv_at hl 3 rfl) ?_
          refine tr_130 hK hP hR hf5 dX4_isDueOn_59 ?_
          refine lv_iload_n hK.1.1 hK.1.2.1 dX4_isDueOn_62 rfl (lv_at hl 4 rfl) ?_
          refine gk_callS0 (n := 3) (As := [.int (ru (fr f) 2), .int (lt f), .int d]) (rest := []) hK (c_X4_hasWeekdayCome l hR (a := (ru (fr f) 2)) (b := (lt f)) (d := d)) (gk_gS q_11_17 q_11_18 q_1_2 q_11_19) ⟨by decide +kernel, by decide +kernel, by decide +kernel⟩ ⟨(Nat.le_of_ble_eq_true rfl), (Nat.le_of_ble_eq_true rfl)⟩ hP hS rfl hl.1 rfl (Nat.le_of_ble_eq_true rfl) dX4_isDueOn_63 ⟨(Nat.le_of_ble_eq_true rfl), (Nat.le_of_ble_eq_true rfl)⟩ (fun v G1 H locs hw hP hS => ?_)
          obtain ⟨rfl, hG9⟩ := hw
          rw [hG9] at hP
          refine W.eq (g2 := F0 m 66 ls [.int (rg_b (t_come (ru (fr f) 2) (lt f) d 7))]) rfl ?_
          refine lv_if_ne (tgt := 84) hK.1.1 hK.1.2.1 dX4_isDueOn_66 (by decide) (fun c66_7 => ?_) (fun c66_7 => ?_)
          · refine lv_iconst (v := 1) hK.1.1 hK.1.2.1 dX4_isDueOn_84 (by decide) ?_
            refine lv_goto (tgt := 89) hK.1.1 hK.1.2.1 dX4_isDueOn_85 (by decide) ?_
            exact gk_zret0 hK.1 hret (by first | decide | exact (rp_nz (by first | assumption | (simp; done))).1) hlk hP hS (Nat.le_of_ble_eq_true rfl) (Nat.le_of_ble_eq_true rfl) dX4_isDueOn_89 ⟨(by (try simp only [rg_b0, rg_b1, Bool.not_eq_false, Bool.not_eq_true] at c14_1 c22_2 c31_3 c39_6 c66_7); simp [t_due, rg_b, c14_1, c22_2, c31_3, c39_6, c66_7]), rfl⟩
          · refine lv_aload_n hK.1.1 hK.1.2.1 dX4_isDueOn_69 rfl (lv_at hl 2 rfl) ?_
            refine tr_49 hK hP hR (hR.2.2.2.1 f hf5).1 dX4_isDueOn_70 ?_
            refine lv_aload_n hK.1.1 hK.1.2.1 dX4_isDueOn_73 rfl (lv_at hl 3 rfl) ?_
            refine tr_130 hK hP hR hf5 dX4_isDueOn_74 ?_
            refine lv_iload_n hK.1.1 hK.1.2.1 dX4_isDueOn_77 rfl (lv_at hl 4 rfl) ?_
            refine gk_callS0 (n := 3) (As := [.int (ru (fr f) 3), .int (lt f), .int d]) (rest := []) hK (c_X4_hasMonthlyCome l hR (a := (ru (fr f) 3)) (b := (lt f)) (d := d)) (gk_gS q_12_0 q_12_1 q_1_2 q_12_2) ⟨by decide +kernel, by decide +kernel, by decide +kernel⟩ ⟨(Nat.le_of_ble_eq_true rfl), (Nat.le_of_ble_eq_true rfl)⟩ hP hS rfl hl.1 rfl (Nat.le_of_ble_eq_true rfl) dX4_isDueOn_78 ⟨(Nat.le_of_ble_eq_true rfl), (Nat.le_of_ble_eq_true rfl)⟩ (fun v G1 H locs hw hP hS => ?_)
            obtain ⟨rfl, hG9⟩ := hw
            rw [hG9] at hP
            refine W.eq (g2 := F0 m 81 ls [.int (rg_b (t_come (ru (fr f) 3) (lt f) d 30))]) rfl ?_
            refine lv_if_eq (tgt := 88) hK.1.1 hK.1.2.1 dX4_isDueOn_81 (by decide) (fun c81_8 => ?_) (fun c81_8 => ?_)
            · refine lv_iconst (v := 0) hK.1.1 hK.1.2.1 dX4_isDueOn_88 (by decide) ?_
              exact gk_zret0 hK.1 hret (by first | decide | exact (rp_nz (by first | assumption | (simp; done))).1) hlk hP hS (Nat.le_of_ble_eq_true rfl) (Nat.le_of_ble_eq_true rfl) dX4_isDueOn_89 ⟨(by (try simp only [rg_b0, rg_b1, Bool.not_eq_false, Bool.not_eq_true] at c14_1 c22_2 c31_3 c39_6 c66_7 c81_8); simp [t_due, rg_b, c14_1, c22_2, c31_3, c39_6, c66_7, c81_8]), rfl⟩
            · refine lv_iconst (v := 1) hK.1.1 hK.1.2.1 dX4_isDueOn_84 (by decide) ?_
              refine lv_goto (tgt := 89) hK.1.1 hK.1.2.1 dX4_isDueOn_85 (by decide) ?_
              exact gk_zret0 hK.1 hret (by first | decide | exact (rp_nz (by first | assumption | (simp; done))).1) hlk hP hS (Nat.le_of_ble_eq_true rfl) (Nat.le_of_ble_eq_true rfl) dX4_isDueOn_89 ⟨(by (try simp only [rg_b0, rg_b1, Bool.not_eq_false, Bool.not_eq_true] at c14_1 c22_2 c31_3 c39_6 c66_7 c81_8); simp [t_due, rg_b, c14_1, c22_2, c31_3, c39_6, c66_7, c81_8]), rfl⟩
        · refine lv_iconst (v := 1) hK.1.1 hK.1.2.1 dX4_isDueOn_42 (by decide) ?_
          refine lv_goto (tgt := 47) hK.1.1 hK.1.2.1 dX4_isDueOn_43 (by decide) ?_
          refine lv_istore (lv' := [(4, .int 1), (3, .int (pf 0 (lv f))), (2, .ref (ly_f y 0 (fr f))), (0, .ref (ly_f y 1 f)), (1, .int d)]) hK.1.1 hK.1.2.1 dX4_isDueOn_47 hl (by decide) rfl (fun ls hl => ?_)
          refine lv_iload hK.1.1 hK.1.2.1 dX4_isDueOn_49 (lv_at hl 0 rfl) ?_
          refine lv_if_ne (tgt := 84) hK.1.1 hK.1.2.1 dX4_isDueOn_51 (by decide) (fun _ => ?_) (fun c => absurd c (by decide))
          refine lv_iconst (v := 1) hK.1.1 hK.1.2.1 dX4_isDueOn_84 (by decide) ?_
          refine lv_goto (tgt := 89) hK.1.1 hK.1.2.1 dX4_isDueOn_85 (by decide) ?_
          exact gk_zret0 hK.1 hret (by first | decide | exact (rp_nz (by first | assumption | (simp; done))).1) hlk hP hS (Nat.le_of_ble_eq_true rfl) (Nat.le_of_ble_eq_true rfl) dX4_isDueOn_89 ⟨(by (try simp only [rg_b0, rg_b1, Bool.not_eq_false, Bool.not_eq_true] at c14_1 c22_2 c31_3 c39_6); simp [t_due, rg_b, c14_1, c22_2, c31_3, c39_6]), rfl⟩
    · refine lv_iconst (v := 0) hK.1.1 hK.1.2.1 dX4_isDueOn_25 (by decide) ?_
      exact gk_zret0 hK.1 hret (by first | decide | exact (rp_nz (by first | assumption | (simp; done))).1) hlk hP hS (Nat.le_of_ble_eq_true rfl) (Nat.le_of_ble_eq_true rfl) dX4_isDueOn_26 ⟨(by (try simp only [rg_b0, rg_b1, Bool.not_eq_false, Bool.not_eq_true] at c14_1 c22_2); simp [t_due, rg_b, c14_1, c22_2]), rfl⟩
end
section
/-! the library's list -/
set_option maxHeartbeats 4000000 in
set_option maxRecDepth 100000 in
theorem c_Jx4a65c_size_8abf5 (l : Launch) {y : ly_T} {A : Nat → Prop} {G : gk_G} {mc n : Int32} {la ed : Nat} (hL : G la = some (.inr (0, [.int mc, .ref ed, .int n]))) : gk_M0 l yJx4a65c_size_8abf5 (Cond.code yJx4a65c_size_8abf5 cJx4a65c_size_8abf5 1 (some .int)) 0 0 0 0 y A [.ref la] G (fun v G1 => v = some (.int n) ∧ G1 = G) := by
  refine gk_of0 (cc := cJx4a65c_size_8abf5) (maxL := 1) (ret := (some .int)) (own := RJx4a65c) (by decide +kernel) rfl rfl (Nat.le_of_ble_eq_true rfl) ?_
  intro p e s m below meth c ls hK hret hlk _ hP hS hl
  have hl : lv_has ls 1 [(0, .ref la)] := hl
  refine lv_aload_n hK.1.1 hK.1.2.1 dJx4a65c_size_8abf5_0 rfl (lv_at hl 0 rfl) ?_
  refine gk_get hK.1 hK.2.2.1.1 hP (k := 2) hL rfl inlJx4a65c (by decide) q_12_14 (fun _ h => h) rfl dJx4a65c_size_8abf5_1 ?_
  exact gk_iret0 hK.1 hret hlk hP hS (Nat.le_of_ble_eq_true rfl) (Nat.le_of_ble_eq_true rfl) dJx4a65c_size_8abf5_4 ⟨rfl, rfl⟩
set_option maxHeartbeats 4000000 in
set_option maxRecDepth 100000 in
theorem c_J3_checkIndex_8e157 (l : Launch) {y : ly_T} {A : Nat → Prop} {G : gk_G} {i n : Int32} (h0 : ¬ i < 0) (h1 : i < n) : gk_M0 l yJ3_checkIndex_8e157 (Cond.code yJ3_checkIndex_8e157 cJ3_checkIndex_8e157 3 (some .int)) 0 0 0 0 y A [.int i, .int n, .null] G (fun v G1 => v = some (.int i) ∧ G1 = G) := by
  refine gk_of0 (cc := cJ3_checkIndex_8e157) (maxL := 3) (ret := (some .int)) (own := RJ3) (by decide +kernel) rfl rfl (Nat.le_of_ble_eq_true rfl) ?_
  intro p e s m below meth c ls hK hret hlk _ hP hS hl
  have hl : lv_has ls 3 [(0, .int i), (1, .int n), (2, .null)] := hl
  refine lv_iload_n hK.1.1 hK.1.2.1 dJ3_checkIndex_8e157_0 rfl (lv_at hl 0 rfl) ?_
  refine lv_if_lt (tgt := 9) hK.1.1 hK.1.2.1 dJ3_checkIndex_8e157_1 (by decide) (fun c1_1 => ?_) (fun c1_1 => ?_)
  · exact absurd c1_1 h0
  · refine lv_iload_n hK.1.1 hK.1.2.1 dJ3_checkIndex_8e157_4 rfl (lv_at hl 0 rfl) ?_
    refine lv_iload_n hK.1.1 hK.1.2.1 dJ3_checkIndex_8e157_5 rfl (lv_at hl 1 rfl) ?_
    refine lv_icmp_lt (tgt := 16) hK.1.1 hK.1.2.1 dJ3_checkIndex_8e157_6 (by decide) (fun c6_2 => ?_) (fun c6_2 => ?_)
    · refine lv_iload_n hK.1.1 hK.1.2.1 dJ3_checkIndex_8e157_16 rfl (lv_at hl 0 rfl) ?_
      exact gk_iret0 hK.1 hret hlk hP hS (Nat.le_of_ble_eq_true rfl) (Nat.le_of_ble_eq_true rfl) dJ3_checkIndex_8e157_17 ⟨rfl, rfl⟩
    · exact absurd h1 c6_2
set_option maxHeartbeats 4000000 in
set_option maxRecDepth 100000 in
theorem c_J15_checkIndex_7cf53 (l : Launch) {y : ly_T} {A : Nat → Prop} {G : gk_G} {i n : Int32} (h0 : ¬ i < 0) (h1 : i < n) : gk_M0 l yJ15_checkIndex_7cf53 (Cond.code yJ15_checkIndex_7cf53 cJ15_checkIndex_7cf53 2 (some .int)) 1 30 0 0 y A [.int i, .int n] G (fun v G1 => v = some (.int i) ∧ G1 = G) := by
  refine gk_of0 (cc := cJ15_checkIndex_7cf53) (maxL := 2) (ret := (some .int)) (own := RJ15) (by decide +kernel) rfl rfl (Nat.le_of_ble_eq_true rfl) ?_
  intro p e s m below meth c ls hK hret hlk _ hP hS hl
  have hl : lv_has ls 2 [(0, .int i), (1, .int n)] := hl
  refine lv_iload_n hK.1.1 hK.1.2.1 dJ15_checkIndex_7cf53_0 rfl (lv_at hl 0 rfl) ?_
  refine lv_iload_n hK.1.1 hK.1.2.1 dJ15_checkIndex_7cf53_1 rfl (lv_at hl 1 rfl) ?_
  refine lv_null hK.1.1 hK.1.2.1 dJ15_checkIndex_7cf53_2 ?_
  refine gk_callS0 (n := 3) (As := [.int i, .int n, .null]) (rest := []) hK (c_J3_checkIndex_8e157 l h0 h1) (gk_gS q_15_13 q_15_14 q_15_15 q_15_16) ⟨by decide +kernel, by decide +kernel, by decide +kernel⟩ ⟨(Nat.le_of_ble_eq_true rfl), (Nat.le_of_ble_eq_true rfl)⟩ hP hS rfl hl.1 rfl (Nat.le_of_ble_eq_true rfl) dJ15_checkIndex_7cf53_3 ⟨(Nat.le_of_ble_eq_true rfl), (Nat.le_of_ble_eq_true rfl)⟩ (fun v G1 H locs hw hP hS => ?_)
  obtain ⟨rfl, hG9⟩ := hw
  rw [hG9] at hP
  refine W.eq (g2 := F0 m 6 ls [.int i]) rfl ?_
  exact gk_iret0 hK.1 hret hlk hP hS (Nat.le_of_ble_eq_true rfl) (Nat.le_of_ble_eq_true rfl) dJ15_checkIndex_7cf53_6 ⟨rfl, rfl⟩
set_option maxHeartbeats 4000000 in
set_option maxRecDepth 100000 in
theorem c_Jx4a65c_elementData_915e3 (l : Launch) {y : ly_T} {A : Nat → Prop} {G : gk_G} {mc n : Int32} {la ed : Nat} (hL : G la = some (.inr (0, [.int mc, .ref ed, .int n]))) {cap k : Nat} {g : Nat → Option Nat} (hE : G ed = some (rp_r (ly_k y 6) cap g)) (hk : k < cap) (hcap : cap ≤ 1500) : gk_M0 l yJx4a65c_elementData_915e3 (Cond.code yJx4a65c_elementData_915e3 cJx4a65c_elementData_915e3 2 (some (.object "java/lang/Object"))) 0 0 0 0 y A [.ref la, .int (nI k)] G (fun v G1 => v = some (va_rf (g k)) ∧ G1 = G) := by
  refine gk_of0 (cc := cJx4a65c_elementData_915e3) (maxL := 2) (ret := (some (.object "java/lang/Object"))) (own := RJx4a65c) (by decide +kernel) rfl rfl (Nat.le_of_ble_eq_true rfl) ?_
  intro p e s m below meth c ls hK hret hlk _ hP hS hl
  have hl : lv_has ls 2 [(0, .ref la), (1, .int (nI k))] := hl
  refine lv_aload_n hK.1.1 hK.1.2.1 dJx4a65c_elementData_915e3_0 rfl (lv_at hl 0 rfl) ?_
  refine gk_get hK.1 hK.2.2.1.1 hP (k := 1) hL rfl inlJx4a65c (by decide) q_3_3 (fun _ h => h) rfl dJx4a65c_elementData_915e3_1 ?_
  refine lv_iload_n hK.1.1 hK.1.2.1 dJx4a65c_elementData_915e3_4 rfl (lv_at hl 1 rfl) ?_
  refine gk_aald hK.1 hK.2.2.1.1 hP 6 (C := "java/lang/Object") hE rfl (vp_in_nI hk (by omega)) dJx4a65c_elementData_915e3_5 ?_
  rw [nI_clamp (by omega)]
  exact gk_aret0 hK.1 hret (by first | exact Or.inl ⟨_, rfl⟩ | exact Or.inr ⟨_, rfl⟩) (by first | exact Or.inr ⟨_, rfl⟩ | exact Or.inl rfl | exact va_rf_or _) hlk hP hS (Nat.le_of_ble_eq_true rfl) (Nat.le_of_ble_eq_true rfl) dJx4a65c_elementData_915e3_6 ⟨rfl, rfl⟩
set_option maxHeartbeats 4000000 in
set_option maxRecDepth 100000 in
theorem c_Jx4a65c_get_915e3 (l : Launch) {y : ly_T} {A : Nat → Prop} {G : gk_G} {mc : Int32} {len : Nat} {la ed : Nat} (hL : G la = some (.inr (0, [.int mc, .ref ed, .int (nI len)]))) {cap k : Nat} {g : Nat → Option Nat} (hE : G ed = some (rp_r (ly_k y 6) cap g)) (hcap : cap ≤ 1500) (h0 : k < len) (hlen : len ≤ cap) : gk_M0 l yJx4a65c_get_915e3 (Cond.code yJx4a65c_get_915e3 cJx4a65c_get_915e3 2 (some (.object "java/lang/Object"))) 2 60 0 0 y A [.ref la, .int (nI k)] G (fun v G1 => v = some (va_rf (g k)) ∧ G1 = G) := by
  refine gk_of0 (cc := cJx4a65c_get_915e3) (maxL := 2) (ret := (some (.object "java/lang/Object"))) (own := RJx4a65c) (by decide +kernel) rfl rfl (Nat.le_of_ble_eq_true rfl) ?_
  intro p e s m below meth c ls hK hret hlk _ hP hS hl
  have hl : lv_has ls 2 [(0, .ref la), (1, .int (nI k))] := hl
  have hk : k < cap := Nat.lt_of_lt_of_le h0 hlen
  refine lv_iload_n hK.1.1 hK.1.2.1 dJx4a65c_get_915e3_0 rfl (lv_at hl 1 rfl) ?_
  refine lv_aload_n hK.1.1 hK.1.2.1 dJx4a65c_get_915e3_1 rfl (lv_at hl 0 rfl) ?_
  refine gk_get hK.1 hK.2.2.1.1 hP (k := 2) hL rfl inlJx4a65c (by decide) q_12_14 (fun _ h => h) rfl dJx4a65c_get_915e3_2 ?_
  refine gk_callS0 (n := 2) (As := [.int (nI k), .int (nI len)]) (rest := []) hK (c_J15_checkIndex_7cf53 l (nI_pos (by omega)) (nI_lt h0 (by omega))) (gk_gS q_15_9 q_15_10 q_15_11 q_15_12) ⟨by decide +kernel, by decide +kernel, by decide +kernel⟩ ⟨(Nat.le_of_ble_eq_true rfl), (Nat.le_of_ble_eq_true rfl)⟩ hP hS rfl hl.1 rfl (Nat.le_of_ble_eq_true rfl) dJx4a65c_get_915e3_5 ⟨(Nat.le_of_ble_eq_true rfl), (Nat.le_of_ble_eq_true rfl)⟩ (fun v G1 H locs hw hP hS => ?_)
  obtain ⟨rfl, hG9⟩ := hw
  rw [hG9] at hP
  refine W.eq (g2 := F0 m 8 ls [.int (nI k)]) rfl ?_
  refine lv_pop hK.1.1 hK.1.2.1 dJx4a65c_get_915e3_8 rfl ?_
  refine lv_aload_n hK.1.1 hK.1.2.1 dJx4a65c_get_915e3_9 rfl (lv_at hl 0 rfl) ?_
  refine lv_iload_n hK.1.1 hK.1.2.1 dJx4a65c_get_915e3_10 rfl (lv_at hl 1 rfl) ?_
  refine gk_callV0 (n := 1) (As := [.int (nI k)]) (rest := []) hK (c_Jx4a65c_elementData_915e3 l hL hE hk hcap) (gk_gV q_15_17 q_15_18 q_15_19 q_2_15 q_15_20) ⟨rfl, by decide +kernel, by decide +kernel, by decide +kernel⟩ ⟨(Nat.le_of_ble_eq_true rfl), (Nat.le_of_ble_eq_true rfl)⟩ hP hS (gk_recv hK.2.2.1.1 hP hL rfl) rfl hl.1 rfl (Nat.le_of_ble_eq_true rfl) dJx4a65c_get_915e3_11 ⟨(Nat.le_of_ble_eq_true rfl), (Nat.le_of_ble_eq_true rfl)⟩ (fun v G1 H locs hw hP hS => ?_)
  obtain ⟨rfl, hG9⟩ := hw
  rw [hG9] at hP
  refine W.eq (g2 := F0 m 14 ls [va_rf (g k)]) rfl ?_
  exact gk_aret0 hK.1 hret (by first | exact Or.inl ⟨_, rfl⟩ | exact Or.inr ⟨_, rfl⟩) (by first | exact Or.inr ⟨_, rfl⟩ | exact Or.inl rfl | exact va_rf_or _) hlk hP hS (Nat.le_of_ble_eq_true rfl) (Nat.le_of_ble_eq_true rfl) dJx4a65c_get_915e3_14 ⟨rfl, rfl⟩
end
section
/-! the library's list: growing -/
set_option maxHeartbeats 4000000 in
set_option maxRecDepth 100000 in
theorem c_J8_newLength_cabcc (l : Launch) {y : ly_T} {A : Nat → Prop} {G : gk_G} {cap a b : Nat} (h : cap + max a b < 1000000) (h0 : 0 < cap + max a b) : gk_M0 l yJ8_newLength_cabcc (Cond.code yJ8_newLength_cabcc cJ8_newLength_cabcc 4 (some .int)) 1 30 0 0 y A [.int (nI cap), .int (nI a), .int (nI b)] G (fun v G1 => v = some (.int (nI (cap + max a b))) ∧ G1 = G) := by
  refine gk_of0 (cc := cJ8_newLength_cabcc) (maxL := 4) (ret := (some .int)) (own := RJ8) (by decide +kernel) rfl rfl (Nat.le_of_ble_eq_true rfl) ?_
  intro p e s m below meth c ls hK hret hlk _ hP hS hl
  have hl : lv_has ls 4 [(0, .int (nI cap)), (1, .int (nI a)), (2, .int (nI b))] := hl
  refine lv_iload_n hK.1.1 hK.1.2.1 dJ8_newLength_cabcc_0 rfl (lv_at hl 0 rfl) ?_
  refine lv_iload_n hK.1.1 hK.1.2.1 dJ8_newLength_cabcc_1 rfl (lv_at hl 1 rfl) ?_
  refine lv_iload_n hK.1.1 hK.1.2.1 dJ8_newLength_cabcc_2 rfl (lv_at hl 2 rfl) ?_
  refine va_mmax hK.1.1 hK.1.2.1 (hK.2.1.trans hl.1.symm) hK.1.2.2.1 (hK.1.2.2.2 _ q_13_18) (hK.1.2.2.2 _ q_13_10) (hK.1.2.2.2 _ q_13_11) (hK.1.2.2.2 _ q_13_12) (Nat.le_of_ble_eq_true rfl) (Nat.le_of_ble_eq_true rfl) (Nat.le_of_ble_eq_true rfl) (Nat.le_of_ble_eq_true rfl) dJ8_newLength_cabcc_3 ?_
  rw [gl_mm a b (by omega) (by omega)]
  refine lv_iadd hK.1.1 hK.1.2.1 dJ8_newLength_cabcc_6 ?_
  rw [nI_add]
  refine lv_istore_n (lv' := [(3, .int (nI (cap + max a b))), (0, .int (nI cap)), (1, .int (nI a)), (2, .int (nI b))]) hK.1.1 hK.1.2.1 dJ8_newLength_cabcc_7 rfl hl (by decide) rfl (fun ls hl => ?_)
  refine lv_iconst (v := 0) hK.1.1 hK.1.2.1 dJ8_newLength_cabcc_8 (by decide) ?_
  refine lv_iload_n hK.1.1 hK.1.2.1 dJ8_newLength_cabcc_9 rfl (lv_at hl 0 rfl) ?_
  refine lv_icmp_ge (tgt := 21) hK.1.1 hK.1.2.1 dJ8_newLength_cabcc_10 (by decide) (fun c10_1 => ?_) (fun c10_1 => ?_)
  · exact absurd c10_1 (nI_nle h0 (by omega))
  · refine lv_iload_n hK.1.1 hK.1.2.1 dJ8_newLength_cabcc_13 rfl (lv_at hl 0 rfl) ?_
    refine lv_ldc (v := 2147483639) hK.1.1 hK.1.2.1 hK.1.2.2.1 (hK.1.2.2.2 _ q_13_19) dJ8_newLength_cabcc_14 ?_
    refine lv_icmp_gt (tgt := 21) hK.1.1 hK.1.2.1 dJ8_newLength_cabcc_16 (by decide) (fun c16_2 => ?_) (fun c16_2 => ?_)
    · exact absurd c16_2 (nI_nlt (a := 2147483639) (b := cap + max a b) (by omega) (by decide))
    · refine lv_iload_n hK.1.1 hK.1.2.1 dJ8_newLength_cabcc_19 rfl (lv_at hl 0 rfl) ?_
      exact gk_iret0 hK.1 hret hlk hP hS (Nat.le_of_ble_eq_true rfl) (Nat.le_of_ble_eq_true rfl) dJ8_newLength_cabcc_20 ⟨rfl, rfl⟩
set_option maxHeartbeats 4000000 in
set_option maxRecDepth 100000 in
theorem c_J7_copyOf_6403c (l : Launch) {y : ly_T} {A : Nat → Prop} {G : gk_G} {ed cap cap2 : Nat} {g : Nat → Option Nat} (hE : G ed = some (rp_r (ly_k y 6) cap g)) (hle : cap ≤ cap2) (h2 : cap2 ≤ 1500) (hel : ∀ i, i < cap → ∀ t, g i = some t → gl_pt G t) : gk_M0 l yJ7_copyOf_6403c (Cond.code yJ7_copyOf_6403c cJ7_copyOf_6403c 4 (some (.array (.object "java/lang/Object")))) 1 60 1 1500 y A [.ref ed, .int (nI cap2), .ref (ly_a y 7)] G (fun v G1 => ∃ q g2, G q = none ∧ v = some (.ref q) ∧ G1 = gk_up G q (rp_r (ly_k y 6) cap2 g2) ∧ ∀ k, k < cap → g2 k = g k) := by
  refine gk_of0 (cc := cJ7_copyOf_6403c) (maxL := 4) (ret := (some (.array (.object "java/lang/Object")))) (own := RJ7) (by decide +kernel) rfl rfl (Nat.le_of_ble_eq_true rfl) ?_
  intro p e s m below meth c ls hK hret hlk _ hP hS hl
  have hl : lv_has ls 4 [(0, .ref ed), (1, .int (nI cap2)), (2, .ref (ly_a y 7))] := hl
  refine lv_aload_n hK.1.1 hK.1.2.1 dJ7_copyOf_6403c_0 rfl (lv_at hl 2 rfl) ?_
  refine va_ldcM hK.1.1 hK.1.2.1 hK.1.2.2.1 (hK.1.2.2.2 _ q_14_10) hK.2.2.1.2.2.1.2.1.1 dJ7_copyOf_6403c_1 ?_
  refine lv_acmp_ne (rx := some (ly_a y 7)) (ry := some (ly_a y 7)) (tgt := 13) hK.1.1 hK.1.2.1 dJ7_copyOf_6403c_3 (by decide) (fun c => absurd rfl c) (fun _ => ?_)
  refine lv_iload_n hK.1.1 hK.1.2.1 dJ7_copyOf_6403c_6 rfl (lv_at hl 1 rfl) ?_
  refine gk_newq hK.1 hK.2.2.1.1 hP hS hK.2.2.2 q_14_11 hK.2.2.1.2.2.1.1.1 6 rfl (nI_pos (by omega)) (nI_clamp (by omega)) (by omega) (Nat.le_of_ble_eq_true rfl) (by show 0 + cap2 ≤ 1500; omega) dJ7_copyOf_6403c_7 (fun q9 H hn hP hS => ?_)
  refine W.widen (k := 1) (n := 1500) (by omega) (by omega) ?_
  obtain ⟨G_1, hG_1⟩ : ∃ z, z = gk_up G q9 (rp_r (ly_k y 6) cap2 (fun _ => none)) := ⟨_, rfl⟩
  have hP : gk_P (ly_D y) A G_1 H := by rw [hG_1]; exact hP
  have f_2 : G_1 q9 = some (rp_r (ly_k y 6) cap2 (fun _ => none)) := by rw [hG_1]; exact gk_us _ _ _
  have k_3 : G_1 ed = some (rp_r (ly_k y 6) cap g) := by rw [hG_1]; exact gk_keepN hn hE
  refine lv_goto (tgt := 24) hK.1.1 hK.1.2.1 dJ7_copyOf_6403c_10 (by decide) ?_
  refine lv_astore_n (lv' := [(3, .ref q9), (0, .ref ed), (1, .int (nI cap2)), (2, .ref (ly_a y 7))]) hK.1.1 hK.1.2.1 dJ7_copyOf_6403c_24 rfl hl (by decide) rfl (fun ls hl => ?_)
  refine lv_aload_n hK.1.1 hK.1.2.1 dJ7_copyOf_6403c_25 rfl (lv_at hl 1 rfl) ?_
  refine lv_iconst (v := 0) hK.1.1 hK.1.2.1 dJ7_copyOf_6403c_26 (by decide) ?_
  refine lv_aload_n hK.1.1 hK.1.2.1 dJ7_copyOf_6403c_27 rfl (lv_at hl 0 rfl) ?_
  refine lv_iconst (v := 0) hK.1.1 hK.1.2.1 dJ7_copyOf_6403c_28 (by decide) ?_
  refine lv_aload_n hK.1.1 hK.1.2.1 dJ7_copyOf_6403c_29 rfl (lv_at hl 1 rfl) ?_
  refine gk_alen hK.1 hK.2.2.1.1 hP 6 k_3 rfl dJ7_copyOf_6403c_30 ?_
  refine lv_iload_n hK.1.1 hK.1.2.1 dJ7_copyOf_6403c_31 rfl (lv_at hl 2 rfl) ?_
  refine va_mmin hK.1.1 hK.1.2.1 (hK.2.1.trans hl.1.symm) hK.1.2.2.1 (hK.1.2.2.2 _ q_14_12) (hK.1.2.2.2 _ q_14_13) (hK.1.2.2.2 _ q_13_11) (hK.1.2.2.2 _ q_14_14) (Nat.le_of_ble_eq_true rfl) (Nat.le_of_ble_eq_true rfl) (Nat.le_of_ble_eq_true rfl) (Nat.le_of_ble_eq_true rfl) dJ7_copyOf_6403c_32 ?_
  rw [gl_mn cap cap2 (by omega) (by omega)]
  rw [show min cap cap2 = cap from Nat.min_eq_left hle]
  refine gk_copy hK.1 (hK.2.1.trans hl.1.symm) q_14_15 q_14_16 q_14_17 q_14_18 hK.2.2.1.1 hP hS 6 k_3 f_2 rfl (by decide) (by decide) (nI_pos (by omega)) (by rw [show (0 : Int32).toNatClampNeg = 0 from rfl, nI_clamp (by omega)]; omega) (by rw [show (0 : Int32).toNatClampNeg = 0 from rfl, nI_clamp (by omega)]; omega) (fun i hi y1 hy1 => ?_) (Nat.le_of_ble_eq_true rfl) (by first | decide | decide +kernel) dJ7_copyOf_6403c_35 (fun H locs hP hS => ?_)
  · rw [show (0 : Int32).toNatClampNeg = 0 from rfl, Nat.zero_add] at hy1
    rw [nI_clamp (by omega)] at hi
    obtain ⟨vs, hvs⟩ := hel i hi y1 hy1
    exact ⟨3, _, vs, by rw [hG_1]; exact gk_keepN hn hvs, rfl, gl_asg hK.2.2.1⟩
  rw [hG_1, gk_uu, show (0 : Int32).toNatClampNeg = 0 from rfl, nI_clamp (by omega)] at hP
  refine lv_aload_n hK.1.1 hK.1.2.1 dJ7_copyOf_6403c_38 rfl (lv_at hl 0 rfl) ?_
  exact gk_aret0 hK.1 hret (by first | exact Or.inl ⟨_, rfl⟩ | exact Or.inr ⟨_, rfl⟩) (by first | exact Or.inr ⟨_, rfl⟩ | exact Or.inl rfl | exact va_rf_or _) hlk hP hS (Nat.le_of_ble_eq_true rfl) (Nat.le_of_ble_eq_true rfl) dJ7_copyOf_6403c_39 ⟨q9, _, hn, rfl, rfl, fun k hk => by rw [pk_cpy_in (Nat.zero_le _) (by omega)]; congr 1; omega⟩
set_option maxHeartbeats 4000000 in
set_option maxRecDepth 100000 in
theorem c_J7_copyOf_1904c (l : Launch) {y : ly_T} {A : Nat → Prop} {G : gk_G} {ed cap cap2 : Nat} {g : Nat → Option Nat} (hE : G ed = some (rp_r (ly_k y 6) cap g)) (hle : cap ≤ cap2) (h2 : cap2 ≤ 1500) (hel : ∀ i, i < cap → ∀ t, g i = some t → gl_pt G t) : gk_M0 l yJ7_copyOf_1904c (Cond.code yJ7_copyOf_1904c cJ7_copyOf_1904c 2 (some (.array (.object "java/lang/Object")))) 2 90 1 1500 y A [.ref ed, .int (nI cap2)] G (fun v G1 => ∃ q g2, G q = none ∧ v = some (.ref q) ∧ G1 = gk_up G q (rp_r (ly_k y 6) cap2 g2) ∧ ∀ k, k < cap → g2 k = g k) := by
  refine gk_of0 (cc := cJ7_copyOf_1904c) (maxL := 2) (ret := (some (.array (.object "java/lang/Object")))) (own := RJ7) (by decide +kernel) rfl rfl (Nat.le_of_ble_eq_true rfl) ?_
  intro p e s m below meth c ls hK hret hlk _ hP hS hl
  have hl : lv_has ls 2 [(0, .ref ed), (1, .int (nI cap2))] := hl
  refine lv_aload_n hK.1.1 hK.1.2.1 dJ7_copyOf_1904c_0 rfl (lv_at hl 0 rfl) ?_
  refine lv_iload_n hK.1.1 hK.1.2.1 dJ7_copyOf_1904c_1 rfl (lv_at hl 1 rfl) ?_
  refine lv_aload_n hK.1.1 hK.1.2.1 dJ7_copyOf_1904c_2 rfl (lv_at hl 0 rfl) ?_
  refine va_getC (C := "[Ljava/lang/Object;") hK.1.1 hK.1.2.1 (hK.2.1.trans hl.1.symm) hK.1.2.2.1 (hK.1.2.2.2 _ q_14_3) (va_Dc.use hK.2.2.1.2.2.1.2.1.2) (hK.1.2.2.2 _ q_14_4) (hK.1.2.2.2 _ q_14_5) (hK.1.2.2.2 _ q_14_6) hK.2.2.1.2.2.1.2.1.1 ⟨_, (hP ed _ hE).2, rfl, va_nmO (hK.2.2.1.1.2 6 _ rfl).2 (by decide +kernel)⟩ (Nat.le_of_ble_eq_true rfl) (Nat.le_of_ble_eq_true rfl) dJ7_copyOf_1904c_3 ?_
  refine gk_callS0 (n := 3) (As := [.ref ed, .int (nI cap2), .ref (ly_a y 7)]) (rest := []) hK (c_J7_copyOf_6403c l hE hle h2 hel) (gk_gS q_14_7 q_14_8 q_14_1 q_14_9) ⟨by decide +kernel, by decide +kernel, by decide +kernel⟩ ⟨(Nat.le_of_ble_eq_true rfl), (Nat.le_of_ble_eq_true rfl)⟩ hP hS rfl hl.1 rfl (Nat.le_of_ble_eq_true rfl) dJ7_copyOf_1904c_6 ⟨(Nat.le_of_ble_eq_true rfl), (Nat.le_of_ble_eq_true rfl)⟩ (fun v G1 H locs hw hP hS => ?_)
  obtain ⟨q9, g2, hn, rfl, hG9, hg2⟩ := hw
  rw [hG9] at hP
  refine W.eq (g2 := F0 m 9 ls [.ref q9]) rfl ?_
  exact gk_aret0 hK.1 hret (by first | exact Or.inl ⟨_, rfl⟩ | exact Or.inr ⟨_, rfl⟩) (by first | exact Or.inr ⟨_, rfl⟩ | exact Or.inl rfl | exact va_rf_or _) hlk hP hS (Nat.le_of_ble_eq_true rfl) (Nat.le_of_ble_eq_true rfl) dJ7_copyOf_1904c_9 ⟨q9, g2, hn, rfl, rfl, hg2⟩
end
section
/-! the library's list: add and remove -/
set_option maxHeartbeats 4000000 in
set_option maxRecDepth 100000 in
theorem c_Jx4a65c_grow_92f84 (l : Launch) {y : ly_T} {A : Nat → Prop} {G : gk_G} {mc : Int32} {la ed n : Nat} {g : Nat → Option Nat} (hL : G la = some (.inr (0, [.int mc, .ref ed, .int (nI n)]))) (hF : (n = 0 ∧ ed = ly_a y 6) ∨ (G ed = some (rp_r (ly_k y 6) n g) ∧ 0 < n)) (hn9 : n ≤ 999) (hel : ∀ i, i < n → ∀ t, g i = some t → gl_pt G t) : gk_M0 l yJx4a65c_grow_92f84 (Cond.code yJx4a65c_grow_92f84 cJx4a65c_grow_92f84 4 (some (.array (.object "java/lang/Object")))) 3 120 1 1500 y A [.ref la, .int (nI (n + 1))] G (fun v G1 => ∃ q cap2 g2, G q = none ∧ v = some (.ref q) ∧ G1 = gk_up (gk_up G q (rp_r (ly_k y 6) cap2 g2)) la (.inr (0, [.int mc, .ref q, .int (nI n)])) ∧ n < cap2 ∧ cap2 ≤ 1500 ∧ ∀ k, k < n → g2 k = g k) := by
  refine gk_of0 (cc := cJx4a65c_grow_92f84) (maxL := 4) (ret := (some (.array (.object "java/lang/Object")))) (own := RJx4a65c) (by decide +kernel) rfl rfl (Nat.le_of_ble_eq_true rfl) ?_
  intro p e s m below meth c ls hK hret hlk _ hP hS hl
  have hl : lv_has ls 4 [(0, .ref la), (1, .int (nI (n + 1)))] := hl
  rcases hF with ⟨rfl, rfl⟩ | ⟨hE, h0⟩
  · refine lv_aload_n hK.1.1 hK.1.2.1 dJx4a65c_grow_92f84_0 rfl (lv_at hl 0 rfl) ?_
    refine gk_get hK.1 hK.2.2.1.1 hP (k := 1) hL rfl inlJx4a65c (by decide) q_3_3 (fun _ h => h) rfl dJx4a65c_grow_92f84_1 ?_
    refine va_tlen (v := 0) hK.1.1 hK.1.2.1 hK.2.2.1.2.2.2.2.2.2 hS rfl dJx4a65c_grow_92f84_4 ?_
    refine lv_istore_n (lv' := [(2, .int 0), (0, .ref la), (1, .int (nI (0 + 1)))]) hK.1.1 hK.1.2.1 dJx4a65c_grow_92f84_5 rfl hl (by decide) rfl (fun ls hl => ?_)
    refine lv_iload_n hK.1.1 hK.1.2.1 dJx4a65c_grow_92f84_6 rfl (lv_at hl 0 rfl) ?_
    refine lv_if_gt (tgt := 20) hK.1.1 hK.1.2.1 dJx4a65c_grow_92f84_7 (by decide) (fun c => absurd c (by decide)) (fun _ => ?_)
    refine lv_aload_n hK.1.1 hK.1.2.1 dJx4a65c_grow_92f84_10 rfl (lv_at hl 1 rfl) ?_
    refine gk_get hK.1 hK.2.2.1.1 hP (k := 1) hL rfl inlJx4a65c (by decide) q_3_3 (fun _ h => h) rfl dJx4a65c_grow_92f84_11 ?_
    refine va_gets hK.1.1 hK.1.2.1 hK.2.2.1.2.2.2.2.2.1 hS hK.1.2.2.1 (hK.1.2.2.2 _ q_3_2) (fun _ h => h) dJx4a65c_grow_92f84_14 ?_
    refine lv_acmp_eq (rx := some (ly_a y 6)) (ry := some (ly_a y 6)) (tgt := 45) hK.1.1 hK.1.2.1 dJx4a65c_grow_92f84_17 (by decide) (fun _ => ?_) (fun c => absurd rfl c)
    refine lv_aload_n hK.1.1 hK.1.2.1 dJx4a65c_grow_92f84_45 rfl (lv_at hl 1 rfl) ?_
    refine lv_bipush (v := 10) hK.1.1 hK.1.2.1 dJx4a65c_grow_92f84_46 (by decide) ?_
    refine lv_iload_n hK.1.1 hK.1.2.1 dJx4a65c_grow_92f84_48 rfl (lv_at hl 2 rfl) ?_
    refine va_mmax hK.1.1 hK.1.2.1 (hK.2.1.trans hl.1.symm) hK.1.2.2.1 (hK.1.2.2.2 _ q_13_9) (hK.1.2.2.2 _ q_13_10) (hK.1.2.2.2 _ q_13_11) (hK.1.2.2.2 _ q_13_12) (Nat.le_of_ble_eq_true rfl) (Nat.le_of_ble_eq_true rfl) (Nat.le_of_ble_eq_true rfl) (Nat.le_of_ble_eq_true rfl) dJx4a65c_grow_92f84_49 ?_
    rw [show (if (10 : Int32) < nI (0 + 1) then nI (0 + 1) else 10) = nI 10 from by decide]
    refine gk_newq hK.1 hK.2.2.1.1 hP hS hK.2.2.2 q_13_13 hK.2.2.1.2.2.1.1.1 6 rfl (by decide) (nI_clamp (by decide)) (by decide) (Nat.le_of_ble_eq_true rfl) (Nat.le_of_ble_eq_true rfl) dJx4a65c_grow_92f84_52 (fun q9 H hn hP hS => ?_)
    obtain ⟨G_1, hG_1⟩ : ∃ z, z = gk_up G q9 (rp_r (ly_k y 6) 10 (fun _ => none)) := ⟨_, rfl⟩
    have hP : gk_P (ly_D y) A G_1 H := by rw [hG_1]; exact hP
    have f_2 : G_1 q9 = some (rp_r (ly_k y 6) 10 (fun _ => none)) := by rw [hG_1]; exact gk_us _ _ _
    have k_3 : G_1 la = some (.inr (0, [.int mc, .ref (ly_a y 6), .int (nI 0)])) := by rw [hG_1]; exact gk_keepN hn hL
    refine lv_dup_x1 hK.1.1 hK.1.2.1 dJx4a65c_grow_92f84_55 rfl rfl ?_
    refine gk_put hK.1 hK.2.2.1.1 hP hS (k := 1) k_3 rfl inlJx4a65c tyJx4a65c tyJx4a65c_ok nmJx4a65c (by decide) q_3_3 (fun _ h => h) rfl rfl rfl (Nat.le_of_ble_eq_true rfl) dJx4a65c_grow_92f84_56 (fun H locs hP hS => ?_)
    obtain ⟨G_4, hG_4⟩ : ∃ z, z = gk_up G_1 la (.inr (0, [.int mc, .ref q9, .int (nI 0)])) := ⟨_, rfl⟩
    have hP : gk_P (ly_D y) A G_4 H := by rw [hG_4]; exact hP
    have f_5 : G_4 la = some (.inr (0, [.int mc, .ref q9, .int (nI 0)])) := by rw [hG_4]; exact gk_us _ _ _
    exact gk_aret0 hK.1 hret (by first | exact Or.inl ⟨_, rfl⟩ | exact Or.inr ⟨_, rfl⟩) (by first | exact Or.inr ⟨_, rfl⟩ | exact Or.inl rfl | exact va_rf_or _) hlk hP hS (Nat.le_of_ble_eq_true rfl) (Nat.le_of_ble_eq_true rfl) dJx4a65c_grow_92f84_59 ⟨q9, 10, _, hn, rfl, by rw [hG_4, hG_1], by decide, by decide, fun k hk => absurd hk (Nat.not_lt_zero k)⟩
  · refine lv_aload_n hK.1.1 hK.1.2.1 dJx4a65c_grow_92f84_0 rfl (lv_at hl 0 rfl) ?_
    refine gk_get hK.1 hK.2.2.1.1 hP (k := 1) hL rfl inlJx4a65c (by decide) q_3_3 (fun _ h => h) rfl dJx4a65c_grow_92f84_1 ?_
    refine gk_alen hK.1 hK.2.2.1.1 hP 6 hE rfl dJx4a65c_grow_92f84_4 ?_
    refine lv_istore_n (lv' := [(2, .int (nI n)), (0, .ref la), (1, .int (nI (n + 1)))]) hK.1.1 hK.1.2.1 dJx4a65c_grow_92f84_5 rfl hl (by decide) rfl (fun ls hl => ?_)
    refine lv_iload_n hK.1.1 hK.1.2.1 dJx4a65c_grow_92f84_6 rfl (lv_at hl 0 rfl) ?_
    refine lv_if_gt (tgt := 20) hK.1.1 hK.1.2.1 dJx4a65c_grow_92f84_7 (by decide) (fun c7_6 => ?_) (fun c7_6 => ?_)
    · refine lv_iload_n hK.1.1 hK.1.2.1 dJx4a65c_grow_92f84_20 rfl (lv_at hl 0 rfl) ?_
      refine lv_iload_n hK.1.1 hK.1.2.1 dJx4a65c_grow_92f84_21 rfl (lv_at hl 2 rfl) ?_
      refine lv_iload_n hK.1.1 hK.1.2.1 dJx4a65c_grow_92f84_22 rfl (lv_at hl 0 rfl) ?_
      refine lv_isub hK.1.1 hK.1.2.1 dJx4a65c_grow_92f84_23 ?_
      rw [pk_sub (by omega), show n + 1 - n = 1 by omega]
      refine lv_iload_n hK.1.1 hK.1.2.1 dJx4a65c_grow_92f84_24 rfl (lv_at hl 0 rfl) ?_
      refine lv_iconst (v := 1) hK.1.1 hK.1.2.1 dJx4a65c_grow_92f84_25 (by decide) ?_
      refine lv_ishr hK.1.1 hK.1.2.1 dJx4a65c_grow_92f84_26 ?_
      rw [pk_shrN (by omega) _ 1 (by decide), Nat.pow_one]
      refine gk_callS0 (n := 3) (As := [.int (nI n), .int (nI 1), .int (nI (n / 2))]) (rest := []) hK (c_J8_newLength_cabcc l (by omega) (by omega)) (gk_gS q_13_14 q_13_15 q_13_16 q_13_17) ⟨by decide +kernel, by decide +kernel, by decide +kernel⟩ ⟨(Nat.le_of_ble_eq_true rfl), (Nat.le_of_ble_eq_true rfl)⟩ hP hS rfl hl.1 rfl (Nat.le_of_ble_eq_true rfl) dJx4a65c_grow_92f84_27 ⟨(Nat.le_of_ble_eq_true rfl), (Nat.le_of_ble_eq_true rfl)⟩ (fun v G1 H locs hw hP hS => ?_)
      obtain ⟨rfl, hG9⟩ := hw
      rw [hG9] at hP
      refine W.eq (g2 := F0 m 30 ls [.int (nI (n + max 1 (n / 2)))]) rfl ?_
      refine lv_istore_n (lv' := [(3, .int (nI (n + max 1 (n / 2)))), (2, .int (nI n)), (0, .ref la), (1, .int (nI (n + 1)))]) hK.1.1 hK.1.2.1 dJx4a65c_grow_92f84_30 rfl hl (by decide) rfl (fun ls hl => ?_)
      refine lv_aload_n hK.1.1 hK.1.2.1 dJx4a65c_grow_92f84_31 rfl (lv_at hl 2 rfl) ?_
      refine lv_aload_n hK.1.1 hK.1.2.1 dJx4a65c_grow_92f84_32 rfl (lv_at hl 2 rfl) ?_
      refine gk_get hK.1 hK.2.2.1.1 hP (k := 1) hL rfl inlJx4a65c (by decide) q_3_3 (fun _ h => h) rfl dJx4a65c_grow_92f84_33 ?_
      refine lv_iload_n hK.1.1 hK.1.2.1 dJx4a65c_grow_92f84_36 rfl (lv_at hl 0 rfl) ?_
      refine gk_callS0 (n := 2) (As := [.ref ed, .int (nI (n + max 1 (n / 2)))]) (rest := [.ref la]) hK (c_J7_copyOf_1904c l hE (Nat.le_add_right _ _) (by omega) hel) (gk_gS q_13_23 q_14_0 q_14_1 q_14_2) ⟨by decide +kernel, by decide +kernel, by decide +kernel⟩ ⟨(Nat.le_of_ble_eq_true rfl), (Nat.le_of_ble_eq_true rfl)⟩ hP hS rfl hl.1 rfl (Nat.le_of_ble_eq_true rfl) dJx4a65c_grow_92f84_37 ⟨(Nat.le_of_ble_eq_true rfl), (Nat.le_of_ble_eq_true rfl)⟩ (fun v G1 H locs hw hP hS => ?_)
      obtain ⟨q9, g2, hn, rfl, hG9, hg2⟩ := hw
      rw [hG9] at hP
      obtain ⟨G_7, hG_7⟩ : ∃ z, z = gk_up G q9 (rp_r (ly_k y 6) (n + max 1 (n / 2)) g2) := ⟨_, rfl⟩
      have hP : gk_P (ly_D y) A G_7 H := by rw [hG_7]; exact hP
      have f_8 : G_7 q9 = some (rp_r (ly_k y 6) (n + max 1 (n / 2)) g2) := by rw [hG_7]; exact gk_us _ _ _
      have k_9 : G_7 la = some (.inr (0, [.int mc, .ref ed, .int (nI n)])) := by rw [hG_7]; exact gk_keepN hn hL
      refine W.eq (g2 := F0 m 40 ls [.ref q9, .ref la]) rfl ?_
      refine lv_dup_x1 hK.1.1 hK.1.2.1 dJx4a65c_grow_92f84_40 rfl rfl ?_
      refine gk_put hK.1 hK.2.2.1.1 hP hS (k := 1) k_9 rfl inlJx4a65c tyJx4a65c tyJx4a65c_ok nmJx4a65c (by decide) q_3_3 (fun _ h => h) rfl rfl rfl (Nat.le_of_ble_eq_true rfl) dJx4a65c_grow_92f84_41 (fun H locs hP hS => ?_)
      obtain ⟨G_10, hG_10⟩ : ∃ z, z = gk_up G_7 la (.inr (0, [.int mc, .ref q9, .int (nI n)])) := ⟨_, rfl⟩
      have hP : gk_P (ly_D y) A G_10 H := by rw [hG_10]; exact hP
      have f_11 : G_10 la = some (.inr (0, [.int mc, .ref q9, .int (nI n)])) := by rw [hG_10]; exact gk_us _ _ _
      exact gk_aret0 hK.1 hret (by first | exact Or.inl ⟨_, rfl⟩ | exact Or.inr ⟨_, rfl⟩) (by first | exact Or.inr ⟨_, rfl⟩ | exact Or.inl rfl | exact va_rf_or _) hlk hP hS (Nat.le_of_ble_eq_true rfl) (Nat.le_of_ble_eq_true rfl) dJx4a65c_grow_92f84_44 ⟨q9, _, g2, hn, rfl, by rw [hG_10, hG_7], by omega, by omega, hg2⟩
    · exact absurd (nI_lt (a := 0) (b := n) h0 (by omega)) c7_6
set_option maxHeartbeats 4000000 in
set_option maxRecDepth 100000 in
theorem c_Jx4a65c_grow_d5877 (l : Launch) {y : ly_T} {A : Nat → Prop} {G : gk_G} {mc : Int32} {la ed n : Nat} {g : Nat → Option Nat} (hL : G la = some (.inr (0, [.int mc, .ref ed, .int (nI n)]))) (hF : (n = 0 ∧ ed = ly_a y 6) ∨ (G ed = some (rp_r (ly_k y 6) n g) ∧ 0 < n)) (hn9 : n ≤ 999) (hel : ∀ i, i < n → ∀ t, g i = some t → gl_pt G t) : gk_M0 l yJx4a65c_grow_d5877 (Cond.code yJx4a65c_grow_d5877 cJx4a65c_grow_d5877 1 (some (.array (.object "java/lang/Object")))) 4 150 1 1500 y A [.ref la] G (fun v G1 => ∃ q cap2 g2, G q = none ∧ v = some (.ref q) ∧ G1 = gk_up (gk_up G q (rp_r (ly_k y 6) cap2 g2)) la (.inr (0, [.int mc, .ref q, .int (nI n)])) ∧ n < cap2 ∧ cap2 ≤ 1500 ∧ ∀ k, k < n → g2 k = g k) := by
  refine gk_of0 (cc := cJx4a65c_grow_d5877) (maxL := 1) (ret := (some (.array (.object "java/lang/Object")))) (own := RJx4a65c) (by decide +kernel) rfl rfl (Nat.le_of_ble_eq_true rfl) ?_
  intro p e s m below meth c ls hK hret hlk _ hP hS hl
  have hl : lv_has ls 1 [(0, .ref la)] := hl
  refine lv_aload_n hK.1.1 hK.1.2.1 dJx4a65c_grow_d5877_0 rfl (lv_at hl 0 rfl) ?_
  refine lv_aload_n hK.1.1 hK.1.2.1 dJx4a65c_grow_d5877_1 rfl (lv_at hl 0 rfl) ?_
  refine gk_get hK.1 hK.2.2.1.1 hP (k := 2) hL rfl inlJx4a65c (by decide) q_12_14 (fun _ h => h) rfl dJx4a65c_grow_d5877_2 ?_
  refine lv_iconst (v := 1) hK.1.1 hK.1.2.1 dJx4a65c_grow_d5877_5 (by decide) ?_
  refine lv_iadd hK.1.1 hK.1.2.1 dJx4a65c_grow_d5877_6 ?_
  rw [nI_1]
  refine gk_callV0 (n := 1) (As := [.int (nI (n + 1))]) (rest := []) hK (c_Jx4a65c_grow_92f84 l hL hF hn9 hel) (gk_gV q_13_5 q_13_6 q_13_7 q_2_15 q_13_8) ⟨rfl, by decide +kernel, by decide +kernel, by decide +kernel⟩ ⟨(Nat.le_of_ble_eq_true rfl), (Nat.le_of_ble_eq_true rfl)⟩ hP hS (gk_recv hK.2.2.1.1 hP hL rfl) rfl hl.1 rfl (Nat.le_of_ble_eq_true rfl) dJx4a65c_grow_d5877_7 ⟨(Nat.le_of_ble_eq_true rfl), (Nat.le_of_ble_eq_true rfl)⟩ (fun v G1 H locs hw hP hS => ?_)
  obtain ⟨q9, cap2, g2, hn, rfl, hG9, hc1, hc2, hg2⟩ := hw
  rw [hG9] at hP
  refine W.eq (g2 := F0 m 10 ls [.ref q9]) rfl ?_
  exact gk_aret0 hK.1 hret (by first | exact Or.inl ⟨_, rfl⟩ | exact Or.inr ⟨_, rfl⟩) (by first | exact Or.inr ⟨_, rfl⟩ | exact Or.inl rfl | exact va_rf_or _) hlk hP hS (Nat.le_of_ble_eq_true rfl) (Nat.le_of_ble_eq_true rfl) dJx4a65c_grow_d5877_10 ⟨q9, cap2, g2, hn, rfl, rfl, hc1, hc2, hg2⟩
set_option maxHeartbeats 4000000 in
set_option maxRecDepth 100000 in
theorem c_Jx4a65c_add_72be8 (l : Launch) {y : ly_T} {A : Nat → Prop} {G : gk_G} {mc : Int32} {la ed n t : Nat} {g : Nat → Option Nat} (hL : G la = some (.inr (0, [.int mc, .ref ed, .int (nI n)]))) (hF : (n = 0 ∧ ed = ly_a y 6) ∨ ∃ cap, G ed = some (rp_r (ly_k y 6) cap g) ∧ n ≤ cap ∧ 0 < cap ∧ cap ≤ 1500) (hn9 : n ≤ 999) (hel : ∀ i, i < n → ∀ t, g i = some t → gl_pt G t) (ht : gl_pt G t) : gk_M0 l yJx4a65c_add_72be8 (Cond.code yJx4a65c_add_72be8 cJx4a65c_add_72be8 4 none) 5 180 1 1500 y A [.ref la, .ref t, .ref ed, .int (nI n)] G (fun v G1 => v = none ∧ ∃ ed2 cap2 g2, G1 la = some (.inr (0, [.int mc, .ref ed2, .int (nI (n + 1))])) ∧ G1 ed2 = some (rp_r (ly_k y 6) cap2 g2) ∧ n < cap2 ∧ cap2 ≤ 1500 ∧ g2 n = some t ∧ (∀ k, k < n → g2 k = g k) ∧ (ed2 = ed ∨ G ed2 = none) ∧ ∀ b e, b ≠ la → b ≠ ed2 → G b = some e → G1 b = some e) := by
  refine gk_of0 (cc := cJx4a65c_add_72be8) (maxL := 4) (ret := none) (own := RJx4a65c) (by decide +kernel) rfl rfl (Nat.le_of_ble_eq_true rfl) ?_
  intro p e s m below meth c ls hK hret hlk _ hP hS hl
  have hl : lv_has ls 4 [(0, .ref la), (1, .ref t), (2, .ref ed), (3, .int (nI n))] := hl
  obtain ⟨vt, hvt⟩ := ht
  rcases hF with ⟨rfl, rfl⟩ | ⟨cap, hE, hnc, h0, hcap⟩
  · refine lv_iload_n hK.1.1 hK.1.2.1 dJx4a65c_add_72be8_0 rfl (lv_at hl 3 rfl) ?_
    refine lv_aload_n hK.1.1 hK.1.2.1 dJx4a65c_add_72be8_1 rfl (lv_at hl 2 rfl) ?_
    refine va_tlen (v := 0) hK.1.1 hK.1.2.1 hK.2.2.1.2.2.2.2.2.2 hS rfl dJx4a65c_add_72be8_2 ?_
    refine lv_icmp_ne (tgt := 11) hK.1.1 hK.1.2.1 dJx4a65c_add_72be8_3 (by decide) (fun c => absurd (by decide) c) (fun _ => ?_)
    refine lv_aload_n hK.1.1 hK.1.2.1 dJx4a65c_add_72be8_6 rfl (lv_at hl 0 rfl) ?_
    refine gk_callV0 (n := 0) (As := []) (rest := []) hK (c_Jx4a65c_grow_d5877 l hL (Or.inl ⟨rfl, rfl⟩) hn9 hel) (gk_gV q_13_1 q_13_2 q_13_3 q_2_15 q_13_4) ⟨rfl, by decide +kernel, by decide +kernel, by decide +kernel⟩ ⟨(Nat.le_of_ble_eq_true rfl), (Nat.le_of_ble_eq_true rfl)⟩ hP hS (gk_recv hK.2.2.1.1 hP hL rfl) rfl hl.1 rfl (Nat.le_of_ble_eq_true rfl) dJx4a65c_add_72be8_7 ⟨(Nat.le_of_ble_eq_true rfl), (Nat.le_of_ble_eq_true rfl)⟩ (fun v G1 H locs hw hP hS => ?_)
    obtain ⟨q9, cap2, g2, hn, rfl, hG9, hc1, hc2, hg2⟩ := hw
    refine W.eq (g2 := F0 m 10 ls [.ref q9]) rfl ?_
    have hqla : q9 ≠ la := fun z => by rw [z, hL] at hn; cases hn
    have hqt : q9 ≠ t := fun z => by rw [z, hvt] at hn; cases hn
    have f1 : G1 la = some (.inr (0, [.int mc, .ref q9, .int (nI 0)])) := by rw [hG9]; exact gk_us _ _ _
    have f2 : G1 q9 = some (rp_r (ly_k y 6) cap2 g2) := by rw [hG9, gk_un _ _ hqla]; exact gk_us _ _ _
    have f3 : G1 t = some (.inr (3, vt)) := by rw [hG9, gk_un _ _ (gk_ne hvt hL (fun h => by cases h)), gk_un _ _ (Ne.symm hqt)]; exact hvt
    have f4 : ∀ b e, b ≠ la → G b = some e → G1 b = some e := fun b e h1 h2 => by rw [hG9, gk_un _ _ h1]; exact gk_keepN hn h2
    refine lv_astore_n (lv' := [(2, .ref q9), (0, .ref la), (1, .ref t), (3, .int (nI 0))]) hK.1.1 hK.1.2.1 dJx4a65c_add_72be8_10 rfl hl (by decide) rfl (fun ls hl => ?_)
    refine lv_aload_n hK.1.1 hK.1.2.1 dJx4a65c_add_72be8_11 rfl (lv_at hl 0 rfl) ?_
    refine lv_iload_n hK.1.1 hK.1.2.1 dJx4a65c_add_72be8_12 rfl (lv_at hl 3 rfl) ?_
    refine lv_aload_n hK.1.1 hK.1.2.1 dJx4a65c_add_72be8_13 rfl (lv_at hl 2 rfl) ?_
    refine gk_aastM hK.1 hK.2.2.1.1 hP hS 6 f2 rfl f3 rfl (gl_asg hK.2.2.1) (vp_in_nI hc1 (by omega)) dJx4a65c_add_72be8_14 (fun H locs hP hS => ?_)
    rw [nI_clamp (by omega)] at hP
    obtain ⟨G2, hG2⟩ : ∃ z, z = gk_up G1 q9 (rp_r (ly_k y 6) cap2 (va_up g2 0 (some t))) := ⟨_, rfl⟩
    have hP : gk_P (ly_D y) A G2 H := by rw [hG2]; exact hP
    have h1 : G2 la = some (.inr (0, [.int mc, .ref q9, .int (nI 0)])) := by rw [hG2]; exact gk_keep f2 f1 (fun h => by cases h)
    refine lv_aload_n hK.1.1 hK.1.2.1 dJx4a65c_add_72be8_15 rfl (lv_at hl 1 rfl) ?_
    refine lv_iload_n hK.1.1 hK.1.2.1 dJx4a65c_add_72be8_16 rfl (lv_at hl 3 rfl) ?_
    refine lv_iconst (v := 1) hK.1.1 hK.1.2.1 dJx4a65c_add_72be8_17 (by decide) ?_
    refine lv_iadd hK.1.1 hK.1.2.1 dJx4a65c_add_72be8_18 ?_
    rw [nI_1]
    refine gk_put hK.1 hK.2.2.1.1 hP hS (k := 2) h1 rfl inlJx4a65c tyJx4a65c tyJx4a65c_ok nmJx4a65c (by decide) q_12_14 (fun _ h => h) rfl rfl rfl (Nat.le_of_ble_eq_true rfl) dJx4a65c_add_72be8_19 (fun H locs hP hS => ?_)
    obtain ⟨G_1, hG_1⟩ : ∃ z, z = gk_up G2 la (.inr (0, [.int mc, .ref q9, .int (nI (0 + 1))])) := ⟨_, rfl⟩
    have hP : gk_P (ly_D y) A G_1 H := by rw [hG_1]; exact hP
    have f_2 : G_1 la = some (.inr (0, [.int mc, .ref q9, .int (nI (0 + 1))])) := by rw [hG_1]; exact gk_us _ _ _
    exact gk_vret0 hK.1 hret hlk hP hS (Nat.le_of_ble_eq_true rfl) (Nat.le_of_ble_eq_true rfl) dJx4a65c_add_72be8_22 ⟨rfl, q9, cap2, _, by rw [hG_1]; exact gk_us _ _ _, by rw [hG_1, gk_un _ _ (gk_ne f2 f1 (fun h => by cases h)), hG2]; exact gk_us _ _ _, hc1, hc2, va_up_self _ _ _, (fun k hk => by rw [va_up_ne _ _ (by omega)]; exact hg2 k hk), Or.inr hn, fun b e hb1 hb2 hb3 => by rw [hG_1, gk_un _ _ hb1, hG2, gk_un _ _ hb2]; exact f4 b e hb1 hb3⟩
  · rcases Nat.lt_or_ge n cap with hlt | hge
    · refine lv_iload_n hK.1.1 hK.1.2.1 dJx4a65c_add_72be8_0 rfl (lv_at hl 3 rfl) ?_
      refine lv_aload_n hK.1.1 hK.1.2.1 dJx4a65c_add_72be8_1 rfl (lv_at hl 2 rfl) ?_
      refine gk_alen hK.1 hK.2.2.1.1 hP 6 hE rfl dJx4a65c_add_72be8_2 ?_
      refine lv_icmp_ne (tgt := 11) hK.1.1 hK.1.2.1 dJx4a65c_add_72be8_3 (by decide) (fun _ => ?_) (fun c => absurd ((nI_eq (by omega) (by omega)).mp c) (by omega))
      refine lv_aload_n hK.1.1 hK.1.2.1 dJx4a65c_add_72be8_11 rfl (lv_at hl 2 rfl) ?_
      refine lv_iload_n hK.1.1 hK.1.2.1 dJx4a65c_add_72be8_12 rfl (lv_at hl 3 rfl) ?_
      refine lv_aload_n hK.1.1 hK.1.2.1 dJx4a65c_add_72be8_13 rfl (lv_at hl 1 rfl) ?_
      refine gk_aastM hK.1 hK.2.2.1.1 hP hS 6 hE rfl hvt rfl (gl_asg hK.2.2.1) (vp_in_nI hlt (by omega)) dJx4a65c_add_72be8_14 (fun H locs hP hS => ?_)
      rw [nI_clamp (by omega)] at hP
      obtain ⟨G2, hG2⟩ : ∃ z, z = gk_up G ed (rp_r (ly_k y 6) cap (va_up g n (some t))) := ⟨_, rfl⟩
      have hP : gk_P (ly_D y) A G2 H := by rw [hG2]; exact hP
      have h1 : G2 la = some (.inr (0, [.int mc, .ref ed, .int (nI n)])) := by rw [hG2]; exact gk_keep hE hL (fun h => by cases h)
      refine lv_aload_n hK.1.1 hK.1.2.1 dJx4a65c_add_72be8_15 rfl (lv_at hl 0 rfl) ?_
      refine lv_iload_n hK.1.1 hK.1.2.1 dJx4a65c_add_72be8_16 rfl (lv_at hl 3 rfl) ?_
      refine lv_iconst (v := 1) hK.1.1 hK.1.2.1 dJx4a65c_add_72be8_17 (by decide) ?_
      refine lv_iadd hK.1.1 hK.1.2.1 dJx4a65c_add_72be8_18 ?_
      rw [nI_1]
      refine gk_put hK.1 hK.2.2.1.1 hP hS (k := 2) h1 rfl inlJx4a65c tyJx4a65c tyJx4a65c_ok nmJx4a65c (by decide) q_12_14 (fun _ h => h) rfl rfl rfl (Nat.le_of_ble_eq_true rfl) dJx4a65c_add_72be8_19 (fun H locs hP hS => ?_)
      obtain ⟨G_3, hG_3⟩ : ∃ z, z = gk_up G2 la (.inr (0, [.int mc, .ref ed, .int (nI (n + 1))])) := ⟨_, rfl⟩
      have hP : gk_P (ly_D y) A G_3 H := by rw [hG_3]; exact hP
      have f_4 : G_3 la = some (.inr (0, [.int mc, .ref ed, .int (nI (n + 1))])) := by rw [hG_3]; exact gk_us _ _ _
      exact gk_vret0 hK.1 hret hlk hP hS (Nat.le_of_ble_eq_true rfl) (Nat.le_of_ble_eq_true rfl) dJx4a65c_add_72be8_22 ⟨rfl, ed, cap, _, by rw [hG_3]; exact gk_us _ _ _, by rw [hG_3, gk_un _ _ (gk_ne hE hL (fun h => by cases h)), hG2]; exact gk_us _ _ _, hlt, hcap, va_up_self _ _ _, (fun k hk => va_up_ne _ _ (by omega)), Or.inl rfl, fun b e hb1 hb2 hb3 => by rw [hG_3, gk_un _ _ hb1, hG2, gk_un _ _ hb2]; exact hb3⟩
    · have hcn : cap = n := Nat.le_antisymm hge hnc
      subst hcn
      refine lv_iload_n hK.1.1 hK.1.2.1 dJx4a65c_add_72be8_0 rfl (lv_at hl 3 rfl) ?_
      refine lv_aload_n hK.1.1 hK.1.2.1 dJx4a65c_add_72be8_1 rfl (lv_at hl 2 rfl) ?_
      refine gk_alen hK.1 hK.2.2.1.1 hP 6 hE rfl dJx4a65c_add_72be8_2 ?_
      refine lv_icmp_ne (tgt := 11) hK.1.1 hK.1.2.1 dJx4a65c_add_72be8_3 (by decide) (fun c => absurd rfl c) (fun _ => ?_)
      refine lv_aload_n hK.1.1 hK.1.2.1 dJx4a65c_add_72be8_6 rfl (lv_at hl 0 rfl) ?_
      refine gk_callV0 (n := 0) (As := []) (rest := []) hK (c_Jx4a65c_grow_d5877 l hL (Or.inr ⟨hE, h0⟩) hn9 hel) (gk_gV q_13_1 q_13_2 q_13_3 q_2_15 q_13_4) ⟨rfl, by decide +kernel, by decide +kernel, by decide +kernel⟩ ⟨(Nat.le_of_ble_eq_true rfl), (Nat.le_of_ble_eq_true rfl)⟩ hP hS (gk_recv hK.2.2.1.1 hP hL rfl) rfl hl.1 rfl (Nat.le_of_ble_eq_true rfl) dJx4a65c_add_72be8_7 ⟨(Nat.le_of_ble_eq_true rfl), (Nat.le_of_ble_eq_true rfl)⟩ (fun v G1 H locs hw hP hS => ?_)
      obtain ⟨q9, cap2, g2, hn, rfl, hG9, hc1, hc2, hg2⟩ := hw
      refine W.eq (g2 := F0 m 10 ls [.ref q9]) rfl ?_
      have hqla : q9 ≠ la := fun z => by rw [z, hL] at hn; cases hn
      have hqt : q9 ≠ t := fun z => by rw [z, hvt] at hn; cases hn
      have f1 : G1 la = some (.inr (0, [.int mc, .ref q9, .int (nI cap)])) := by rw [hG9]; exact gk_us _ _ _
      have f2 : G1 q9 = some (rp_r (ly_k y 6) cap2 g2) := by rw [hG9, gk_un _ _ hqla]; exact gk_us _ _ _
      have f3 : G1 t = some (.inr (3, vt)) := by rw [hG9, gk_un _ _ (gk_ne hvt hL (fun h => by cases h)), gk_un _ _ (Ne.symm hqt)]; exact hvt
      have f4 : ∀ b e, b ≠ la → G b = some e → G1 b = some e := fun b e h1 h2 => by rw [hG9, gk_un _ _ h1]; exact gk_keepN hn h2
      refine lv_astore_n (lv' := [(2, .ref q9), (0, .ref la), (1, .ref t), (3, .int (nI cap))]) hK.1.1 hK.1.2.1 dJx4a65c_add_72be8_10 rfl hl (by decide) rfl (fun ls hl => ?_)
      refine lv_aload_n hK.1.1 hK.1.2.1 dJx4a65c_add_72be8_11 rfl (lv_at hl 0 rfl) ?_
      refine lv_iload_n hK.1.1 hK.1.2.1 dJx4a65c_add_72be8_12 rfl (lv_at hl 3 rfl) ?_
      refine lv_aload_n hK.1.1 hK.1.2.1 dJx4a65c_add_72be8_13 rfl (lv_at hl 2 rfl) ?_
      refine gk_aastM hK.1 hK.2.2.1.1 hP hS 6 f2 rfl f3 rfl (gl_asg hK.2.2.1) (vp_in_nI hc1 (by omega)) dJx4a65c_add_72be8_14 (fun H locs hP hS => ?_)
      rw [nI_clamp (by omega)] at hP
      obtain ⟨G2, hG2⟩ : ∃ z, z = gk_up G1 q9 (rp_r (ly_k y 6) cap2 (va_up g2 cap (some t))) := ⟨_, rfl⟩
      have hP : gk_P (ly_D y) A G2 H := by rw [hG2]; exact hP
      have h1 : G2 la = some (.inr (0, [.int mc, .ref q9, .int (nI cap)])) := by rw [hG2]; exact gk_keep f2 f1 (fun h => by cases h)
      refine lv_aload_n hK.1.1 hK.1.2.1 dJx4a65c_add_72be8_15 rfl (lv_at hl 1 rfl) ?_
      refine lv_iload_n hK.1.1 hK.1.2.1 dJx4a65c_add_72be8_16 rfl (lv_at hl 3 rfl) ?_
      refine lv_iconst (v := 1) hK.1.1 hK.1.2.1 dJx4a65c_add_72be8_17 (by decide) ?_
      refine lv_iadd hK.1.1 hK.1.2.1 dJx4a65c_add_72be8_18 ?_
      rw [nI_1]
      refine gk_put hK.1 hK.2.2.1.1 hP hS (k := 2) h1 rfl inlJx4a65c tyJx4a65c tyJx4a65c_ok nmJx4a65c (by decide) q_12_14 (fun _ h => h) rfl rfl rfl (Nat.le_of_ble_eq_true rfl) dJx4a65c_add_72be8_19 (fun H locs hP hS => ?_)
      obtain ⟨G_5, hG_5⟩ : ∃ z, z = gk_up G2 la (.inr (0, [.int mc, .ref q9, .int (nI (cap + 1))])) := ⟨_, rfl⟩
      have hP : gk_P (ly_D y) A G_5 H := by rw [hG_5]; exact hP
      have f_6 : G_5 la = some (.inr (0, [.int mc, .ref q9, .int (nI (cap + 1))])) := by rw [hG_5]; exact gk_us _ _ _
      exact gk_vret0 hK.1 hret hlk hP hS (Nat.le_of_ble_eq_true rfl) (Nat.le_of_ble_eq_true rfl) dJx4a65c_add_72be8_22 ⟨rfl, q9, cap2, _, by rw [hG_5]; exact gk_us _ _ _, by rw [hG_5, gk_un _ _ (gk_ne f2 f1 (fun h => by cases h)), hG2]; exact gk_us _ _ _, hc1, hc2, va_up_self _ _ _, (fun k hk => by rw [va_up_ne _ _ (by omega)]; exact hg2 k hk), Or.inr hn, fun b e hb1 hb2 hb3 => by rw [hG_5, gk_un _ _ hb1, hG2, gk_un _ _ hb2]; exact f4 b e hb1 hb3⟩
end
section
/-! the library's list: the public add and remove -/
set_option maxHeartbeats 4000000 in
set_option maxRecDepth 100000 in
theorem c_Jx4a65c_add_9ea2d (l : Launch) {y : ly_T} {A : Nat → Prop} {G : gk_G} {mc : Int32} {la ed n t : Nat} {g : Nat → Option Nat} (hL : G la = some (.inr (0, [.int mc, .ref ed, .int (nI n)]))) (hF : (n = 0 ∧ ed = ly_a y 6) ∨ ∃ cap, G ed = some (rp_r (ly_k y 6) cap g) ∧ n ≤ cap ∧ 0 < cap ∧ cap ≤ 1500) (hn9 : n ≤ 999) (hel : ∀ i, i < n → ∀ t, g i = some t → gl_pt G t) (ht : gl_pt G t) : gk_M0 l yJx4a65c_add_9ea2d (Cond.code yJx4a65c_add_9ea2d cJx4a65c_add_9ea2d 2 (some .boolean)) 6 210 1 1500 y A [.ref la, .ref t] G (fun v G1 => v = some (.int 1) ∧ ∃ ed2 cap2 g2, G1 la = some (.inr (0, [.int (mc + 1), .ref ed2, .int (nI (n + 1))])) ∧ G1 ed2 = some (rp_r (ly_k y 6) cap2 g2) ∧ n < cap2 ∧ cap2 ≤ 1500 ∧ g2 n = some t ∧ (∀ k, k < n → g2 k = g k) ∧ (ed2 = ed ∨ G ed2 = none) ∧ ∀ b e, b ≠ la → b ≠ ed2 → G b = some e → G1 b = some e) := by
  refine gk_of0 (cc := cJx4a65c_add_9ea2d) (maxL := 2) (ret := (some .boolean)) (own := RJx4a65c) (by decide +kernel) rfl rfl (Nat.le_of_ble_eq_true rfl) ?_
  intro p e s m below meth c ls hK hret hlk _ hP hS hl
  have hl : lv_has ls 2 [(0, .ref la), (1, .ref t)] := hl
  refine lv_aload_n hK.1.1 hK.1.2.1 dJx4a65c_add_9ea2d_0 rfl (lv_at hl 0 rfl) ?_
  refine lv_dup hK.1.1 hK.1.2.1 dJx4a65c_add_9ea2d_1 rfl ?_
  refine gk_get hK.1 hK.2.2.1.1 hP (k := 0) hL rfl inlJx4a65c (by decide) q_12_19 (u_same (hK.1.2.2.2 _ q_12_20)) rfl dJx4a65c_add_9ea2d_2 ?_
  refine lv_iconst (v := 1) hK.1.1 hK.1.2.1 dJx4a65c_add_9ea2d_5 (by decide) ?_
  refine lv_iadd hK.1.1 hK.1.2.1 dJx4a65c_add_9ea2d_6 ?_
  refine gk_put hK.1 hK.2.2.1.1 hP hS (k := 0) hL rfl inlJx4a65c tyJx4a65c tyJx4a65c_ok nmJx4a65c (by decide) q_12_19 (u_same (hK.1.2.2.2 _ q_12_20)) rfl rfl rfl (Nat.le_of_ble_eq_true rfl) dJx4a65c_add_9ea2d_7 (fun H locs hP hS => ?_)
  obtain ⟨G_1, hG_1⟩ : ∃ z, z = gk_up G la (.inr (0, [.int (mc + 1), .ref ed, .int (nI n)])) := ⟨_, rfl⟩
  have hP : gk_P (ly_D y) A G_1 H := by rw [hG_1]; exact hP
  have f_2 : G_1 la = some (.inr (0, [.int (mc + 1), .ref ed, .int (nI n)])) := by rw [hG_1]; exact gk_us _ _ _
  refine lv_aload_n hK.1.1 hK.1.2.1 dJx4a65c_add_9ea2d_10 rfl (lv_at hl 0 rfl) ?_
  refine lv_aload_n hK.1.1 hK.1.2.1 dJx4a65c_add_9ea2d_11 rfl (lv_at hl 1 rfl) ?_
  refine lv_aload_n hK.1.1 hK.1.2.1 dJx4a65c_add_9ea2d_12 rfl (lv_at hl 0 rfl) ?_
  refine gk_get hK.1 hK.2.2.1.1 hP (k := 1) f_2 rfl inlJx4a65c (by decide) q_3_3 (fun _ h => h) rfl dJx4a65c_add_9ea2d_13 ?_
  refine lv_aload_n hK.1.1 hK.1.2.1 dJx4a65c_add_9ea2d_16 rfl (lv_at hl 0 rfl) ?_
  refine gk_get hK.1 hK.2.2.1.1 hP (k := 2) f_2 rfl inlJx4a65c (by decide) q_12_14 (fun _ h => h) rfl dJx4a65c_add_9ea2d_17 ?_
  refine gk_callV0 (n := 3) (As := [.ref t, .ref ed, .int (nI n)]) (rest := []) hK (c_Jx4a65c_add_72be8 l (mc := mc + 1) f_2 (hF.imp (fun h => h) (fun ⟨cap, z, z2⟩ => ⟨cap, by rw [hG_1]; exact gk_keep hL z (fun h => by cases h), z2⟩)) hn9 (fun i hi t hg => by obtain ⟨vs, hvs⟩ := hel i hi t hg; exact ⟨vs, by rw [hG_1]; exact gk_keep hL hvs (fun h => by cases h)⟩) (by obtain ⟨vs, hvs⟩ := ht; exact ⟨vs, by rw [hG_1]; exact gk_keep hL hvs (fun h => by cases h)⟩)) (gk_gV q_12_21 q_12_22 q_12_23 q_2_15 q_13_0) ⟨rfl, by decide +kernel, by decide +kernel, by decide +kernel⟩ ⟨(Nat.le_of_ble_eq_true rfl), (Nat.le_of_ble_eq_true rfl)⟩ hP hS (gk_recv hK.2.2.1.1 hP f_2 rfl) rfl hl.1 rfl (Nat.le_of_ble_eq_true rfl) dJx4a65c_add_9ea2d_20 ⟨(Nat.le_of_ble_eq_true rfl), (Nat.le_of_ble_eq_true rfl)⟩ (fun v G1 H locs hw hP hS => ?_)
  obtain ⟨rfl, ed2, cap2, g2, a1, a2, a3, a4, a5, a6, a7, a8⟩ := hw
  refine W.eq (g2 := F0 m 23 ls []) rfl ?_
  refine lv_iconst (v := 1) hK.1.1 hK.1.2.1 dJx4a65c_add_9ea2d_23 (by decide) ?_
  exact gk_zret0 hK.1 hret (by first | decide | exact (rp_nz (by first | assumption | (simp; done))).1) hlk hP hS (Nat.le_of_ble_eq_true rfl) (Nat.le_of_ble_eq_true rfl) dJx4a65c_add_9ea2d_24 ⟨rfl, ed2, cap2, g2, a1, a2, a3, a4, a5, a6, a7.imp (fun h => h) (fun h => by by_cases hla : ed2 = la; (rw [hla, hG_1, gk_us] at h; cases h); (rw [hG_1, gk_un _ _ hla] at h; exact h)), fun b e hb1 hb2 hb3 => a8 b e hb1 hb2 (by rw [hG_1, gk_un _ _ hb1]; exact hb3)⟩
set_option maxHeartbeats 4000000 in
set_option maxRecDepth 100000 in
theorem c_Jx4a65c_fastRemove_b59b0 (l : Launch) {y : ly_T} {A : Nat → Prop} {G : gk_G} {mc : Int32} {la ed n k cap : Nat} {g : Nat → Option Nat} (hL : G la = some (.inr (0, [.int mc, .ref ed, .int (nI (n + 1))]))) (hE : G ed = some (rp_r (ly_k y 6) cap g)) (hk : k ≤ n) (hnc : n + 1 ≤ cap) (hcap : cap ≤ 1500) (hel : ∀ i, i < n + 1 → ∀ t, g i = some t → gl_pt G t) : gk_M0 l yJx4a65c_fastRemove_b59b0 (Cond.code yJx4a65c_fastRemove_b59b0 cJx4a65c_fastRemove_b59b0 4 none) 1 60 0 0 y A [.ref la, .ref ed, .int (nI k)] G (fun v G1 => v = none ∧ ∃ g2, G1 la = some (.inr (0, [.int (mc + 1), .ref ed, .int (nI n)])) ∧ G1 ed = some (rp_r (ly_k y 6) cap g2) ∧ (∀ j, j < n → g2 j = if j < k then g j else g (j + 1)) ∧ ∀ b e, b ≠ la → b ≠ ed → G b = some e → G1 b = some e) := by
  refine gk_of0 (cc := cJx4a65c_fastRemove_b59b0) (maxL := 4) (ret := none) (own := RJx4a65c) (by decide +kernel) rfl rfl (Nat.le_of_ble_eq_true rfl) ?_
  intro p e s m below meth c ls hK hret hlk _ hP hS hl
  have hl : lv_has ls 4 [(0, .ref la), (1, .ref ed), (2, .int (nI k))] := hl
  refine lv_aload_n hK.1.1 hK.1.2.1 dJx4a65c_fastRemove_b59b0_0 rfl (lv_at hl 0 rfl) ?_
  refine lv_dup hK.1.1 hK.1.2.1 dJx4a65c_fastRemove_b59b0_1 rfl ?_
  refine gk_get hK.1 hK.2.2.1.1 hP (k := 0) hL rfl inlJx4a65c (by decide) q_12_19 (u_same (hK.1.2.2.2 _ q_12_20)) rfl dJx4a65c_fastRemove_b59b0_2 ?_
  refine lv_iconst (v := 1) hK.1.1 hK.1.2.1 dJx4a65c_fastRemove_b59b0_5 (by decide) ?_
  refine lv_iadd hK.1.1 hK.1.2.1 dJx4a65c_fastRemove_b59b0_6 ?_
  refine gk_put hK.1 hK.2.2.1.1 hP hS (k := 0) hL rfl inlJx4a65c tyJx4a65c tyJx4a65c_ok nmJx4a65c (by decide) q_12_19 (u_same (hK.1.2.2.2 _ q_12_20)) rfl rfl rfl (Nat.le_of_ble_eq_true rfl) dJx4a65c_fastRemove_b59b0_7 (fun H locs hP hS => ?_)
  obtain ⟨G_1, hG_1⟩ : ∃ z, z = gk_up G la (.inr (0, [.int (mc + 1), .ref ed, .int (nI (n + 1))])) := ⟨_, rfl⟩
  have hP : gk_P (ly_D y) A G_1 H := by rw [hG_1]; exact hP
  have f_2 : G_1 la = some (.inr (0, [.int (mc + 1), .ref ed, .int (nI (n + 1))])) := by rw [hG_1]; exact gk_us _ _ _
  have k_3 : G_1 ed = some (rp_r (ly_k y 6) cap g) := by rw [hG_1]; exact gk_keep hL hE (fun h => by cases h)
  refine lv_aload_n hK.1.1 hK.1.2.1 dJx4a65c_fastRemove_b59b0_10 rfl (lv_at hl 0 rfl) ?_
  refine gk_get hK.1 hK.2.2.1.1 hP (k := 2) f_2 rfl inlJx4a65c (by decide) q_12_14 (fun _ h => h) rfl dJx4a65c_fastRemove_b59b0_11 ?_
  refine lv_iconst (v := 1) hK.1.1 hK.1.2.1 dJx4a65c_fastRemove_b59b0_14 (by decide) ?_
  refine lv_isub hK.1.1 hK.1.2.1 dJx4a65c_fastRemove_b59b0_15 ?_
  rw [nI_pred]
  refine lv_dup hK.1.1 hK.1.2.1 dJx4a65c_fastRemove_b59b0_16 rfl ?_
  refine lv_istore_n (lv' := [(3, .int (nI n)), (0, .ref la), (1, .ref ed), (2, .int (nI k))]) hK.1.1 hK.1.2.1 dJx4a65c_fastRemove_b59b0_17 rfl hl (by decide) rfl (fun ls hl => ?_)
  refine lv_iload_n hK.1.1 hK.1.2.1 dJx4a65c_fastRemove_b59b0_18 rfl (lv_at hl 3 rfl) ?_
  refine lv_icmp_le (tgt := 34) hK.1.1 hK.1.2.1 dJx4a65c_fastRemove_b59b0_19 (by decide) (fun c19_4 => ?_) (fun c19_4 => ?_)
  · refine lv_aload_n hK.1.1 hK.1.2.1 dJx4a65c_fastRemove_b59b0_34 rfl (lv_at hl 2 rfl) ?_
    refine lv_aload_n hK.1.1 hK.1.2.1 dJx4a65c_fastRemove_b59b0_35 rfl (lv_at hl 1 rfl) ?_
    refine lv_iload_n hK.1.1 hK.1.2.1 dJx4a65c_fastRemove_b59b0_36 rfl (lv_at hl 0 rfl) ?_
    refine lv_dup_x1 hK.1.1 hK.1.2.1 dJx4a65c_fastRemove_b59b0_37 rfl rfl ?_
    refine gk_put hK.1 hK.2.2.1.1 hP hS (k := 2) f_2 rfl inlJx4a65c tyJx4a65c tyJx4a65c_ok nmJx4a65c (by decide) q_12_14 (fun _ h => h) rfl rfl rfl (Nat.le_of_ble_eq_true rfl) dJx4a65c_fastRemove_b59b0_38 (fun H locs hP hS => ?_)
    obtain ⟨G_5, hG_5⟩ : ∃ z, z = gk_up G_1 la (.inr (0, [.int (mc + 1), .ref ed, .int (nI n)])) := ⟨_, rfl⟩
    have hP : gk_P (ly_D y) A G_5 H := by rw [hG_5]; exact hP
    have f_6 : G_5 la = some (.inr (0, [.int (mc + 1), .ref ed, .int (nI n)])) := by rw [hG_5]; exact gk_us _ _ _
    have k_7 : G_5 ed = some (rp_r (ly_k y 6) cap g) := by rw [hG_5]; exact gk_keep f_2 k_3 (fun h => by cases h)
    refine lv_null hK.1.1 hK.1.2.1 dJx4a65c_fastRemove_b59b0_41 ?_
    refine gk_aastN hK.1 hK.2.2.1.1 hP hS 6 (C := "java/lang/Object") k_7 rfl (vp_in_nI (show n < cap by omega) (by omega)) dJx4a65c_fastRemove_b59b0_42 (fun H locs hP hS => ?_)
    rw [nI_clamp (by omega)] at hP
    obtain ⟨G_8, hG_8⟩ : ∃ z, z = gk_up G_5 ed (rp_r (ly_k y 6) cap (va_up g n none)) := ⟨_, rfl⟩
    have hP : gk_P (ly_D y) A G_8 H := by rw [hG_8]; exact hP
    have f_9 : G_8 ed = some (rp_r (ly_k y 6) cap (va_up g n none)) := by rw [hG_8]; exact gk_us _ _ _
    have k_10 : G_8 la = some (.inr (0, [.int (mc + 1), .ref ed, .int (nI n)])) := by rw [hG_8]; exact gk_keep k_7 f_6 (fun h => by cases h)
    exact gk_vret0 hK.1 hret hlk hP hS (Nat.le_of_ble_eq_true rfl) (Nat.le_of_ble_eq_true rfl) dJx4a65c_fastRemove_b59b0_43 ⟨rfl, _, k_10, f_9, fun j hj => by rw [va_up_ne _ _ (by omega), if_pos (by have := (nI_leI (by omega) (by omega)).mp c19_4; omega)], fun b e hb1 hb2 hb3 => by rw [hG_8, gk_un _ _ hb2]; rw [hG_5, gk_un _ _ hb1]; rw [hG_1, gk_un _ _ hb1]; exact hb3⟩
  · refine lv_aload_n hK.1.1 hK.1.2.1 dJx4a65c_fastRemove_b59b0_22 rfl (lv_at hl 2 rfl) ?_
    refine lv_iload_n hK.1.1 hK.1.2.1 dJx4a65c_fastRemove_b59b0_23 rfl (lv_at hl 3 rfl) ?_
    refine lv_iconst (v := 1) hK.1.1 hK.1.2.1 dJx4a65c_fastRemove_b59b0_24 (by decide) ?_
    refine lv_iadd hK.1.1 hK.1.2.1 dJx4a65c_fastRemove_b59b0_25 ?_
    rw [nI_1]
    refine lv_aload_n hK.1.1 hK.1.2.1 dJx4a65c_fastRemove_b59b0_26 rfl (lv_at hl 2 rfl) ?_
    refine lv_iload_n hK.1.1 hK.1.2.1 dJx4a65c_fastRemove_b59b0_27 rfl (lv_at hl 3 rfl) ?_
    refine lv_iload_n hK.1.1 hK.1.2.1 dJx4a65c_fastRemove_b59b0_28 rfl (lv_at hl 0 rfl) ?_
    refine lv_iload_n hK.1.1 hK.1.2.1 dJx4a65c_fastRemove_b59b0_29 rfl (lv_at hl 3 rfl) ?_
    refine lv_isub hK.1.1 hK.1.2.1 dJx4a65c_fastRemove_b59b0_30 ?_
    rw [pk_sub hk]
    have hkn : k < n := Nat.lt_of_not_le (fun h => c19_4 (nI_le h (by omega)))
    refine gk_copy hK.1 (hK.2.1.trans hl.1.symm) q_16_18 q_14_16 q_14_17 q_14_18 hK.2.2.1.1 hP hS 6 k_3 k_3 rfl (nI_pos (by omega)) (nI_pos (by omega)) (nI_pos (by omega)) (by rw [nI_clamp (by omega), nI_clamp (by omega)]; omega) (by rw [nI_clamp (by omega), nI_clamp (by omega)]; omega) (fun i hi y1 hy1 => ?_) (Nat.le_of_ble_eq_true rfl) (by first | decide | decide +kernel) dJx4a65c_fastRemove_b59b0_31 (fun H locs hP hS => ?_)
    · rw [nI_clamp (by omega)] at hy1
      rw [nI_clamp (by omega)] at hi
      obtain ⟨vs, hvs⟩ := hel (k + 1 + i) (by omega) y1 hy1
      exact ⟨3, _, vs, by rw [hG_1]; exact gk_keep hL hvs (fun h => by cases h), rfl, gl_asg hK.2.2.1⟩
    rw [nI_clamp (by omega), nI_clamp (by omega), nI_clamp (by omega)] at hP
    obtain ⟨G_11, hG_11⟩ : ∃ z, z = gk_up G_1 ed (rp_r (ly_k y 6) cap (va_cpy g g (k + 1) k (n - k))) := ⟨_, rfl⟩
    have hP : gk_P (ly_D y) A G_11 H := by rw [hG_11]; exact hP
    have f_12 : G_11 ed = some (rp_r (ly_k y 6) cap (va_cpy g g (k + 1) k (n - k))) := by rw [hG_11]; exact gk_us _ _ _
    have k_13 : G_11 la = some (.inr (0, [.int (mc + 1), .ref ed, .int (nI (n + 1))])) := by rw [hG_11]; exact gk_keep k_3 f_2 (fun h => by cases h)
    refine lv_aload_n hK.1.1 hK.1.2.1 dJx4a65c_fastRemove_b59b0_34 rfl (lv_at hl 2 rfl) ?_
    refine lv_aload_n hK.1.1 hK.1.2.1 dJx4a65c_fastRemove_b59b0_35 rfl (lv_at hl 1 rfl) ?_
    refine lv_iload_n hK.1.1 hK.1.2.1 dJx4a65c_fastRemove_b59b0_36 rfl (lv_at hl 0 rfl) ?_
    refine lv_dup_x1 hK.1.1 hK.1.2.1 dJx4a65c_fastRemove_b59b0_37 rfl rfl ?_
    refine gk_put hK.1 hK.2.2.1.1 hP hS (k := 2) k_13 rfl inlJx4a65c tyJx4a65c tyJx4a65c_ok nmJx4a65c (by decide) q_12_14 (fun _ h => h) rfl rfl rfl (Nat.le_of_ble_eq_true rfl) dJx4a65c_fastRemove_b59b0_38 (fun H locs hP hS => ?_)
    obtain ⟨G_14, hG_14⟩ : ∃ z, z = gk_up G_11 la (.inr (0, [.int (mc + 1), .ref ed, .int (nI n)])) := ⟨_, rfl⟩
    have hP : gk_P (ly_D y) A G_14 H := by rw [hG_14]; exact hP
    have f_15 : G_14 la = some (.inr (0, [.int (mc + 1), .ref ed, .int (nI n)])) := by rw [hG_14]; exact gk_us _ _ _
    have k_16 : G_14 ed = some (rp_r (ly_k y 6) cap (va_cpy g g (k + 1) k (n - k))) := by rw [hG_14]; exact gk_keep k_13 f_12 (fun h => by cases h)
    refine lv_null hK.1.1 hK.1.2.1 dJx4a65c_fastRemove_b59b0_41 ?_
    refine gk_aastN hK.1 hK.2.2.1.1 hP hS 6 (C := "java/lang/Object") k_16 rfl (vp_in_nI (show n < cap by omega) (by omega)) dJx4a65c_fastRemove_b59b0_42 (fun H locs hP hS => ?_)
    rw [nI_clamp (by omega)] at hP
    obtain ⟨G_17, hG_17⟩ : ∃ z, z = gk_up G_14 ed (rp_r (ly_k y 6) cap (va_up (va_cpy g g (k + 1) k (n - k)) n none)) := ⟨_, rfl⟩
    have hP : gk_P (ly_D y) A G_17 H := by rw [hG_17]; exact hP
    have f_18 : G_17 ed = some (rp_r (ly_k y 6) cap (va_up (va_cpy g g (k + 1) k (n - k)) n none)) := by rw [hG_17]; exact gk_us _ _ _
    have k_19 : G_17 la = some (.inr (0, [.int (mc + 1), .ref ed, .int (nI n)])) := by rw [hG_17]; exact gk_keep k_16 f_15 (fun h => by cases h)
    exact gk_vret0 hK.1 hret hlk hP hS (Nat.le_of_ble_eq_true rfl) (Nat.le_of_ble_eq_true rfl) dJx4a65c_fastRemove_b59b0_43 ⟨rfl, _, k_19, f_18, fun j hj => by rw [va_up_ne _ _ (by omega)]; split; exact pk_cpy_out (Or.inl (by omega)); (rw [pk_cpy_in (by omega) (by omega)]; congr 1; omega), fun b e hb1 hb2 hb3 => by rw [hG_17, gk_un _ _ hb2]; rw [hG_14, gk_un _ _ hb1]; rw [hG_11, gk_un _ _ hb2]; rw [hG_1, gk_un _ _ hb1]; exact hb3⟩
set_option maxHeartbeats 4000000 in
set_option maxRecDepth 100000 in
theorem c_Jx4a65c_remove_915e3 (l : Launch) {y : ly_T} {A : Nat → Prop} {G : gk_G} {mc : Int32} {la ed n k cap t : Nat} {g : Nat → Option Nat} (hL : G la = some (.inr (0, [.int mc, .ref ed, .int (nI (n + 1))]))) (hE : G ed = some (rp_r (ly_k y 6) cap g)) (hk : k ≤ n) (hnc : n + 1 ≤ cap) (hcap : cap ≤ 1500) (hel : ∀ i, i < n + 1 → ∀ t, g i = some t → gl_pt G t) (hgk : g k = some t) : gk_M0 l yJx4a65c_remove_915e3 (Cond.code yJx4a65c_remove_915e3 cJx4a65c_remove_915e3 4 (some (.object "java/lang/Object"))) 2 90 0 0 y A [.ref la, .int (nI k)] G (fun v G1 => v = some (.ref t) ∧ ∃ g2, G1 la = some (.inr (0, [.int (mc + 1), .ref ed, .int (nI n)])) ∧ G1 ed = some (rp_r (ly_k y 6) cap g2) ∧ (∀ j, j < n → g2 j = if j < k then g j else g (j + 1)) ∧ ∀ b e, b ≠ la → b ≠ ed → G b = some e → G1 b = some e) := by
  refine gk_of0 (cc := cJx4a65c_remove_915e3) (maxL := 4) (ret := (some (.object "java/lang/Object"))) (own := RJx4a65c) (by decide +kernel) rfl rfl (Nat.le_of_ble_eq_true rfl) ?_
  intro p e s m below meth c ls hK hret hlk _ hP hS hl
  have hl : lv_has ls 4 [(0, .ref la), (1, .int (nI k))] := hl
  refine lv_iload_n hK.1.1 hK.1.2.1 dJx4a65c_remove_915e3_0 rfl (lv_at hl 1 rfl) ?_
  refine lv_aload_n hK.1.1 hK.1.2.1 dJx4a65c_remove_915e3_1 rfl (lv_at hl 0 rfl) ?_
  refine gk_get hK.1 hK.2.2.1.1 hP (k := 2) hL rfl inlJx4a65c (by decide) q_12_14 (fun _ h => h) rfl dJx4a65c_remove_915e3_2 ?_
  refine gk_callS0 (n := 2) (As := [.int (nI k), .int (nI (n + 1))]) (rest := []) hK (c_J15_checkIndex_7cf53 l (nI_pos (by omega)) (nI_lt (show k < n + 1 by omega) (by omega))) (gk_gS q_15_9 q_15_10 q_15_11 q_15_12) ⟨by decide +kernel, by decide +kernel, by decide +kernel⟩ ⟨(Nat.le_of_ble_eq_true rfl), (Nat.le_of_ble_eq_true rfl)⟩ hP hS rfl hl.1 rfl (Nat.le_of_ble_eq_true rfl) dJx4a65c_remove_915e3_5 ⟨(Nat.le_of_ble_eq_true rfl), (Nat.le_of_ble_eq_true rfl)⟩ (fun v G1 H locs hw hP hS => ?_)
  obtain ⟨rfl, hG9⟩ := hw
  rw [hG9] at hP
  refine W.eq (g2 := F0 m 8 ls [.int (nI k)]) rfl ?_
  refine lv_pop hK.1.1 hK.1.2.1 dJx4a65c_remove_915e3_8 rfl ?_
  refine lv_aload_n hK.1.1 hK.1.2.1 dJx4a65c_remove_915e3_9 rfl (lv_at hl 0 rfl) ?_
  refine gk_get hK.1 hK.2.2.1.1 hP (k := 1) hL rfl inlJx4a65c (by decide) q_3_3 (fun _ h => h) rfl dJx4a65c_remove_915e3_10 ?_
  refine lv_astore_n (lv' := [(2, .ref ed), (0, .ref la), (1, .int (nI k))]) hK.1.1 hK.1.2.1 dJx4a65c_remove_915e3_13 rfl hl (by decide) rfl (fun ls hl => ?_)
  refine lv_aload_n hK.1.1 hK.1.2.1 dJx4a65c_remove_915e3_14 rfl (lv_at hl 0 rfl) ?_
  refine lv_iload_n hK.1.1 hK.1.2.1 dJx4a65c_remove_915e3_15 rfl (lv_at hl 2 rfl) ?_
  refine gk_aald hK.1 hK.2.2.1.1 hP 6 (C := "java/lang/Object") hE rfl (vp_in_nI (show k < cap by omega) (by omega)) dJx4a65c_remove_915e3_16 ?_
  rw [nI_clamp (by omega)]
  rw [hgk]
  refine W.eq (g2 := F0 m 17 ls [.ref t]) rfl ?_
  refine lv_astore_n (lv' := [(3, .ref t), (2, .ref ed), (0, .ref la), (1, .int (nI k))]) hK.1.1 hK.1.2.1 dJx4a65c_remove_915e3_17 rfl hl (by decide) rfl (fun ls hl => ?_)
  refine lv_aload_n hK.1.1 hK.1.2.1 dJx4a65c_remove_915e3_18 rfl (lv_at hl 2 rfl) ?_
  refine lv_aload_n hK.1.1 hK.1.2.1 dJx4a65c_remove_915e3_19 rfl (lv_at hl 1 rfl) ?_
  refine lv_iload_n hK.1.1 hK.1.2.1 dJx4a65c_remove_915e3_20 rfl (lv_at hl 3 rfl) ?_
  refine gk_callV0 (n := 2) (As := [.ref ed, .int (nI k)]) (rest := []) hK (c_Jx4a65c_fastRemove_b59b0 l hL hE hk hnc hcap hel) (gk_gV q_16_14 q_16_15 q_16_16 q_2_15 q_16_17) ⟨rfl, by decide +kernel, by decide +kernel, by decide +kernel⟩ ⟨(Nat.le_of_ble_eq_true rfl), (Nat.le_of_ble_eq_true rfl)⟩ hP hS (gk_recv hK.2.2.1.1 hP hL rfl) rfl hl.1 rfl (Nat.le_of_ble_eq_true rfl) dJx4a65c_remove_915e3_21 ⟨(Nat.le_of_ble_eq_true rfl), (Nat.le_of_ble_eq_true rfl)⟩ (fun v G1 H locs hw hP hS => ?_)
  obtain ⟨rfl, g2, a1, a2, a3, a4⟩ := hw
  refine W.eq (g2 := F0 m 24 ls []) rfl ?_
  refine lv_aload_n hK.1.1 hK.1.2.1 dJx4a65c_remove_915e3_24 rfl (lv_at hl 0 rfl) ?_
  exact gk_aret0 hK.1 hret (by first | exact Or.inl ⟨_, rfl⟩ | exact Or.inr ⟨_, rfl⟩) (by first | exact Or.inr ⟨_, rfl⟩ | exact Or.inl rfl | exact va_rf_or _) hlk hP hS (Nat.le_of_ble_eq_true rfl) (Nat.le_of_ble_eq_true rfl) dJx4a65c_remove_915e3_25 ⟨rfl, g2, a1, a2, a3, a4⟩
end
section
/-! the class's lists over 'rp' -/
theorem gk_M0w {l : Launch} {y : ly_T} {A : Nat → Prop} {G : gk_G} {yy : MethodName} {w : Cond} {fr lo mc ms : Nat} {av : List Value} {post post2 : Option Value → gk_G → Prop} (h : gk_M0 l yy w fr lo mc ms y A av G post) (hq : ∀ (v : Option Value) (G1 : gk_G), G (ly_a y 6) = none → post v G1 → post2 v G1) : gk_M0 l yy w fr lo mc ms y A av G post2 := by
  unfold gk_M0 Met at h ⊢
  refine MetFree.mono h (fun _ _ h => h) (fun _ _ _ _ _ h => h) (fun a s o s' hp hx => ?_)
  obtain ⟨-, -, hV, hP⟩ := hp
  obtain ⟨⟨⟨v, G1, h1, h2, h3⟩, h4⟩, h5⟩ := hx
  have hn : G (ly_a y 6) = none := by
    cases hg : G (ly_a y 6) with
    | none => rfl
    | some e => exact absurd (hP _ _ hg).1 hV.2.2.2.2.2.2.out
  exact ⟨⟨⟨v, G1, h1, hq v G1 hn h2, h3⟩, h4⟩, h5⟩
theorem rp_mono {y : ly_T} {G G1 : gk_G} {td : Int32} {ru : Nat → Nat → Int32} {fr lv : Nat → Nat} {lt et tl : Nat → Int32} {hf hp : Nat → Option Nat} {ol ol1 : Nat → List Nat} {PS : Nat → Prop} {pf : Nat → Nat → Int32} {ov : Int64} {md mq mt : Int32} {mv : Nat → Nat → Int32} (hR : rp y G td ru fr lv lt et tl hf hp ol PS pf ov md mq mt mv)
    (hk : ∀ b e, G b = some e → rp_kd e ≠ 0 → (rp_kd e ≠ 14 ∨ b = ly_a y 1 ∨ b = ly_a y 2 ∨ b = ly_a y 3) → G1 b = some e) (hL : rpL y G1 ol1) : rp y G1 td ru fr lv lt et tl hf hp ol1 PS pf ov md mq mt mv := by
  obtain ⟨hA, ⟨⟨g1, b1, c1⟩, ⟨g2, b2, c2⟩, g3, b3, c3⟩, hRr, hF, hH, -, hS, ⟨fo, ho1, ho2⟩, hM⟩ := hR
  refine ⟨hk _ _ hA (by show 5 ≠ 0; decide) (Or.inl (by show 5 ≠ 14; decide)), ⟨⟨g1, hk _ _ b1 (by show 14 ≠ 0; decide) (Or.inr (Or.inl rfl)), c1⟩, ⟨g2, hk _ _ b2 (by show 14 ≠ 0; decide) (Or.inr (Or.inr (Or.inl rfl))), c2⟩, g3, hk _ _ b3 (by show 14 ≠ 0; decide) (Or.inr (Or.inr (Or.inr rfl))), c3⟩,
    fun r hr => hk _ _ (hRr r hr) (by show 4 ≠ 0; decide) (Or.inl (by show 4 ≠ 14; decide)), fun f hf => ⟨(hF f hf).1, hk _ _ (hF f hf).2 (by show 2 ≠ 0; decide) (Or.inl (by show 2 ≠ 14; decide))⟩, ⟨fun k hk4 => ⟨(hH.1 k hk4).1, hk _ _ (hH.1 k hk4).2 (by show 1 ≠ 0; decide) (Or.inl (by show 1 ≠ 14; decide))⟩, hH.2⟩, hL,
    fun t ht => hk _ _ (hS t ht) (by show 3 ≠ 0; decide) (Or.inl (by show 3 ≠ 14; decide)), ⟨fo, hk _ _ ho1 (by show 11 ≠ 0; decide) (Or.inl (by show 11 ≠ 14; decide)), ho2⟩, hk _ _ hM.1 (by show 6 ≠ 0; decide) (Or.inl (by show 6 ≠ 14; decide)), fun k hk2 => hk _ _ (hM.2.1 k hk2) (by show 10 ≠ 0; decide) (Or.inl (by show 10 ≠ 14; decide)), hM.2.2⟩
theorem rp_lset {y : ly_T} {G : gk_G} {td : Int32} {ru : Nat → Nat → Int32} {fr lv : Nat → Nat} {lt et tl : Nat → Int32} {hf hp : Nat → Option Nat} {ol : Nat → List Nat} {PS : Nat → Prop} {pf : Nat → Nat → Int32} {ov : Int64} {md mq mt : Int32} {mv : Nat → Nat → Int32} (hR : rp y G td ru fr lv lt et tl hf hp ol PS pf ov md mq mt mv) {f : Nat} (hf5 : f < 5) {mc : Int32} {ed n : Nat} (hg : G (ly_f y 3 f) = some (.inr (0, [.int mc, .ref ed, .int (nI n)]))) (hn : n = (ol f).length) (hl : rp_list y G ed (ol f)) (ea : Nat → Nat) (mcs : Nat → Int32) (hall : ∀ f, f < 5 → G (ly_f y 3 f) = some (.inr (0, [.int (mcs f), .ref (ea f), .int (nI (ol f).length)])) ∧ rp_list y G (ea f) (ol f)) (hdis : ∀ f k, f < 5 → k < 5 → f ≠ k → ea f = ea k → ea f = ly_a y 6) (he : ea f = ed) (he0 : G (ly_a y 6) = none)
    {G1 : gk_G} {mc1 : Int32} {ed1 cap1 : Nat} {g1 : Nat → Option Nat} {l1 : List Nat} (h1 : G1 (ly_f y 3 f) = some (.inr (0, [.int mc1, .ref ed1, .int (nI l1.length)]))) (h2 : l1.length ≤ 1000) (h3 : G1 ed1 = some (rp_r (ly_k y 6) cap1 g1)) (h4 : cap1 ≤ 1500 ∧ l1.length ≤ cap1 ∧ 0 < cap1 ∧ ∀ k, k < l1.length → g1 k = l1[k]?) (h5 : ed1 = ed ∨ G ed1 = none) (h6 : ∀ b e, b ≠ ly_f y 3 f → b ≠ ed1 → G b = some e → G1 b = some e) : rp y G1 td ru fr lv lt et tl hf hp (va_up ol f l1) PS pf ov md mq mt mv := by
  have hB := hR.2.1
  have hne : ed1 ≠ ly_a y 1 ∧ ed1 ≠ ly_a y 2 ∧ ed1 ≠ ly_a y 3 := by
    rcases h5 with h5 | h5
    · rw [h5]; exact hl.2.1
    · obtain ⟨⟨g1, b1, -⟩, ⟨g2, b2, -⟩, g3, b3, -⟩ := hB
      exact ⟨fun z => (by rw [z, b1] at h5; cases h5), fun z => (by rw [z, b2] at h5; cases h5), fun z => (by rw [z, b3] at h5; cases h5)⟩
  have hed : ∀ e, G ed1 = some e → rp_kd e = 14 ∧ ed1 = ed := fun e hz => by
    rcases h5 with h5 | h5
    · refine ⟨?_, h5⟩
      rw [h5] at hz
      rcases hl.2.2 with ⟨-, q⟩ | ⟨cap, g, q, -⟩
      · rw [q, he0] at hz; cases hz
      · rw [q] at hz; cases hz; rfl
    · rw [h5] at hz; cases hz
  refine rp_mono hR (fun b e hb hk0 hk14 => h6 b e (fun z => ?_) (fun z => ?_) hb) ⟨⟨fun k => if k = f then ed1 else ea k, fun k => if k = f then mc1 else mcs k, fun k hk => ?_, fun j k hj hk hjk hz => ?_⟩, hR.2.2.2.2.2.1.2⟩
  · rw [z, hg] at hb; cases hb; exact hk0 rfl
  · rw [z] at hb hk14
    rcases hk14 with h | h | h | h
    · exact h (hed e hb).1
    · exact hne.1 h
    · exact hne.2.1 h
    · exact hne.2.2 h
  · by_cases hkf : k = f
    · subst hkf
      simp only [if_pos, va_up_self]
      exact ⟨h1, h2, hne, Or.inr ⟨cap1, g1, h3, h4⟩⟩
    · simp only [if_neg hkf, va_up_ne _ _ hkf]
      obtain ⟨a1, a2, a3, a4⟩ := hall k hk
      refine ⟨h6 _ _ (fun z => hkf (hR.2.2.2.2.2.1.2 k f hk hf5 z)) (fun z => ?_) a1, a2, a3, ?_⟩
      · rw [z] at a1
        exact absurd (hed _ a1).1 (by show 0 ≠ 14; decide)
      · rcases a4 with a4 | ⟨cap, g, b1, b2⟩
        · exact Or.inl a4
        · refine Or.inr ⟨cap, g, h6 _ _ (fun z => ?_) (fun z => ?_) b1, b2⟩
          · rw [z, hg] at b1; cases b1
          · have b3 := b1
            rw [z] at b1
            have b4 := hdis k f hk hf5 hkf (by rw [he, z]; exact (hed _ b1).2)
            rw [b4, he0] at b3
            cases b3
  · simp only at hz ⊢
    by_cases hjf : j = f
    · subst hjf
      rw [if_neg (Ne.symm hjk)] at hz
      rw [if_pos rfl] at hz ⊢
      rcases h5 with h5 | h5
      · rw [h5, ← he] at hz ⊢
        exact hdis j k hj hk hjk hz
      · obtain ⟨-, -, -, a4⟩ := hall k hk
        rcases a4 with ⟨-, q⟩ | ⟨cap, g, q, -⟩
        · rw [hz, q]
        · rw [← hz, h5] at q; cases q
    · rw [if_neg hjf] at hz ⊢
      by_cases hkf : k = f
      · subst hkf
        rw [if_pos rfl] at hz
        rcases h5 with h5 | h5
        · rw [h5, ← he] at hz
          exact hdis j k hj hk hjk hz
        · obtain ⟨-, -, -, a4⟩ := hall j hj
          rcases a4 with ⟨-, q⟩ | ⟨cap, g, q, -⟩
          · exact q
          · rw [hz, h5] at q; cases q
      · rw [if_neg hkf] at hz
        exact hdis j k hj hk hjk hz
theorem c_list_size (l : Launch) {y : ly_T} {A : Nat → Prop} {G : gk_G} {td : Int32} {ru : Nat → Nat → Int32} {fr lv : Nat → Nat} {lt et tl : Nat → Int32} {hf hp : Nat → Option Nat} {ol : Nat → List Nat} {PS : Nat → Prop} {pf : Nat → Nat → Int32} {ov : Int64} {md mq mt : Int32} {mv : Nat → Nat → Int32} (hR : rp y G td ru fr lv lt et tl hf hp ol PS pf ov md mq mt mv) {f : Nat} (hf5 : f < 5) : gk_M0 l yJx4a65c_size_8abf5 (Cond.code yJx4a65c_size_8abf5 cJx4a65c_size_8abf5 1 (some .int)) 0 0 0 0 y A [.ref (ly_f y 3 f)] G (fun v G1 => v = some (.int (nI (ol f).length)) ∧ G1 = G) := by
  obtain ⟨⟨ea, mc, h1, h2⟩, h3⟩ := hR.2.2.2.2.2.1
  exact c_Jx4a65c_size_8abf5 l (h1 f hf5).1
theorem c_list_get (l : Launch) {y : ly_T} {A : Nat → Prop} {G : gk_G} {td : Int32} {ru : Nat → Nat → Int32} {fr lv : Nat → Nat} {lt et tl : Nat → Int32} {hf hp : Nat → Option Nat} {ol : Nat → List Nat} {PS : Nat → Prop} {pf : Nat → Nat → Int32} {ov : Int64} {md mq mt : Int32} {mv : Nat → Nat → Int32} (hR : rp y G td ru fr lv lt et tl hf hp ol PS pf ov md mq mt mv) {f : Nat} (hf5 : f < 5) {k t : Nat} (hk : (ol f)[k]? = some t) : gk_M0 l yJx4a65c_get_915e3 (Cond.code yJx4a65c_get_915e3 cJx4a65c_get_915e3 2 (some (.object "java/lang/Object"))) 2 60 0 0 y A [.ref (ly_f y 3 f), .int (nI k)] G (fun v G1 => v = some (.ref t) ∧ G1 = G) := by
  obtain ⟨⟨ea, mc, h1, h2⟩, h3⟩ := hR.2.2.2.2.2.1
  obtain ⟨a1, a2, a3, a4⟩ := h1 f hf5
  have hkl := (List.getElem?_eq_some_iff.mp hk).1
  rcases a4 with ⟨a4, -⟩ | ⟨cap, g, b1, b2, b3, b4, b5⟩
  · rw [a4] at hkl; exact absurd hkl (Nat.not_lt_zero _)
  · have h9 := c_Jx4a65c_get_915e3 (A := A) l a1 b1 b2 hkl b3
    rw [b5 k hkl, hk] at h9
    exact h9
theorem c_list_add (l : Launch) {y : ly_T} {A : Nat → Prop} {G : gk_G} {td : Int32} {ru : Nat → Nat → Int32} {fr lv : Nat → Nat} {lt et tl : Nat → Int32} {hf hp : Nat → Option Nat} {ol : Nat → List Nat} {PS : Nat → Prop} {pf : Nat → Nat → Int32} {ov : Int64} {md mq mt : Int32} {mv : Nat → Nat → Int32} (hR : rp y G td ru fr lv lt et tl hf hp ol PS pf ov md mq mt mv) {f : Nat} (hf5 : f < 5) {t : Nat} (hin : ∀ q ∈ ol f, PS q) (ht : PS t) (hlen : (ol f).length ≤ 999) : gk_M0 l yJx4a65c_add_9ea2d (Cond.code yJx4a65c_add_9ea2d cJx4a65c_add_9ea2d 2 (some .boolean)) 6 210 1 1500 y A [.ref (ly_f y 3 f), .ref t] G (fun v G1 => v = some (.int 1) ∧ rp y G1 td ru fr lv lt et tl hf hp (va_up ol f (ol f ++ [t])) PS pf ov md mq mt mv) := by
  obtain ⟨⟨ea, mc, h1, h2⟩, h3⟩ := hR.2.2.2.2.2.1
  obtain ⟨a1, a2, a3, a4⟩ := h1 f hf5
  have hpt : ∀ q, PS q → gl_pt G q := fun q hq => ⟨_, hR.2.2.2.2.2.2.1 q hq⟩
  have key : ∀ (g : Nat → Option Nat), (((ol f).length = 0 ∧ ea f = ly_a y 6) ∨ ∃ cap, G (ea f) = some (rp_r (ly_k y 6) cap g) ∧ (ol f).length ≤ cap ∧ 0 < cap ∧ cap ≤ 1500) → (∀ k, k < (ol f).length → g k = (ol f)[k]?) → gk_M0 l yJx4a65c_add_9ea2d (Cond.code yJx4a65c_add_9ea2d cJx4a65c_add_9ea2d 2 (some .boolean)) 6 210 1 1500 y A [.ref (ly_f y 3 f), .ref t] G (fun v G1 => v = some (.int 1) ∧ rp y G1 td ru fr lv lt et tl hf hp (va_up ol f (ol f ++ [t])) PS pf ov md mq mt mv) := by
    intro g hF hg
    refine gk_M0w (c_Jx4a65c_add_9ea2d l a1 hF hlen (fun i hi q hq => hpt q (hin q ?_)) (hpt t ht)) (fun v G1 he0 hw => ?_)
    · rw [hg i hi] at hq
      exact List.mem_of_getElem? hq
    · obtain ⟨rfl, ed2, cap2, g2, c1, c2, c3, c4, c5, c6, c7, c8⟩ := hw
      have hl : (ol f ++ [t]).length = (ol f).length + 1 := by simp
      refine ⟨rfl, rp_lset hR hf5 a1 rfl ⟨a2, a3, a4⟩ ea mc h1 h2 rfl he0 (by rw [hl]; exact c1) (by omega) c2 ⟨c4, by omega, by omega, fun k hk => ?_⟩ c7 c8⟩
      rw [hl] at hk
      by_cases hkn : k < (ol f).length
      · rw [c6 k hkn, hg k hkn, List.getElem?_append_left hkn]
      · have : k = (ol f).length := by omega
        subst this
        rw [c5, List.getElem?_append_right (Nat.le_refl _), Nat.sub_self]
        rfl
  rcases a4 with ⟨a4, a5⟩ | ⟨cap, g, b1, b2, b3, b4, b5⟩
  · exact key (fun _ => none) (Or.inl ⟨by rw [a4]; rfl, a5⟩) (fun k hk => by rw [a4] at hk; exact absurd hk (Nat.not_lt_zero _))
  · exact key g (Or.inr ⟨cap, b1, b3, b4, b2⟩) b5
theorem c_list_remove (l : Launch) {y : ly_T} {A : Nat → Prop} {G : gk_G} {td : Int32} {ru : Nat → Nat → Int32} {fr lv : Nat → Nat} {lt et tl : Nat → Int32} {hf hp : Nat → Option Nat} {ol : Nat → List Nat} {PS : Nat → Prop} {pf : Nat → Nat → Int32} {ov : Int64} {md mq mt : Int32} {mv : Nat → Nat → Int32} (hR : rp y G td ru fr lv lt et tl hf hp ol PS pf ov md mq mt mv) {f : Nat} (hf5 : f < 5) {k t : Nat} (hin : ∀ q ∈ ol f, PS q) (hk : (ol f)[k]? = some t) : gk_M0 l yJx4a65c_remove_915e3 (Cond.code yJx4a65c_remove_915e3 cJx4a65c_remove_915e3 4 (some (.object "java/lang/Object"))) 2 90 0 0 y A [.ref (ly_f y 3 f), .int (nI k)] G (fun v G1 => v = some (.ref t) ∧ rp y G1 td ru fr lv lt et tl hf hp (va_up ol f ((ol f).eraseIdx k)) PS pf ov md mq mt mv) := by
  obtain ⟨⟨ea, mc, h1, h2⟩, h3⟩ := hR.2.2.2.2.2.1
  obtain ⟨a1, a2, a3, a4⟩ := h1 f hf5
  have hkl := (List.getElem?_eq_some_iff.mp hk).1
  obtain ⟨n, hn⟩ : ∃ n, (ol f).length = n + 1 := ⟨(ol f).length - 1, by omega⟩
  have a4' := a4
  rcases a4 with ⟨a4, -⟩ | ⟨cap, g, b1, b2, b3, b4, b5⟩
  · rw [a4] at hkl; exact absurd hkl (Nat.not_lt_zero _)
  · have hl : ((ol f).eraseIdx k).length = n := by rw [List.length_eraseIdx_of_lt hkl]; omega
    refine gk_M0w (c_Jx4a65c_remove_915e3 (A := A) l (by rw [hn] at a1; exact a1) b1 (by omega) (by omega) b2 (fun i hi q hq => ⟨_, hR.2.2.2.2.2.2.1 q (hin q ?_)⟩) (by rw [b5 k hkl]; exact hk)) (fun v G1 he0 hw => ?_)
    · rw [b5 i (by omega)] at hq
      exact List.mem_of_getElem? hq
    · obtain ⟨rfl, g2, c1, c2, c3, c4⟩ := hw
      refine ⟨rfl, rp_lset hR hf5 a1 rfl ⟨a2, a3, a4'⟩ ea mc h1 h2 rfl he0 (by rw [hl]; exact c1) (by omega) c2 ⟨b2, by omega, b4, fun j hj => ?_⟩ (Or.inl rfl) c4⟩
      rw [hl] at hj
      rw [c3 j hj, List.getElem?_eraseIdx]
      split
      · exact b5 j (by omega)
      · exact b5 (j + 1) (by omega)
end
section
/-! the class: what is held, squeezed, thrown away -/
theorem va_up_up {α : Type} (f : Nat → α) (k : Nat) (a b : α) : va_up (va_up f k a) k b = va_up f k b := by
  funext j
  simp only [va_up]
  split <;> rfl
theorem rp_recvL {y : ly_T} {s : State} {A : Nat → Prop} {H : Heap} {G : gk_G} {td : Int32} {ru : Nat → Nat → Int32} {fr lv : Nat → Nat} {lt et tl : Nat → Int32} {hf hp : Nat → Option Nat} {ol : Nat → List Nat} {PS : Nat → Prop} {pf : Nat → Nat → Int32} {ov : Int64} {md mq mt : Int32} {mv : Nat → Nat → Int32} (hV : gk_V y A s) (hP : gk_P (ly_D y) A G H) (hR : rp y G td ru fr lv lt et tl hf hp ol PS pf ov md mq mt mv) {f : Nat} (hf5 : f < 5) : ∃ cell : Cell, H[ly_f y 3 f]? = some cell ∧ cell.vm.isStatics = false ∧ s.vm.findClass RJx4a65c = some cell.cls := by
  obtain ⟨⟨ea, mc, h1, h2⟩, h3⟩ := hR.2.2.2.2.2.1
  exact gk_recv hV.1 hP (h1 f hf5).1 rfl
theorem rp_rinj {y : ly_T} {G : gk_G} {ru : Nat → Nat → Int32} (h : rpR y G ru) {a b : Nat} (ha : a < 3) (hb : b < 3) (he : ly_f y 0 a = ly_f y 0 b) : a = b := by
  have h1 := h a ha
  rw [he, h b hb] at h1
  simp only [rp_eR, Option.some.injEq, Sum.inr.injEq, Prod.mk.injEq, List.cons.injEq, Value.int.injEq, true_and] at h1
  exact ((nI_eq (by omega) (by omega)).mp h1.1).symm
/-- held by a holder -/
def t_held (hp : Nat → Option Nat) (t : Nat) : Bool := decide (hp 0 = some t ∨ hp 1 = some t ∨ hp 2 = some t ∨ hp 3 = some t)
/-- must go: the day, the day of its turn, the rule's least age, keep and greatest age; held; how many there are -/
def t_go (td d le kp gr : Int32) (held : Bool) (th : Int32) : Bool := !(decide (td - d < le)) && !held && (decide (kp < th) || (decide (¬ gr = 0) && decide (gr < td - d)))
/-- those of l that are not held are squeezed -/
def t_sq (hp : Nat → Option Nat) (pf : Nat → Nat → Int32) (l : List Nat) : Nat → Nat → Int32 := fun i t => if i = 2 ∧ t ∈ l ∧ t_held hp t = false then 1 else pf i t
theorem t_sq0 (hp : Nat → Option Nat) (pf : Nat → Nat → Int32) : t_sq hp pf [] = pf := by
  funext i t
  simp [t_sq]
theorem t_sq_h {hp : Nat → Option Nat} {pf : Nat → Nat → Int32} {l : List Nat} {k t : Nat} (hk : l[k]? = some t) (hh : t_held hp t = true) : t_sq hp pf (l.take (k + 1)) = t_sq hp pf (l.take k) := by
  funext i q
  have : l.take (k + 1) = l.take k ++ [t] := by rw [List.take_add_one, hk]; rfl
  simp only [t_sq, this, List.mem_append, List.mem_singleton]
  by_cases hq : q = t
  · subst hq; simp [hh]
  · simp [hq]
theorem t_sq_u {hp : Nat → Option Nat} {pf : Nat → Nat → Int32} {l : List Nat} {k t : Nat} (hk : l[k]? = some t) (hh : t_held hp t = false) : t_sq hp pf (l.take (k + 1)) = rp_u2 (t_sq hp pf (l.take k)) 2 t 1 := by
  funext i q
  have : l.take (k + 1) = l.take k ++ [t] := by rw [List.take_add_one, hk]; rfl
  simp only [t_sq, this, List.mem_append, List.mem_singleton, rp_u2]
  by_cases hq : q = t
  · subst hq
    by_cases hi : i = 2
    · subst hi; simp [hh]
    · simp [hi]
  · simp [hq]
/-- what stays and what goes of a list, when there are m of them -/
def t_kp (go : Nat → Nat → Bool) : Nat → List Nat → List Nat
  | _, [] => []
  | m, t :: r => if go t m = true then t_kp go (m - 1) r else t :: t_kp go m r
def t_th (go : Nat → Nat → Bool) : Nat → List Nat → List Nat
  | _, [] => []
  | m, t :: r => if go t m = true then t :: t_th go (m - 1) r else t_th go m r
def t_sum (pf : Nat → Nat → Int32) : Int32 → List Nat → Int32
  | x, [] => x
  | x, t :: r => t_sum pf (x + pf 0 t) r
def t_goF (td : Int32) (pf : Nat → Nat → Int32) (hp : Nat → Option Nat) (le kp gr : Int32) : Nat → Nat → Bool := fun t m => t_go td (pf 1 t) le kp gr (t_held hp t) (nI m)
theorem gl_mid (l r : List Nat) (t : Nat) : (l ++ t :: r)[l.length]? = some t := by simp
theorem gl_erase (l r : List Nat) (t : Nat) : (l ++ t :: r).eraseIdx l.length = l ++ r := by simp [List.eraseIdx_append]
set_option maxHeartbeats 4000000 in
set_option maxRecDepth 100000 in
theorem c_X4_isHeld (l : Launch) {y : ly_T} {A : Nat → Prop} {G : gk_G} {td : Int32} {ru : Nat → Nat → Int32} {fr lv : Nat → Nat} {lt et tl : Nat → Int32} {hf hp : Nat → Option Nat} {ol : Nat → List Nat} {PS : Nat → Prop} {pf : Nat → Nat → Int32} {ov : Int64} {md mq mt : Int32} {mv : Nat → Nat → Int32} {t : Nat}  (hR : rp y G td ru fr lv lt et tl hf hp ol PS pf ov md mq mt mv) : gk_M0 l yX4_isHeld (Cond.code yX4_isHeld cX4_isHeld 3 (some .boolean)) 0 0 0 0 y A [.ref (ly_a y 0), .ref t] G (fun v G1 => v = some (.int (rg_b (t_held hp t))) ∧ G1 = G) := by
  refine gk_of0 (cc := cX4_isHeld) (maxL := 3) (ret := (some .boolean)) (own := RX4) (by decide +kernel) rfl rfl (Nat.le_of_ble_eq_true rfl) ?_
  intro p e s m below meth c ls hK hret hlk _ hP hS hl
  have hl : lv_has ls 3 [(0, .ref (ly_a y 0)), (1, .ref t)] := hl
  refine lv_iconst (v := 0) hK.1.1 hK.1.2.1 dX4_isHeld_0 (by decide) ?_
  refine lv_istore_n (lv' := [(2, .int 0), (0, .ref (ly_a y 0)), (1, .ref t)]) hK.1.1 hK.1.2.1 dX4_isHeld_1 rfl hl (by decide) rfl (fun ls hl => ?_)
  refine lv_iload_n hK.1.1 hK.1.2.1 dX4_isHeld_2 rfl (lv_at hl 0 rfl) ?_
  refine lv_iconst (v := 4) hK.1.1 hK.1.2.1 dX4_isHeld_3 (by decide) ?_
  refine lv_icmp_ge (tgt := 28) hK.1.1 hK.1.2.1 dX4_isHeld_4 (by decide) (fun c => absurd c (by decide)) (fun _ => ?_)
  refine lv_aload_n hK.1.1 hK.1.2.1 dX4_isHeld_7 rfl (lv_at hl 1 rfl) ?_
  refine tr_23 hK hP hR dX4_isHeld_8 ?_
  refine lv_iload_n hK.1.1 hK.1.2.1 dX4_isHeld_11 rfl (lv_at hl 0 rfl) ?_
  refine ta_holders hK hP hR (i := 0) (by decide) dX4_isHeld_12 ?_
  refine tr_94 hK hP hR (by decide) dX4_isHeld_13 ?_
  refine lv_aload_n hK.1.1 hK.1.2.1 dX4_isHeld_16 rfl (lv_at hl 2 rfl) ?_
  refine lv_acmp_ne (rx := hp 0) (ry := some t) (tgt := 22) hK.1.1 hK.1.2.1 dX4_isHeld_17 (by decide) (fun c17_1 => ?_) (fun c17_1 => ?_)
  · refine lv_iinc (v := 1) (lv' := [(2, .int 1), (0, .ref (ly_a y 0)), (1, .ref t)]) hK.1.1 hK.1.2.1 dX4_isHeld_22 hl (k := 0) rfl (by decide) (by decide) rfl (fun ls hl => ?_)
    refine lv_goto (tgt := 2) hK.1.1 hK.1.2.1 dX4_isHeld_25 (by decide) ?_
    refine lv_iload_n hK.1.1 hK.1.2.1 dX4_isHeld_2 rfl (lv_at hl 0 rfl) ?_
    refine lv_iconst (v := 4) hK.1.1 hK.1.2.1 dX4_isHeld_3 (by decide) ?_
    refine lv_icmp_ge (tgt := 28) hK.1.1 hK.1.2.1 dX4_isHeld_4 (by decide) (fun c => absurd c (by decide)) (fun _ => ?_)
    refine lv_aload_n hK.1.1 hK.1.2.1 dX4_isHeld_7 rfl (lv_at hl 1 rfl) ?_
    refine tr_23 hK hP hR dX4_isHeld_8 ?_
    refine lv_iload_n hK.1.1 hK.1.2.1 dX4_isHeld_11 rfl (lv_at hl 0 rfl) ?_
    refine ta_holders hK hP hR (i := 1) (by decide) dX4_isHeld_12 ?_
    refine tr_94 hK hP hR (by decide) dX4_isHeld_13 ?_
    refine lv_aload_n hK.1.1 hK.1.2.1 dX4_isHeld_16 rfl (lv_at hl 2 rfl) ?_
    refine lv_acmp_ne (rx := hp 1) (ry := some t) (tgt := 22) hK.1.1 hK.1.2.1 dX4_isHeld_17 (by decide) (fun c17_2 => ?_) (fun c17_2 => ?_)
    · refine lv_iinc (v := 2) (lv' := [(2, .int 2), (0, .ref (ly_a y 0)), (1, .ref t)]) hK.1.1 hK.1.2.1 dX4_isHeld_22 hl (k := 0) rfl (by decide) (by decide) rfl (fun ls hl => ?_)
      refine lv_goto (tgt := 2) hK.1.1 hK.1.2.1 dX4_isHeld_25 (by decide) ?_
      refine lv_iload_n hK.1.1 hK.1.2.1 dX4_isHeld_2 rfl (lv_at hl 0 rfl) ?_
      refine lv_iconst (v := 4) hK.1.1 hK.1.2.1 dX4_isHeld_3 (by decide) ?_
      refine lv_icmp_ge (tgt := 28) hK.1.1 hK.1.2.1 dX4_isHeld_4 (by decide) (fun c => absurd c (by decide)) (fun _ => ?_)
      refine lv_aload_n hK.1.1 hK.1.2.1 dX4_isHeld_7 rfl (lv_at hl 1 rfl) ?_
      refine tr_23 hK hP hR dX4_isHeld_8 ?_
      refine lv_iload_n hK.1.1 hK.1.2.1 dX4_isHeld_11 rfl (lv_at hl 0 rfl) ?_
      refine ta_holders hK hP hR (i := 2) (by decide) dX4_isHeld_12 ?_
      refine tr_94 hK hP hR (by decide) dX4_isHeld_13 ?_
      refine lv_aload_n hK.1.1 hK.1.2.1 dX4_isHeld_16 rfl (lv_at hl 2 rfl) ?_
      refine lv_acmp_ne (rx := hp 2) (ry := some t) (tgt := 22) hK.1.1 hK.1.2.1 dX4_isHeld_17 (by decide) (fun c17_3 => ?_) (fun c17_3 => ?_)
      · refine lv_iinc (v := 3) (lv' := [(2, .int 3), (0, .ref (ly_a y 0)), (1, .ref t)]) hK.1.1 hK.1.2.1 dX4_isHeld_22 hl (k := 0) rfl (by decide) (by decide) rfl (fun ls hl => ?_)
        refine lv_goto (tgt := 2) hK.1.1 hK.1.2.1 dX4_isHeld_25 (by decide) ?_
        refine lv_iload_n hK.1.1 hK.1.2.1 dX4_isHeld_2 rfl (lv_at hl 0 rfl) ?_
        refine lv_iconst (v := 4) hK.1.1 hK.1.2.1 dX4_isHeld_3 (by decide) ?_
        refine lv_icmp_ge (tgt := 28) hK.1.1 hK.1.2.1 dX4_isHeld_4 (by decide) (fun c => absurd c (by decide)) (fun _ => ?_)
        refine lv_aload_n hK.1.1 hK.1.2.1 dX4_isHeld_7 rfl (lv_at hl 1 rfl) ?_
        refine tr_23 hK hP hR dX4_isHeld_8 ?_
        refine lv_iload_n hK.1.1 hK.1.2.1 dX4_isHeld_11 rfl (lv_at hl 0 rfl) ?_
        refine ta_holders hK hP hR (i := 3) (by decide) dX4_isHeld_12 ?_
        refine tr_94 hK hP hR (by decide) dX4_isHeld_13 ?_
        refine lv_aload_n hK.1.1 hK.1.2.1 dX4_isHeld_16 rfl (lv_at hl 2 rfl) ?_
        refine lv_acmp_ne (rx := hp 3) (ry := some t) (tgt := 22) hK.1.1 hK.1.2.1 dX4_isHeld_17 (by decide) (fun c17_4 => ?_) (fun c17_4 => ?_)
        · refine lv_iinc (v := 4) (lv' := [(2, .int 4), (0, .ref (ly_a y 0)), (1, .ref t)]) hK.1.1 hK.1.2.1 dX4_isHeld_22 hl (k := 0) rfl (by decide) (by decide) rfl (fun ls hl => ?_)
          refine lv_goto (tgt := 2) hK.1.1 hK.1.2.1 dX4_isHeld_25 (by decide) ?_
          refine lv_iload_n hK.1.1 hK.1.2.1 dX4_isHeld_2 rfl (lv_at hl 0 rfl) ?_
          refine lv_iconst (v := 4) hK.1.1 hK.1.2.1 dX4_isHeld_3 (by decide) ?_
          refine lv_icmp_ge (tgt := 28) hK.1.1 hK.1.2.1 dX4_isHeld_4 (by decide) (fun _ => ?_) (fun c => absurd (by decide) c)
          refine lv_iconst (v := 0) hK.1.1 hK.1.2.1 dX4_isHeld_28 (by decide) ?_
          exact gk_zret0 hK.1 hret (by first | decide | exact (rp_nz (by first | assumption | (simp; done))).1) hlk hP hS (Nat.le_of_ble_eq_true rfl) (Nat.le_of_ble_eq_true rfl) dX4_isHeld_29 ⟨by simp [t_held, rg_b, c17_1, c17_2, c17_3, c17_4], rfl⟩
        · refine lv_iconst (v := 1) hK.1.1 hK.1.2.1 dX4_isHeld_20 (by decide) ?_
          exact gk_zret0 hK.1 hret (by first | decide | exact (rp_nz (by first | assumption | (simp; done))).1) hlk hP hS (Nat.le_of_ble_eq_true rfl) (Nat.le_of_ble_eq_true rfl) dX4_isHeld_21 ⟨by simp [t_held, rg_b, c17_1, c17_2, c17_3, c17_4], rfl⟩
      · refine lv_iconst (v := 1) hK.1.1 hK.1.2.1 dX4_isHeld_20 (by decide) ?_
        exact gk_zret0 hK.1 hret (by first | decide | exact (rp_nz (by first | assumption | (simp; done))).1) hlk hP hS (Nat.le_of_ble_eq_true rfl) (Nat.le_of_ble_eq_true rfl) dX4_isHeld_21 ⟨by simp [t_held, rg_b, c17_1, c17_2, c17_3], rfl⟩
    · refine lv_iconst (v := 1) hK.1.1 hK.1.2.1 dX4_isHeld_20 (by decide) ?_
      exact gk_zret0 hK.1 hret (by first | decide | exact (rp_nz (by first | assumption | (simp; done))).1) hlk hP hS (Nat.le_of_ble_eq_true rfl) (Nat.le_of_ble_eq_true rfl) dX4_isHeld_21 ⟨by simp [t_held, rg_b, c17_1, c17_2], rfl⟩
  · refine lv_iconst (v := 1) hK.1.1 hK.1.2.1 dX4_isHeld_20 (by decide) ?_
    exact gk_zret0 hK.1 hret (by first | decide | exact (rp_nz (by first | assumption | (simp; done))).1) hlk hP hS (Nat.le_of_ble_eq_true rfl) (Nat.le_of_ble_eq_true rfl) dX4_isHeld_21 ⟨by simp [t_held, rg_b, c17_1], rfl⟩
set_option maxHeartbeats 4000000 in
set_option maxRecDepth 100000 in
theorem c_X4_mustGo (l : Launch) {y : ly_T} {A : Nat → Prop} {G : gk_G} {td : Int32} {ru : Nat → Nat → Int32} {fr lv : Nat → Nat} {lt et tl : Nat → Int32} {hf hp : Nat → Option Nat} {ol : Nat → List Nat} {PS : Nat → Prop} {pf : Nat → Nat → Int32} {ov : Int64} {md mq mt : Int32} {mv : Nat → Nat → Int32} {t r : Nat} {th : Int32}  (hR : rp y G td ru fr lv lt et tl hf hp ol PS pf ov md mq mt mv) (hr3 : r < 3) (ht : PS t) : gk_M0 l yX4_mustGo (Cond.code yX4_mustGo cX4_mustGo 6 (some .boolean)) 1 30 0 0 y A [.ref (ly_a y 0), .ref t, .ref (ly_f y 0 r), .int th] G (fun v G1 => v = some (.int (rg_b (t_go td (pf 1 t) (ru r 4) (ru r 5) (ru r 6) (t_held hp t) th))) ∧ G1 = G) := by
  refine gk_of0 (cc := cX4_mustGo) (maxL := 6) (ret := (some .boolean)) (own := RX4) (by decide +kernel) rfl rfl (Nat.le_of_ble_eq_true rfl) ?_
  intro p e s m below meth c ls hK hret hlk _ hP hS hl
  have hl : lv_has ls 6 [(0, .ref (ly_a y 0)), (1, .ref t), (2, .ref (ly_f y 0 r)), (3, .int th)] := hl
  refine lv_aload_n hK.1.1 hK.1.2.1 dX4_mustGo_0 rfl (lv_at hl 0 rfl) ?_
  refine tr_109 hK hP hR dX4_mustGo_1 ?_
  refine lv_aload_n hK.1.1 hK.1.2.1 dX4_mustGo_4 rfl (lv_at hl 1 rfl) ?_
  refine tr_150 hK hP hR ht dX4_mustGo_5 ?_
  refine lv_isub hK.1.1 hK.1.2.1 dX4_mustGo_8 ?_
  refine lv_istore (lv' := [(4, .int (td - (pf 1 t))), (0, .ref (ly_a y 0)), (1, .ref t), (2, .ref (ly_f y 0 r)), (3, .int th)]) hK.1.1 hK.1.2.1 dX4_mustGo_9 hl (by decide) rfl (fun ls hl => ?_)
  refine lv_iload hK.1.1 hK.1.2.1 dX4_mustGo_11 (lv_at hl 0 rfl) ?_
  refine lv_aload_n hK.1.1 hK.1.2.1 dX4_mustGo_13 rfl (lv_at hl 3 rfl) ?_
  refine tr_52 hK hP hR hr3 dX4_mustGo_14 ?_
  refine lv_icmp_lt (tgt := 28) hK.1.1 hK.1.2.1 dX4_mustGo_17 (by decide) (fun c17_1 => ?_) (fun c17_1 => ?_)
  · refine lv_iconst (v := 0) hK.1.1 hK.1.2.1 dX4_mustGo_28 (by decide) ?_
    exact gk_zret0 hK.1 hret (by first | decide | exact (rp_nz (by first | assumption | (simp; done))).1) hlk hP hS (Nat.le_of_ble_eq_true rfl) (Nat.le_of_ble_eq_true rfl) dX4_mustGo_29 ⟨by (try simp only [rg_b0, rg_b1, Bool.not_eq_false, Bool.not_eq_true] at c17_1); simp [t_go, rg_b, c17_1]; try simp only [Int32.not_le, Int32.not_lt] at c17_1; try simp [*], rfl⟩
  · refine lv_aload_n hK.1.1 hK.1.2.1 dX4_mustGo_20 rfl (lv_at hl 1 rfl) ?_
    refine lv_aload_n hK.1.1 hK.1.2.1 dX4_mustGo_21 rfl (lv_at hl 2 rfl) ?_
    refine gk_callV0 (n := 1) (As := [.ref t]) (rest := []) hK (c_X4_isHeld l hR (t := t)) (gk_gV q_15_21 q_15_22 q_15_23 q_1_2 q_16_0) ⟨rfl, by decide +kernel, by decide +kernel, by decide +kernel⟩ ⟨(Nat.le_of_ble_eq_true rfl), (Nat.le_of_ble_eq_true rfl)⟩ hP hS (gk_recv hK.2.2.1.1 hP hR.1 rfl) rfl hl.1 rfl (Nat.le_of_ble_eq_true rfl) dX4_mustGo_22 ⟨(Nat.le_of_ble_eq_true rfl), (Nat.le_of_ble_eq_true rfl)⟩ (fun v G1 H locs hw hP hS => ?_)
    obtain ⟨rfl, hG9⟩ := hw
    rw [hG9] at hP
    refine W.eq (g2 := F0 m 25 ls [.int (rg_b (t_held hp t))]) rfl ?_
    refine lv_if_eq (tgt := 30) hK.1.1 hK.1.2.1 dX4_mustGo_25 (by decide) (fun c25_2 => ?_) (fun c25_2 => ?_)
    · refine lv_aload_n hK.1.1 hK.1.2.1 dX4_mustGo_30 rfl (lv_at hl 3 rfl) ?_
      refine tr_58 hK hP hR hr3 dX4_mustGo_31 ?_
      refine lv_if_eq (tgt := 50) hK.1.1 hK.1.2.1 dX4_mustGo_34 (by decide) (fun c34_3 => ?_) (fun c34_3 => ?_)
      · refine lv_iconst (v := 0) hK.1.1 hK.1.2.1 dX4_mustGo_50 (by decide) ?_
        refine lv_istore (lv' := [(5, .int 0), (4, .int (td - (pf 1 t))), (0, .ref (ly_a y 0)), (1, .ref t), (2, .ref (ly_f y 0 r)), (3, .int th)]) hK.1.1 hK.1.2.1 dX4_mustGo_51 hl (by decide) rfl (fun ls hl => ?_)
        refine lv_iload_n hK.1.1 hK.1.2.1 dX4_mustGo_53 rfl (lv_at hl 5 rfl) ?_
        refine lv_aload_n hK.1.1 hK.1.2.1 dX4_mustGo_54 rfl (lv_at hl 4 rfl) ?_
        refine tr_55 hK hP hR hr3 dX4_mustGo_55 ?_
        refine lv_icmp_gt (tgt := 66) hK.1.1 hK.1.2.1 dX4_mustGo_58 (by decide) (fun c58_4 => ?_) (fun c58_4 => ?_)
        · refine lv_iconst (v := 1) hK.1.1 hK.1.2.1 dX4_mustGo_66 (by decide) ?_
          refine lv_goto (tgt := 71) hK.1.1 hK.1.2.1 dX4_mustGo_67 (by decide) ?_
          exact gk_zret0 hK.1 hret (by first | decide | exact (rp_nz (by first | assumption | (simp; done))).1) hlk hP hS (Nat.le_of_ble_eq_true rfl) (Nat.le_of_ble_eq_true rfl) dX4_mustGo_71 ⟨by (try simp only [rg_b0, rg_b1, Bool.not_eq_false, Bool.not_eq_true] at c17_1 c25_2 c34_3 c58_4); simp [t_go, rg_b, c17_1, c25_2, c34_3, c58_4]; try simp only [Int32.not_le, Int32.not_lt] at c17_1 c25_2 c34_3 c58_4; try simp [*], rfl⟩
        · refine lv_iload hK.1.1 hK.1.2.1 dX4_mustGo_61 (lv_at hl 0 rfl) ?_
          refine lv_if_eq (tgt := 70) hK.1.1 hK.1.2.1 dX4_mustGo_63 (by decide) (fun _ => ?_) (fun c => absurd c (by decide))
          refine lv_iconst (v := 0) hK.1.1 hK.1.2.1 dX4_mustGo_70 (by decide) ?_
          exact gk_zret0 hK.1 hret (by first | decide | exact (rp_nz (by first | assumption | (simp; done))).1) hlk hP hS (Nat.le_of_ble_eq_true rfl) (Nat.le_of_ble_eq_true rfl) dX4_mustGo_71 ⟨by (try simp only [rg_b0, rg_b1, Bool.not_eq_false, Bool.not_eq_true] at c17_1 c25_2 c34_3 c58_4); simp [t_go, rg_b, c17_1, c25_2, c34_3, c58_4]; try simp only [Int32.not_le, Int32.not_lt] at c17_1 c25_2 c34_3 c58_4; try simp [*], rfl⟩
      · refine lv_iload hK.1.1 hK.1.2.1 dX4_mustGo_37 (lv_at hl 0 rfl) ?_
        refine lv_aload_n hK.1.1 hK.1.2.1 dX4_mustGo_39 rfl (lv_at hl 3 rfl) ?_
        refine tr_58 hK hP hR hr3 dX4_mustGo_40 ?_
        refine lv_icmp_le (tgt := 50) hK.1.1 hK.1.2.1 dX4_mustGo_43 (by decide) (fun c43_5 => ?_) (fun c43_5 => ?_)
        · refine lv_iconst (v := 0) hK.1.1 hK.1.2.1 dX4_mustGo_50 (by decide) ?_
          refine lv_istore (lv' := [(5, .int 0), (4, .int (td - (pf 1 t))), (0, .ref (ly_a y 0)), (1, .ref t), (2, .ref (ly_f y 0 r)), (3, .int th)]) hK.1.1 hK.1.2.1 dX4_mustGo_51 hl (by decide) rfl (fun ls hl => ?_)
          refine lv_iload_n hK.1.1 hK.1.2.1 dX4_mustGo_53 rfl (lv_at hl 5 rfl) ?_
          refine lv_aload_n hK.1.1 hK.1.2.1 dX4_mustGo_54 rfl (lv_at hl 4 rfl) ?_
          refine tr_55 hK hP hR hr3 dX4_mustGo_55 ?_
          refine lv_icmp_gt (tgt := 66) hK.1.1 hK.1.2.1 dX4_mustGo_58 (by decide) (fun c58_6 => ?_) (fun c58_6 => ?_)
          · refine lv_iconst (v := 1) hK.1.1 hK.1.2.1 dX4_mustGo_66 (by decide) ?_
            refine lv_goto (tgt := 71) hK.1.1 hK.1.2.1 dX4_mustGo_67 (by decide) ?_
            exact gk_zret0 hK.1 hret (by first | decide | exact (rp_nz (by first | assumption | (simp; done))).1) hlk hP hS (Nat.le_of_ble_eq_true rfl) (Nat.le_of_ble_eq_true rfl) dX4_mustGo_71 ⟨by (try simp only [rg_b0, rg_b1, Bool.not_eq_false, Bool.not_eq_true] at c17_1 c25_2 c34_3 c43_5 c58_6); simp [t_go, rg_b, c17_1, c25_2, c34_3, c43_5, c58_6]; try simp only [Int32.not_le, Int32.not_lt] at c17_1 c25_2 c34_3 c43_5 c58_6; try simp [*], rfl⟩
          · refine lv_iload hK.1.1 hK.1.2.1 dX4_mustGo_61 (lv_at hl 0 rfl) ?_
            refine lv_if_eq (tgt := 70) hK.1.1 hK.1.2.1 dX4_mustGo_63 (by decide) (fun _ => ?_) (fun c => absurd c (by decide))
            refine lv_iconst (v := 0) hK.1.1 hK.1.2.1 dX4_mustGo_70 (by decide) ?_
            exact gk_zret0 hK.1 hret (by first | decide | exact (rp_nz (by first | assumption | (simp; done))).1) hlk hP hS (Nat.le_of_ble_eq_true rfl) (Nat.le_of_ble_eq_true rfl) dX4_mustGo_71 ⟨by (try simp only [rg_b0, rg_b1, Bool.not_eq_false, Bool.not_eq_true] at c17_1 c25_2 c34_3 c43_5 c58_6); simp [t_go, rg_b, c17_1, c25_2, c34_3, c43_5, c58_6]; try simp only [Int32.not_le, Int32.not_lt] at c17_1 c25_2 c34_3 c43_5 c58_6; try simp [*], rfl⟩
        · refine lv_iconst (v := 1) hK.1.1 hK.1.2.1 dX4_mustGo_46 (by decide) ?_
          refine lv_goto (tgt := 51) hK.1.1 hK.1.2.1 dX4_mustGo_47 (by decide) ?_
          refine lv_istore (lv' := [(5, .int 1), (4, .int (td - (pf 1 t))), (0, .ref (ly_a y 0)), (1, .ref t), (2, .ref (ly_f y 0 r)), (3, .int th)]) hK.1.1 hK.1.2.1 dX4_mustGo_51 hl (by decide) rfl (fun ls hl => ?_)
          refine lv_iload_n hK.1.1 hK.1.2.1 dX4_mustGo_53 rfl (lv_at hl 5 rfl) ?_
          refine lv_aload_n hK.1.1 hK.1.2.1 dX4_mustGo_54 rfl (lv_at hl 4 rfl) ?_
          refine tr_55 hK hP hR hr3 dX4_mustGo_55 ?_
          refine lv_icmp_gt (tgt := 66) hK.1.1 hK.1.2.1 dX4_mustGo_58 (by decide) (fun c58_7 => ?_) (fun c58_7 => ?_)
          · refine lv_iconst (v := 1) hK.1.1 hK.1.2.1 dX4_mustGo_66 (by decide) ?_
            refine lv_goto (tgt := 71) hK.1.1 hK.1.2.1 dX4_mustGo_67 (by decide) ?_
            exact gk_zret0 hK.1 hret (by first | decide | exact (rp_nz (by first | assumption | (simp; done))).1) hlk hP hS (Nat.le_of_ble_eq_true rfl) (Nat.le_of_ble_eq_true rfl) dX4_mustGo_71 ⟨by (try simp only [rg_b0, rg_b1, Bool.not_eq_false, Bool.not_eq_true] at c17_1 c25_2 c34_3 c43_5 c58_7); simp [t_go, rg_b, c17_1, c25_2, c34_3, c43_5, c58_7]; try simp only [Int32.not_le, Int32.not_lt] at c17_1 c25_2 c34_3 c43_5 c58_7; try simp [*], rfl⟩
          · refine lv_iload hK.1.1 hK.1.2.1 dX4_mustGo_61 (lv_at hl 0 rfl) ?_
            refine lv_if_eq (tgt := 70) hK.1.1 hK.1.2.1 dX4_mustGo_63 (by decide) (fun c => absurd c (by decide)) (fun _ => ?_)
            refine lv_iconst (v := 1) hK.1.1 hK.1.2.1 dX4_mustGo_66 (by decide) ?_
            refine lv_goto (tgt := 71) hK.1.1 hK.1.2.1 dX4_mustGo_67 (by decide) ?_
            exact gk_zret0 hK.1 hret (by first | decide | exact (rp_nz (by first | assumption | (simp; done))).1) hlk hP hS (Nat.le_of_ble_eq_true rfl) (Nat.le_of_ble_eq_true rfl) dX4_mustGo_71 ⟨by (try simp only [rg_b0, rg_b1, Bool.not_eq_false, Bool.not_eq_true] at c17_1 c25_2 c34_3 c43_5 c58_7); simp [t_go, rg_b, c17_1, c25_2, c34_3, c43_5, c58_7]; try simp only [Int32.not_le, Int32.not_lt] at c17_1 c25_2 c34_3 c43_5 c58_7; try simp [*], rfl⟩
    · refine lv_iconst (v := 0) hK.1.1 hK.1.2.1 dX4_mustGo_28 (by decide) ?_
      exact gk_zret0 hK.1 hret (by first | decide | exact (rp_nz (by first | assumption | (simp; done))).1) hlk hP hS (Nat.le_of_ble_eq_true rfl) (Nat.le_of_ble_eq_true rfl) dX4_mustGo_29 ⟨by (try simp only [rg_b0, rg_b1, Bool.not_eq_false, Bool.not_eq_true] at c17_1 c25_2); simp [t_go, rg_b, c17_1, c25_2]; try simp only [Int32.not_le, Int32.not_lt] at c17_1 c25_2; try simp [*], rfl⟩
set_option maxHeartbeats 4000000 in
set_option maxRecDepth 100000 in
theorem c_X4_squeezeOldParts (l : Launch) {y : ly_T} {A : Nat → Prop} {G : gk_G} {td : Int32} {ru : Nat → Nat → Int32} {fr lv : Nat → Nat} {lt et tl : Nat → Int32} {hf hp : Nat → Option Nat} {ol : Nat → List Nat} {PS : Nat → Prop} {pf : Nat → Nat → Int32} {ov : Int64} {md mq mt : Int32} {mv : Nat → Nat → Int32} {f n : Nat}  (hR : rp y G td ru fr lv lt et tl hf hp ol PS pf ov md mq mt mv) (hf5 : f < 5) (hn : (ol f).length = n + 1) (hn9 : n ≤ 1000) (hin : ∀ q ∈ ol f, PS q) : gk_M0 l yX4_squeezeOldParts (Cond.code yX4_squeezeOldParts cX4_squeezeOldParts 4 none) 3 90 0 0 y A [.ref (ly_a y 0), .ref (ly_f y 3 f)] G (fun v G1 => v = none ∧ rp y G1 td ru fr lv lt et tl hf hp ol PS (t_sq hp pf ((ol f).take n)) ov md mq mt mv) := by
  refine gk_of0 (cc := cX4_squeezeOldParts) (maxL := 4) (ret := none) (own := RX4) (by decide +kernel) rfl rfl (Nat.le_of_ble_eq_true rfl) ?_
  intro p e s m below meth c ls hK hret hlk _ hP hS hl
  have hl : lv_has ls 4 [(0, .ref (ly_a y 0)), (1, .ref (ly_f y 3 f))] := hl
  refine lv_iconst (v := 0) hK.1.1 hK.1.2.1 dX4_squeezeOldParts_0 (by decide) ?_
  refine lv_istore_n (lv' := [(2, .int 0), (0, .ref (ly_a y 0)), (1, .ref (ly_f y 3 f))]) hK.1.1 hK.1.2.1 dX4_squeezeOldParts_1 rfl hl (by decide) rfl (fun ls hl => ?_)
  have loop : ∀ (dd : Nat) (k : Nat) (ls : Array Slot) (H : Heap) (locs : List Loc) (G : gk_G), n - k = dd → (k ≤ n) → gk_P (ly_D y) A G H → va_S A s.heap H locs → rp y G td ru fr lv lt et tl hf hp ol PS (t_sq hp pf ((ol f).take k)) ov md mq mt mv → lv_has ls 4 [(2, .int (nI k)), (0, .ref (ly_a y 0)), (1, .ref (ly_f y 3 f))] → W p l e { frames := 3, cells := 0, slots := 0, locals := 90 } s m [.ref (ly_a y 0), .ref (ly_f y 3 f)].toArray below meth c H locs 0 0 (MQ below (gk_Q y A (fun v G1 => v = none ∧ rp y G1 td ru fr lv lt et tl hf hp ol PS (t_sq hp pf ((ol f).take n)) ov md mq mt mv)) [.ref (ly_a y 0), .ref (ly_f y 3 f)].toArray s 0 0 A) (F0 m 2 ls []) := by
    intro dd
    induction dd using Nat.strongRecOn with
    | _ dd ih =>
    intro k ls H locs G hdd hk hP hS hR hl
    refine lv_iload_n hK.1.1 hK.1.2.1 dX4_squeezeOldParts_2 rfl (lv_at hl 0 rfl) ?_
    refine lv_aload_n hK.1.1 hK.1.2.1 dX4_squeezeOldParts_3 rfl (lv_at hl 2 rfl) ?_
    refine gk_callV0 (n := 0) (As := []) (rest := [.int (nI k)]) hK (c_list_size l hR hf5) (gk_gV q_12_10 q_12_11 q_12_12 q_2_15 q_12_13) ⟨rfl, by decide +kernel, by decide +kernel, by decide +kernel⟩ ⟨(Nat.le_of_ble_eq_true rfl), (Nat.le_of_ble_eq_true rfl)⟩ hP hS (rp_recvL hK.2.2.1 hP hR hf5) rfl hl.1 rfl (Nat.le_of_ble_eq_true rfl) dX4_squeezeOldParts_4 ⟨(Nat.le_of_ble_eq_true rfl), (Nat.le_of_ble_eq_true rfl)⟩ (fun v G1 H locs hw hP hS => ?_)
    obtain ⟨rfl, hG9⟩ := hw
    rw [hG9] at hP
    refine W.eq (g2 := F0 m 7 ls [.int (nI (ol f).length), .int (nI k)]) rfl ?_
    refine lv_iconst (v := 1) hK.1.1 hK.1.2.1 dX4_squeezeOldParts_7 (by decide) ?_
    refine lv_isub hK.1.1 hK.1.2.1 dX4_squeezeOldParts_8 ?_
    rw [hn, nI_pred]
    refine lv_icmp_ge (tgt := 40) hK.1.1 hK.1.2.1 dX4_squeezeOldParts_9 (by decide) (fun c9_1 => ?_) (fun c9_1 => ?_)
    · have hkn : k = n := Nat.le_antisymm hk ((nI_leI (by omega) (by omega)).mp c9_1)
      subst hkn
      exact gk_vret0 hK.1 hret hlk hP hS (Nat.le_of_ble_eq_true rfl) (Nat.le_of_ble_eq_true rfl) dX4_squeezeOldParts_40 ⟨rfl, hR⟩
    · have hkn : k < n := Nat.lt_of_not_le (fun h => c9_1 (nI_le h (by omega)))
      obtain ⟨t, htk⟩ : ∃ t, (ol f)[k]? = some t := ⟨_, List.getElem?_eq_getElem (by omega)⟩
      have htP : PS t := hin t (List.mem_of_getElem? htk)
      refine lv_aload_n hK.1.1 hK.1.2.1 dX4_squeezeOldParts_12 rfl (lv_at hl 2 rfl) ?_
      refine lv_iload_n hK.1.1 hK.1.2.1 dX4_squeezeOldParts_13 rfl (lv_at hl 0 rfl) ?_
      refine gk_callV0 (n := 1) (As := [.int (nI k)]) (rest := []) hK (c_list_get l hR hf5 htk) (gk_gV q_15_5 q_15_6 q_15_7 q_2_15 q_15_8) ⟨rfl, by decide +kernel, by decide +kernel, by decide +kernel⟩ ⟨(Nat.le_of_ble_eq_true rfl), (Nat.le_of_ble_eq_true rfl)⟩ hP hS (rp_recvL hK.2.2.1 hP hR hf5) rfl hl.1 rfl (Nat.le_of_ble_eq_true rfl) dX4_squeezeOldParts_14 ⟨(Nat.le_of_ble_eq_true rfl), (Nat.le_of_ble_eq_true rfl)⟩ (fun v G1 H locs hw hP hS => ?_)
      obtain ⟨rfl, hG9⟩ := hw
      rw [hG9] at hP
      refine W.eq (g2 := F0 m 17 ls [.ref t]) rfl ?_
      refine gk_cast hK.1 hK.2.2.1.1 hP (hR.2.2.2.2.2.2.1 t htP) rfl q_12_9 dX4_squeezeOldParts_17 ?_
      refine lv_astore_n (lv' := [(3, .ref t), (2, .int (nI k)), (0, .ref (ly_a y 0)), (1, .ref (ly_f y 3 f))]) hK.1.1 hK.1.2.1 dX4_squeezeOldParts_20 rfl hl (by decide) rfl (fun ls hl => ?_)
      refine lv_aload_n hK.1.1 hK.1.2.1 dX4_squeezeOldParts_21 rfl (lv_at hl 2 rfl) ?_
      refine lv_aload_n hK.1.1 hK.1.2.1 dX4_squeezeOldParts_22 rfl (lv_at hl 0 rfl) ?_
      refine gk_callV0 (n := 1) (As := [.ref t]) (rest := []) hK (c_X4_isHeld l hR (t := t)) (gk_gV q_15_21 q_15_22 q_15_23 q_1_2 q_16_0) ⟨rfl, by decide +kernel, by decide +kernel, by decide +kernel⟩ ⟨(Nat.le_of_ble_eq_true rfl), (Nat.le_of_ble_eq_true rfl)⟩ hP hS (gk_recv hK.2.2.1.1 hP hR.1 rfl) rfl hl.1 rfl (Nat.le_of_ble_eq_true rfl) dX4_squeezeOldParts_23 ⟨(Nat.le_of_ble_eq_true rfl), (Nat.le_of_ble_eq_true rfl)⟩ (fun v G1 H locs hw hP hS => ?_)
      obtain ⟨rfl, hG9⟩ := hw
      rw [hG9] at hP
      refine W.eq (g2 := F0 m 26 ls [.int (rg_b (t_held hp t))]) rfl ?_
      refine lv_if_ne (tgt := 34) hK.1.1 hK.1.2.1 dX4_squeezeOldParts_26 (by decide) (fun c26_2 => ?_) (fun c26_2 => ?_)
      · refine lv_iinc (v := nI (k + 1)) (lv' := [(2, .int (nI (k + 1))), (3, .ref t), (0, .ref (ly_a y 0)), (1, .ref (ly_f y 3 f))]) hK.1.1 hK.1.2.1 dX4_squeezeOldParts_34 hl (k := 1) rfl (nI_1 k) (by decide) rfl (fun ls hl => ?_)
        refine lv_goto (tgt := 2) hK.1.1 hK.1.2.1 dX4_squeezeOldParts_37 (by decide) ?_
        exact ih (n - (k + 1)) (by omega)  (k + 1) ls _ _ _ rfl (by omega) hP hS (by rw [t_sq_h htk (by cases hz : t_held hp t <;> simp_all [rg_b])]; exact hR) (lv_sub hl [0, 2, 3] rfl)
      · refine lv_aload_n hK.1.1 hK.1.2.1 dX4_squeezeOldParts_29 rfl (lv_at hl 0 rfl) ?_
        refine lv_iconst (v := 1) hK.1.1 hK.1.2.1 dX4_squeezeOldParts_30 (by decide) ?_
        refine tw_157 hK hP hS hR htP (by decide) dX4_squeezeOldParts_31 (fun H locs G hP hS hR => ?_)
        refine lv_iinc (v := nI (k + 1)) (lv' := [(2, .int (nI (k + 1))), (3, .ref t), (0, .ref (ly_a y 0)), (1, .ref (ly_f y 3 f))]) hK.1.1 hK.1.2.1 dX4_squeezeOldParts_34 hl (k := 1) rfl (nI_1 k) (by decide) rfl (fun ls hl => ?_)
        refine lv_goto (tgt := 2) hK.1.1 hK.1.2.1 dX4_squeezeOldParts_37 (by decide) ?_
        exact ih (n - (k + 1)) (by omega)  (k + 1) ls _ _ _ rfl (by omega) hP hS (by rw [t_sq_u htk (by cases hz : t_held hp t <;> simp_all [rg_b])]; exact hR) (lv_sub hl [0, 2, 3] rfl)
  exact loop _ 0 ls _ _ _ rfl (by omega) hP hS (by rw [List.take_zero, t_sq0]; exact hR) (lv_sub hl [0, 1, 2] rfl)
theorem gl_upsame {α : Type} (f : Nat → α) (k : Nat) : va_up f k (f k) = f := by
  funext j
  simp only [va_up]
  split
  · rename_i h; rw [h]
  · rfl
set_option maxHeartbeats 4000000 in
set_option maxRecDepth 100000 in
theorem c_X4_throwOldParts (l : Launch) {y : ly_T} {A : Nat → Prop} {G : gk_G} {td : Int32} {ru : Nat → Nat → Int32} {fr lv : Nat → Nat} {lt et tl : Nat → Int32} {hf hp : Nat → Option Nat} {ol : Nat → List Nat} {PS : Nat → Prop} {pf : Nat → Nat → Int32} {ov : Int64} {md mq mt : Int32} {mv : Nat → Nat → Int32} {f : Nat}  (hR : rp y G td ru fr lv lt et tl hf hp ol PS pf ov md mq mt mv) (hf5 : f < 5) (hn9 : (ol f).length ≤ 1000) (hin : ∀ q ∈ ol f, PS q) : gk_M0 l yX4_throwOldParts (Cond.code yX4_throwOldParts cX4_throwOldParts 7 (some .int)) 3 120 0 0 y A [.ref (ly_a y 0), .ref (ly_f y 1 f)] G (fun v G1 => v = some (.int (nI (t_th (t_goF td pf hp (ru (fr f) 4) (ru (fr f) 5) (ru (fr f) 6)) (ol f).length (ol f)).length)) ∧ rp y G1 td ru fr lv lt et (va_up tl f (t_sum pf (tl f) (t_th (t_goF td pf hp (ru (fr f) 4) (ru (fr f) 5) (ru (fr f) 6)) (ol f).length (ol f)))) hf hp (va_up ol f (t_kp (t_goF td pf hp (ru (fr f) 4) (ru (fr f) 5) (ru (fr f) 6)) (ol f).length (ol f))) PS pf ov md mq mt mv) := by
  refine gk_of0 (cc := cX4_throwOldParts) (maxL := 7) (ret := (some .int)) (own := RX4) (by decide +kernel) rfl rfl (Nat.le_of_ble_eq_true rfl) ?_
  intro p e s m below meth c ls hK hret hlk _ hP hS hl
  have hl : lv_has ls 7 [(0, .ref (ly_a y 0)), (1, .ref (ly_f y 1 f))] := hl
  refine lv_aload_n hK.1.1 hK.1.2.1 dX4_throwOldParts_0 rfl (lv_at hl 1 rfl) ?_
  refine tr_137 hK hP hR hf5 dX4_throwOldParts_1 ?_
  refine lv_astore_n (lv' := [(2, .ref (ly_f y 3 f)), (0, .ref (ly_a y 0)), (1, .ref (ly_f y 1 f))]) hK.1.1 hK.1.2.1 dX4_throwOldParts_4 rfl hl (by decide) rfl (fun ls hl => ?_)
  refine lv_aload_n hK.1.1 hK.1.2.1 dX4_throwOldParts_5 rfl (lv_at hl 0 rfl) ?_
  refine gk_callV0 (n := 0) (As := []) (rest := []) hK (c_list_size l hR hf5) (gk_gV q_12_10 q_12_11 q_12_12 q_2_15 q_12_13) ⟨rfl, by decide +kernel, by decide +kernel, by decide +kernel⟩ ⟨(Nat.le_of_ble_eq_true rfl), (Nat.le_of_ble_eq_true rfl)⟩ hP hS (rp_recvL hK.2.2.1 hP hR hf5) rfl hl.1 rfl (Nat.le_of_ble_eq_true rfl) dX4_throwOldParts_6 ⟨(Nat.le_of_ble_eq_true rfl), (Nat.le_of_ble_eq_true rfl)⟩ (fun v G1 H locs hw hP hS => ?_)
  obtain ⟨rfl, hG9⟩ := hw
  rw [hG9] at hP
  refine W.eq (g2 := F0 m 9 ls [.int (nI (ol f).length)]) rfl ?_
  refine lv_istore_n (lv' := [(3, .int (nI (ol f).length)), (2, .ref (ly_f y 3 f)), (0, .ref (ly_a y 0)), (1, .ref (ly_f y 1 f))]) hK.1.1 hK.1.2.1 dX4_throwOldParts_9 rfl hl (by decide) rfl (fun ls hl => ?_)
  refine lv_iconst (v := 0) hK.1.1 hK.1.2.1 dX4_throwOldParts_10 (by decide) ?_
  refine lv_istore (lv' := [(4, .int 0), (3, .int (nI (ol f).length)), (2, .ref (ly_f y 3 f)), (0, .ref (ly_a y 0)), (1, .ref (ly_f y 1 f))]) hK.1.1 hK.1.2.1 dX4_throwOldParts_11 hl (by decide) rfl (fun ls hl => ?_)
  refine lv_iconst (v := 0) hK.1.1 hK.1.2.1 dX4_throwOldParts_13 (by decide) ?_
  refine lv_istore (lv' := [(5, .int 0), (4, .int 0), (3, .int (nI (ol f).length)), (2, .ref (ly_f y 3 f)), (0, .ref (ly_a y 0)), (1, .ref (ly_f y 1 f))]) hK.1.1 hK.1.2.1 dX4_throwOldParts_14 hl (by decide) rfl (fun ls hl => ?_)
  have loop : ∀ (dd : Nat) (rest kept : List Nat) (gone : Nat) (x : Int32) (ls : Array Slot) (H : Heap) (locs : List Loc) (G : gk_G), rest.length = dd → (kept.length + gone + rest.length = (ol f).length) → (t_kp (t_goF td pf hp (ru (fr f) 4) (ru (fr f) 5) (ru (fr f) 6)) (ol f).length (ol f) = kept ++ t_kp (t_goF td pf hp (ru (fr f) 4) (ru (fr f) 5) (ru (fr f) 6)) ((ol f).length - gone) rest) → ((t_th (t_goF td pf hp (ru (fr f) 4) (ru (fr f) 5) (ru (fr f) 6)) (ol f).length (ol f)).length = gone + (t_th (t_goF td pf hp (ru (fr f) 4) (ru (fr f) 5) (ru (fr f) 6)) ((ol f).length - gone) rest).length) → (t_sum pf (tl f) (t_th (t_goF td pf hp (ru (fr f) 4) (ru (fr f) 5) (ru (fr f) 6)) (ol f).length (ol f)) = t_sum pf x (t_th (t_goF td pf hp (ru (fr f) 4) (ru (fr f) 5) (ru (fr f) 6)) ((ol f).length - gone) rest)) → (∀ q ∈ kept ++ rest, PS q) → gk_P (ly_D y) A G H → va_S A s.heap H locs → rp y G td ru fr lv lt et (va_up tl f x) hf hp (va_up ol f (kept ++ rest)) PS pf ov md mq mt mv → lv_has ls 7 [(5, .int (nI (kept.length + gone))), (4, .int (nI gone)), (3, .int (nI (ol f).length)), (2, .ref (ly_f y 3 f)), (0, .ref (ly_a y 0)), (1, .ref (ly_f y 1 f))] → W p l e { frames := 3, cells := 0, slots := 0, locals := 120 } s m [.ref (ly_a y 0), .ref (ly_f y 1 f)].toArray below meth c H locs 0 0 (MQ below (gk_Q y A (fun v G1 => v = some (.int (nI (t_th (t_goF td pf hp (ru (fr f) 4) (ru (fr f) 5) (ru (fr f) 6)) (ol f).length (ol f)).length)) ∧ rp y G1 td ru fr lv lt et (va_up tl f (t_sum pf (tl f) (t_th (t_goF td pf hp (ru (fr f) 4) (ru (fr f) 5) (ru (fr f) 6)) (ol f).length (ol f)))) hf hp (va_up ol f (t_kp (t_goF td pf hp (ru (fr f) 4) (ru (fr f) 5) (ru (fr f) 6)) (ol f).length (ol f))) PS pf ov md mq mt mv)) [.ref (ly_a y 0), .ref (ly_f y 1 f)].toArray s 0 0 A) (F0 m 16 ls []) := by
    intro dd
    induction dd using Nat.strongRecOn with
    | _ dd ih =>
    intro rest kept gone x ls H locs G hdd hlen h1 h2 h3 hinr hP hS hR hl
    have hl9 : (ol f).length ≤ 1000 := hn9
    rcases rest with _ | ⟨t, rest⟩
    · refine lv_iload hK.1.1 hK.1.2.1 dX4_throwOldParts_16 (lv_at hl 0 rfl) ?_
      refine lv_iload_n hK.1.1 hK.1.2.1 dX4_throwOldParts_18 rfl (lv_at hl 2 rfl) ?_
      refine lv_icmp_ge (tgt := 86) hK.1.1 hK.1.2.1 dX4_throwOldParts_19 (by decide) (fun _ => ?_) (fun c => absurd (nI_le (by simp only [List.length_nil] at hlen; omega) (by omega)) c)
      refine lv_iload hK.1.1 hK.1.2.1 dX4_throwOldParts_86 (lv_at hl 1 rfl) ?_
      exact gk_iret0 hK.1 hret hlk hP hS (Nat.le_of_ble_eq_true rfl) (Nat.le_of_ble_eq_true rfl) dX4_throwOldParts_88 ⟨by rw [h2]; rfl, by rw [h1, h3]; exact hR⟩
    · have htP : PS t := hinr t (by simp)
      refine lv_iload hK.1.1 hK.1.2.1 dX4_throwOldParts_16 (lv_at hl 0 rfl) ?_
      refine lv_iload_n hK.1.1 hK.1.2.1 dX4_throwOldParts_18 rfl (lv_at hl 2 rfl) ?_
      refine lv_icmp_ge (tgt := 86) hK.1.1 hK.1.2.1 dX4_throwOldParts_19 (by decide) (fun c => absurd ((nI_leI (by omega) (by simp only [List.length_cons] at hlen; omega)).mp c) (by simp only [List.length_cons] at hlen; omega)) (fun _ => ?_)
      refine lv_aload_n hK.1.1 hK.1.2.1 dX4_throwOldParts_22 rfl (lv_at hl 3 rfl) ?_
      refine lv_iload hK.1.1 hK.1.2.1 dX4_throwOldParts_23 (lv_at hl 0 rfl) ?_
      refine lv_iload hK.1.1 hK.1.2.1 dX4_throwOldParts_25 (lv_at hl 1 rfl) ?_
      refine lv_isub hK.1.1 hK.1.2.1 dX4_throwOldParts_27 ?_
      rw [pk_sub (Nat.le_add_left _ _), Nat.add_sub_cancel]
      refine gk_callV0 (n := 1) (As := [.int (nI kept.length)]) (rest := []) hK (c_list_get l hR hf5 (by rw [va_up_self]; exact gl_mid _ _ _)) (gk_gV q_15_5 q_15_6 q_15_7 q_2_15 q_15_8) ⟨rfl, by decide +kernel, by decide +kernel, by decide +kernel⟩ ⟨(Nat.le_of_ble_eq_true rfl), (Nat.le_of_ble_eq_true rfl)⟩ hP hS (rp_recvL hK.2.2.1 hP hR hf5) rfl hl.1 rfl (Nat.le_of_ble_eq_true rfl) dX4_throwOldParts_28 ⟨(Nat.le_of_ble_eq_true rfl), (Nat.le_of_ble_eq_true rfl)⟩ (fun v G1 H locs hw hP hS => ?_)
      obtain ⟨rfl, hG9⟩ := hw
      rw [hG9] at hP
      refine W.eq (g2 := F0 m 31 ls [.ref t]) rfl ?_
      refine gk_cast hK.1 hK.2.2.1.1 hP (hR.2.2.2.2.2.2.1 t htP) rfl q_12_9 dX4_throwOldParts_31 ?_
      refine lv_astore (lv' := [(6, .ref t), (5, .int (nI (kept.length + gone))), (4, .int (nI gone)), (3, .int (nI (ol f).length)), (2, .ref (ly_f y 3 f)), (0, .ref (ly_a y 0)), (1, .ref (ly_f y 1 f))]) hK.1.1 hK.1.2.1 dX4_throwOldParts_34 hl (by decide) rfl (fun ls hl => ?_)
      refine lv_aload_n hK.1.1 hK.1.2.1 dX4_throwOldParts_36 rfl (lv_at hl 5 rfl) ?_
      refine lv_aload hK.1.1 hK.1.2.1 dX4_throwOldParts_37 (lv_at hl 0 rfl) ?_
      refine lv_aload_n hK.1.1 hK.1.2.1 dX4_throwOldParts_39 rfl (lv_at hl 6 rfl) ?_
      refine tr_75 hK hP hR hf5 dX4_throwOldParts_40 ?_
      refine lv_iload_n hK.1.1 hK.1.2.1 dX4_throwOldParts_43 rfl (lv_at hl 3 rfl) ?_
      refine lv_iload hK.1.1 hK.1.2.1 dX4_throwOldParts_44 (lv_at hl 2 rfl) ?_
      refine lv_isub hK.1.1 hK.1.2.1 dX4_throwOldParts_46 ?_
      rw [pk_sub (show gone ≤ (ol f).length by omega)]
      refine gk_callV0 (n := 3) (As := [.ref t, .ref (ly_f y 0 (fr f)), .int (nI ((ol f).length - gone))]) (rest := []) hK (c_X4_mustGo l hR (th := (nI ((ol f).length - gone))) (hR.2.2.2.1 f hf5).1 htP) (gk_gV q_16_6 q_16_7 q_16_8 q_1_2 q_16_9) ⟨rfl, by decide +kernel, by decide +kernel, by decide +kernel⟩ ⟨(Nat.le_of_ble_eq_true rfl), (Nat.le_of_ble_eq_true rfl)⟩ hP hS (gk_recv hK.2.2.1.1 hP hR.1 rfl) rfl hl.1 rfl (Nat.le_of_ble_eq_true rfl) dX4_throwOldParts_47 ⟨(Nat.le_of_ble_eq_true rfl), (Nat.le_of_ble_eq_true rfl)⟩ (fun v G1 H locs hw hP hS => ?_)
      obtain ⟨rfl, hG9⟩ := hw
      rw [hG9] at hP
      refine W.eq (g2 := F0 m 50 ls [.int (rg_b (t_go td (pf 1 t) (ru (fr f) 4) (ru (fr f) 5) (ru (fr f) 6) (t_held hp t) (nI ((ol f).length - gone))))]) rfl ?_
      refine lv_if_eq (tgt := 80) hK.1.1 hK.1.2.1 dX4_throwOldParts_50 (by decide) (fun c50_1 => ?_) (fun c50_1 => ?_)
      · have hgo : ¬ (t_goF td pf hp (ru (fr f) 4) (ru (fr f) 5) (ru (fr f) 6)) t ((ol f).length - gone) = true := fun hz => by have h8 := rg_b0.mp c50_1; exact absurd (hz.symm.trans h8) (by decide)
        refine lv_iinc (v := nI ((kept.length + gone) + 1)) (lv' := [(5, .int (nI ((kept.length + gone) + 1))), (6, .ref t), (4, .int (nI gone)), (3, .int (nI (ol f).length)), (2, .ref (ly_f y 3 f)), (0, .ref (ly_a y 0)), (1, .ref (ly_f y 1 f))]) hK.1.1 hK.1.2.1 dX4_throwOldParts_80 hl (k := 1) rfl (nI_1 (kept.length + gone)) (by decide) rfl (fun ls hl => ?_)
        have hl : lv_has ls 7 [(5, .int (nI ((kept ++ [t]).length + gone))), (6, .ref t), (4, .int (nI gone)), (3, .int (nI (ol f).length)), (2, .ref (ly_f y 3 f)), (0, .ref (ly_a y 0)), (1, .ref (ly_f y 1 f))] := by rw [show (kept ++ [t]).length + gone = kept.length + gone + 1 by simp; omega]; exact hl
        refine lv_goto (tgt := 16) hK.1.1 hK.1.2.1 dX4_throwOldParts_83 (by decide) ?_
        exact ih (rest.length) (by simp only [List.length_cons] at hdd; omega)  rest (kept ++ [t]) gone x ls _ _ _ rfl (by simp only [List.length_cons, List.length_append, List.length_nil] at hlen ⊢; omega) (by rw [h1]; simp only [t_kp, if_neg hgo, List.append_assoc, List.singleton_append]) (by rw [h2]; simp only [t_th, if_neg hgo]) (by rw [h3]; simp only [t_th, if_neg hgo]) (by rw [List.append_assoc]; exact hinr) hP hS (by rw [List.append_assoc]; exact hR) (lv_sub hl [0, 2, 3, 4, 5, 6] rfl)
      · have hgo : (t_goF td pf hp (ru (fr f) 4) (ru (fr f) 5) (ru (fr f) 6)) t ((ol f).length - gone) = true := by cases hz : (t_goF td pf hp (ru (fr f) 4) (ru (fr f) 5) (ru (fr f) 6)) t ((ol f).length - gone) with | true => rfl | false => exact absurd (rg_b0.mpr hz) c50_1
        refine lv_aload_n hK.1.1 hK.1.2.1 dX4_throwOldParts_53 rfl (lv_at hl 6 rfl) ?_
        refine lv_dup hK.1.1 hK.1.2.1 dX4_throwOldParts_54 rfl ?_
        refine tr_160 hK hP hR hf5 dX4_throwOldParts_55 ?_
        refine lv_aload hK.1.1 hK.1.2.1 dX4_throwOldParts_58 (lv_at hl 0 rfl) ?_
        refine tr_104 hK hP hR htP dX4_throwOldParts_60 ?_
        refine lv_iadd hK.1.1 hK.1.2.1 dX4_throwOldParts_63 ?_
        refine tw_160 hK hP hS hR hf5 dX4_throwOldParts_64 (fun H locs G hP hS hR => ?_)
        rw [va_up_up, va_up_self] at hR
        refine lv_aload_n hK.1.1 hK.1.2.1 dX4_throwOldParts_67 rfl (lv_at hl 4 rfl) ?_
        refine lv_iload hK.1.1 hK.1.2.1 dX4_throwOldParts_68 (lv_at hl 1 rfl) ?_
        refine lv_iload hK.1.1 hK.1.2.1 dX4_throwOldParts_70 (lv_at hl 2 rfl) ?_
        refine lv_isub hK.1.1 hK.1.2.1 dX4_throwOldParts_72 ?_
        rw [pk_sub (Nat.le_add_left _ _), Nat.add_sub_cancel]
        refine gk_callV0 (n := 1) (As := [.int (nI kept.length)]) (rest := []) hK (c_list_remove l hR hf5 (by rw [va_up_self]; exact hinr) (by rw [va_up_self]; exact gl_mid _ _ _)) (gk_gV q_16_10 q_16_11 q_16_12 q_2_15 q_16_13) ⟨rfl, by decide +kernel, by decide +kernel, by decide +kernel⟩ ⟨(Nat.le_of_ble_eq_true rfl), (Nat.le_of_ble_eq_true rfl)⟩ hP hS (rp_recvL hK.2.2.1 hP hR hf5) rfl hl.1 rfl (Nat.le_of_ble_eq_true rfl) dX4_throwOldParts_73 ⟨(Nat.le_of_ble_eq_true rfl), (Nat.le_of_ble_eq_true rfl)⟩ (fun v G1 H locs hw hP hS => ?_)
        obtain ⟨rfl, hR⟩ := hw
        refine W.eq (g2 := F0 m 76 ls [.ref t]) rfl ?_
        rw [va_up_up, va_up_self, gl_erase] at hR
        refine lv_pop hK.1.1 hK.1.2.1 dX4_throwOldParts_76 rfl ?_
        refine lv_iinc (v := nI (gone + 1)) (lv' := [(4, .int (nI (gone + 1))), (6, .ref t), (5, .int (nI (kept.length + gone))), (3, .int (nI (ol f).length)), (2, .ref (ly_f y 3 f)), (0, .ref (ly_a y 0)), (1, .ref (ly_f y 1 f))]) hK.1.1 hK.1.2.1 dX4_throwOldParts_77 hl (k := 2) rfl (nI_1 gone) (by decide) rfl (fun ls hl => ?_)
        refine lv_iinc (v := nI ((kept.length + gone) + 1)) (lv' := [(5, .int (nI ((kept.length + gone) + 1))), (4, .int (nI (gone + 1))), (6, .ref t), (3, .int (nI (ol f).length)), (2, .ref (ly_f y 3 f)), (0, .ref (ly_a y 0)), (1, .ref (ly_f y 1 f))]) hK.1.1 hK.1.2.1 dX4_throwOldParts_80 hl (k := 2) rfl (nI_1 (kept.length + gone)) (by decide) rfl (fun ls hl => ?_)
        have hl : lv_has ls 7 [(5, .int (nI (kept.length + (gone + 1)))), (4, .int (nI (gone + 1))), (6, .ref t), (3, .int (nI (ol f).length)), (2, .ref (ly_f y 3 f)), (0, .ref (ly_a y 0)), (1, .ref (ly_f y 1 f))] := by rw [Nat.add_assoc] at hl; exact hl
        refine lv_goto (tgt := 16) hK.1.1 hK.1.2.1 dX4_throwOldParts_83 (by decide) ?_
        exact ih (rest.length) (by simp only [List.length_cons] at hdd; omega)  rest kept (gone + 1) (x + pf 0 t) ls _ _ _ rfl (by simp only [List.length_cons] at hlen; omega) (by rw [h1]; simp only [t_kp, if_pos hgo]; rw [Nat.sub_sub]) (by rw [h2]; simp only [t_th, if_pos hgo, List.length_cons]; rw [Nat.sub_sub]; omega) (by rw [h3]; simp only [t_th, if_pos hgo, t_sum]; rw [Nat.sub_sub]) (fun q hq => hinr q (by simp only [List.mem_append, List.mem_cons] at hq ⊢; rcases hq with hq | hq; exact Or.inl hq; exact Or.inr (Or.inr hq))) hP hS hR (lv_sub hl [0, 1, 3, 4, 5, 6] rfl)
  exact loop _ (ol f) [] 0 (tl f) ls _ _ _ rfl (by simp) rfl (by simp) rfl hin hP hS (by rw [List.nil_append, gl_upsame, gl_upsame]; exact hR) (lv_sub hl [0, 1, 2, 3, 4, 5] rfl)
end
section
/-! the class: the turn of a file -/
theorem gk_obj {p : Program} {l : Launch} {e : Env} {R : Room} {s : State} {m : MethodId} {args : Array Value} {below : List Frame} {meth : Method} {c : Code} {H : Heap} {locs : List Loc} {cells slots : Nat} {Q : State → Prop} {cc : ByteArray} {pc nL idx a : Nat} {ls : Array Slot} {rest : List Value} {A : Nat → Prop} {own : String} {y : ly_T}
    (hK : gk_K p s m c args cc own nL y A) (hl : Cond.methodLink own idx objectInit ∈ wsL_law) (hsz : ls.size = nL) (hR : 1 ≤ R.frames ∧ 20 ≤ R.locals) (hW : (rest.map fun v => v.category).sum ≤ 8) (hdg : decode cc pc = .ok (.invokespecial idx, 3))
    (kk : W p l e R s m args below meth c H locs cells slots Q (F0 m (pc + 3) ls rest)) : W p l e R s m args below meth c H locs cells slots Q (F0 m pc ls (.ref a :: rest)) :=
  W.objInit hK.1.1 hK.1.2.1 hK.1.2.2.1 (hK.1.2.2.2 _ hl) (hK.1.2.2.2 _ q_1_11) (hK.1.2.2.2 _ q_1_12) rfl (hsz.trans hK.2.1.symm) rfl hdg hR.1 (by have : (F0 m pc ls (.ref a :: rest)).monitorRoom = 0 := rfl; omega) kk
theorem rp_newp {y : ly_T} {G : gk_G} {td : Int32} {ru : Nat → Nat → Int32} {fr lv : Nat → Nat} {lt et tl : Nat → Int32} {hf hp : Nat → Option Nat} {ol : Nat → List Nat} {PS : Nat → Prop} {pf : Nat → Nat → Int32} {ov : Int64} {md mq mt : Int32} {mv : Nat → Nat → Int32} {q : Nat} (hR : rp y G td ru fr lv lt et tl hf hp ol PS pf ov md mq mt mv) (hn : G q = none) : rp y (gk_up G q (.inr (3, [.int 0, .int 0, .int 0]))) td ru fr lv lt et tl hf hp ol (fun t => PS t ∨ t = q) (fun i t => if t = q then 0 else pf i t) ov md mq mt mv := by
  obtain ⟨hA, hB, hRr, hF, hH, hL, hS, hO, hM⟩ := hR
  refine ⟨rpA_keep hA (rp_off_n hn), rpB_keep hB (rp_off_n hn), rpR_keep hRr (rp_off_n hn), rpF_keep hF (rp_off_n hn), rpH_keep hH (rp_off_n hn), rpL_keep hL (rp_off_n hn) (rp_off_n hn), fun t ht => ?_, rpO_keep hO (rp_off_n hn), rpM_keep hM (rp_off_n hn) (rp_off_n hn)⟩
  by_cases hq : t = q
  · subst hq
    rw [gk_us]
    simp [rp_eS]
  · rw [gk_un _ _ hq, hS t (ht.resolve_right hq)]
    simp [rp_eS, hq]
set_option maxHeartbeats 4000000 in
set_option maxRecDepth 100000 in
theorem c_X2_init (l : Launch) {y : ly_T} {A : Nat → Prop} {G : gk_G} {q : Nat} : gk_M0 l yX2_init (Cond.code yX2_init cX2_init 1 none) 1 20 0 0 y A [.ref q] G (fun v G1 => v = none ∧ G1 = G) := by
  refine gk_of0 (cc := cX2_init) (maxL := 1) (ret := none) (own := RX2) (by decide +kernel) rfl rfl (Nat.le_of_ble_eq_true rfl) ?_
  intro p e s m below meth c ls hK hret hlk _ hP hS hl
  have hl : lv_has ls 1 [(0, .ref q)] := hl
  refine lv_aload_n hK.1.1 hK.1.2.1 dX2_init_0 rfl (lv_at hl 0 rfl) ?_
  refine gk_obj hK q_3_16 hl.1 ⟨(Nat.le_of_ble_eq_true rfl), (Nat.le_of_ble_eq_true rfl)⟩ (Nat.le_of_ble_eq_true rfl) dX2_init_1 ?_
  exact gk_vret0 hK.1 hret hlk hP hS (Nat.le_of_ble_eq_true rfl) (Nat.le_of_ble_eq_true rfl) dX2_init_4 ⟨rfl, rfl⟩
/-- the parts' fields behind a turn of f on the day td; q is the new live part -/
def t_tpf (td : Int32) (ru : Nat → Nat → Int32) (fr lv : Nat → Nat) (hp : Nat → Option Nat) (ol : Nat → List Nat) (pf : Nat → Nat → Int32) (f q : Nat) : Nat → Nat → Int32 := if ru (fr f) 7 = 0 then (fun i t => if t = q then 0 else rp_u2 pf 1 (lv f) td i t) else t_sq hp (fun i t => if t = q then 0 else rp_u2 pf 1 (lv f) td i t) (ol f)
/-- which old parts go at a turn of f -/
def t_tgo (td : Int32) (ru : Nat → Nat → Int32) (fr lv : Nat → Nat) (hp : Nat → Option Nat) (ol : Nat → List Nat) (pf : Nat → Nat → Int32) (f q : Nat) : Nat → Nat → Bool := t_goF td (t_tpf td ru fr lv hp ol pf f q) hp (ru (fr f) 4) (ru (fr f) 5) (ru (fr f) 6)
def t_tth (td : Int32) (ru : Nat → Nat → Int32) (fr lv : Nat → Nat) (hp : Nat → Option Nat) (ol : Nat → List Nat) (pf : Nat → Nat → Int32) (f q : Nat) : List Nat := t_th (t_tgo td ru fr lv hp ol pf f q) (ol f ++ [lv f]).length (ol f ++ [lv f])
def t_tkp (td : Int32) (ru : Nat → Nat → Int32) (fr lv : Nat → Nat) (hp : Nat → Option Nat) (ol : Nat → List Nat) (pf : Nat → Nat → Int32) (f q : Nat) : List Nat := t_kp (t_tgo td ru fr lv hp ol pf f q) (ol f ++ [lv f]).length (ol f ++ [lv f])
set_option maxHeartbeats 4000000 in
set_option maxRecDepth 100000 in
theorem c_X4_turnToday (l : Launch) {y : ly_T} {A : Nat → Prop} {G : gk_G} {td : Int32} {ru : Nat → Nat → Int32} {fr lv : Nat → Nat} {lt et tl : Nat → Int32} {hf hp : Nat → Option Nat} {ol : Nat → List Nat} {PS : Nat → Prop} {pf : Nat → Nat → Int32} {ov : Int64} {md mq mt : Int32} {mv : Nat → Nat → Int32} {f : Nat}  (hR : rp y G td ru fr lv lt et tl hf hp ol PS pf ov md mq mt mv) (hf5 : f < 5) (hLl : ∀ f, f < 5 → PS (lv f)) (hin : ∀ q ∈ ol f, PS q) (hlen : (ol f).length < 512) : gk_M0 l yX4_turnToday (Cond.code yX4_turnToday cX4_turnToday 3 (some .int)) 7 240 2 1503 y A [.ref (ly_a y 0), .ref (ly_f y 1 f)] G (fun v G1 => ∃ q, ¬ PS q ∧ v = some (.int (nI (t_tth td ru fr lv hp ol pf f q).length)) ∧ rp y G1 td ru fr (va_up lv f q) (va_up lt f td) (va_up et f 1) (va_up tl f (t_sum (t_tpf td ru fr lv hp ol pf f q) (tl f) (t_tth td ru fr lv hp ol pf f q))) hf hp (va_up ol f (t_tkp td ru fr lv hp ol pf f q)) (fun t => PS t ∨ t = q) (t_tpf td ru fr lv hp ol pf f q) ov md mq mt mv) := by
  refine gk_of0 (cc := cX4_turnToday) (maxL := 3) (ret := (some .int)) (own := RX4) (by decide +kernel) rfl rfl (Nat.le_of_ble_eq_true rfl) ?_
  intro p e s m below meth c ls hK hret hlk _ hP hS hl
  have hl : lv_has ls 3 [(0, .ref (ly_a y 0)), (1, .ref (ly_f y 1 f))] := hl
  refine lv_aload_n hK.1.1 hK.1.2.1 dX4_turnToday_0 rfl (lv_at hl 1 rfl) ?_
  refine tr_137 hK hP hR hf5 dX4_turnToday_1 ?_
  refine gk_callV0 (n := 0) (As := []) (rest := []) hK (c_list_size l hR hf5) (gk_gV q_12_10 q_12_11 q_12_12 q_2_15 q_12_13) ⟨rfl, by decide +kernel, by decide +kernel, by decide +kernel⟩ ⟨(Nat.le_of_ble_eq_true rfl), (Nat.le_of_ble_eq_true rfl)⟩ hP hS (rp_recvL hK.2.2.1 hP hR hf5) rfl hl.1 rfl (Nat.le_of_ble_eq_true rfl) dX4_turnToday_4 ⟨(Nat.le_of_ble_eq_true rfl), (Nat.le_of_ble_eq_true rfl)⟩ (fun v G1 H locs hw hP hS => ?_)
  obtain ⟨rfl, hG9⟩ := hw
  rw [hG9] at hP
  refine W.eq (g2 := F0 m 7 ls [.int (nI (ol f).length)]) rfl ?_
  refine lv_sipush (v := 512) hK.1.1 hK.1.2.1 dX4_turnToday_7 (by decide) ?_
  refine lv_icmp_lt (tgt := 15) hK.1.1 hK.1.2.1 dX4_turnToday_10 (by decide) (fun _ => ?_) (fun c => absurd (nI_lt (show (ol f).length < 512 by omega) (by decide)) c)
  refine lv_aload_n hK.1.1 hK.1.2.1 dX4_turnToday_15 rfl (lv_at hl 1 rfl) ?_
  refine tr_90 hK hP hR hf5 dX4_turnToday_16 ?_
  refine lv_astore_n (lv' := [(2, .ref (lv f)), (0, .ref (ly_a y 0)), (1, .ref (ly_f y 1 f))]) hK.1.1 hK.1.2.1 dX4_turnToday_19 rfl hl (by decide) rfl (fun ls hl => ?_)
  refine lv_aload_n hK.1.1 hK.1.2.1 dX4_turnToday_20 rfl (lv_at hl 0 rfl) ?_
  refine lv_aload_n hK.1.1 hK.1.2.1 dX4_turnToday_21 rfl (lv_at hl 1 rfl) ?_
  refine tr_109 hK hP hR dX4_turnToday_22 ?_
  refine tw_150 hK hP hS hR (hLl f hf5) dX4_turnToday_25 (fun H locs G hP hS hR => ?_)
  refine lv_aload_n hK.1.1 hK.1.2.1 dX4_turnToday_28 rfl (lv_at hl 2 rfl) ?_
  refine tr_137 hK hP hR hf5 dX4_turnToday_29 ?_
  refine lv_aload_n hK.1.1 hK.1.2.1 dX4_turnToday_32 rfl (lv_at hl 0 rfl) ?_
  refine gk_callV0 (n := 1) (As := [.ref (lv f)]) (rest := []) hK (c_list_add l hR hf5 hin (hLl f hf5) (by omega)) (gk_gV q_12_15 q_12_16 q_12_17 q_2_15 q_12_18) ⟨rfl, by decide +kernel, by decide +kernel, by decide +kernel⟩ ⟨(Nat.le_of_ble_eq_true rfl), (Nat.le_of_ble_eq_true rfl)⟩ hP hS (rp_recvL hK.2.2.1 hP hR hf5) rfl hl.1 rfl (Nat.le_of_ble_eq_true rfl) dX4_turnToday_33 ⟨(Nat.le_of_ble_eq_true rfl), (Nat.le_of_ble_eq_true rfl)⟩ (fun v G1 H locs hw hP hS => ?_)
  obtain ⟨rfl, hR⟩ := hw
  refine W.eq (g2 := F0 m 36 ls [.int 1]) rfl ?_
  refine lv_pop hK.1.1 hK.1.2.1 dX4_turnToday_36 rfl ?_
  refine lv_aload_n hK.1.1 hK.1.2.1 dX4_turnToday_37 rfl (lv_at hl 2 rfl) ?_
  refine gk_new hK.1 hK.2.2.1.1 hP hS hK.2.2.2 (ci := 3) (C := RX2) (T := TX2) (N := 3) rfl inlX2 tyX2 tyX2_ok q_12_9 q_2_18 q_2_19 (fs := [.int 0, .int 0, .int 0]) (by decide +kernel) (Nat.le_of_ble_eq_true rfl) (Nat.le_of_ble_eq_true rfl) dX4_turnToday_38 (fun q H hn hP hS => ?_)
  have hq9 : ¬ PS q := fun h => by have h8 := hR.2.2.2.2.2.2.1 q h; rw [hn] at h8; cases h8
  have hR := rp_newp hR hn
  refine lv_dup hK.1.1 hK.1.2.1 dX4_turnToday_41 rfl ?_
  refine gk_callIN (n := 0) (As := []) (rest := [.ref q, .ref (ly_f y 1 f)]) hK (c_X2_init l) q_3_15 q_2_19 hK.2.2.1.2.2.1.2.2.1.1 q_3_14 rfl ⟨by decide +kernel, by decide +kernel, by decide +kernel⟩ ⟨(Nat.le_of_ble_eq_true rfl), (Nat.le_of_ble_eq_true rfl)⟩ hP hS rfl hl.1 rfl (Nat.le_of_ble_eq_true rfl) dX4_turnToday_42 ⟨(Nat.le_of_ble_eq_true rfl), (Nat.le_of_ble_eq_true rfl)⟩ (fun v G1 H locs hw hP hS => ?_)
  obtain ⟨rfl, hG9⟩ := hw
  rw [hG9] at hP
  refine W.eq (g2 := F0 m 45 ls [.ref q, .ref (ly_f y 1 f)]) rfl ?_
  refine tw_90 hK hP hS hR hf5 dX4_turnToday_45 (fun H locs G hP hS hR => ?_)
  refine lv_aload_n hK.1.1 hK.1.2.1 dX4_turnToday_48 rfl (lv_at hl 1 rfl) ?_
  refine lv_aload_n hK.1.1 hK.1.2.1 dX4_turnToday_49 rfl (lv_at hl 2 rfl) ?_
  refine gk_callV0 (n := 1) (As := [.ref (ly_f y 1 f)]) (rest := []) hK (c_X4_markTurnedToday l hR (f := f) hf5) (gk_gV q_14_19 q_14_20 q_14_21 q_1_2 q_14_22) ⟨rfl, by decide +kernel, by decide +kernel, by decide +kernel⟩ ⟨(Nat.le_of_ble_eq_true rfl), (Nat.le_of_ble_eq_true rfl)⟩ hP hS (gk_recv hK.2.2.1.1 hP hR.1 rfl) rfl hl.1 rfl (Nat.le_of_ble_eq_true rfl) dX4_turnToday_50 ⟨(Nat.le_of_ble_eq_true rfl), (Nat.le_of_ble_eq_true rfl)⟩ (fun v G1 H locs hw hP hS => ?_)
  obtain ⟨rfl, hR⟩ := hw
  refine W.eq (g2 := F0 m 53 ls []) rfl ?_
  have hin2 : ∀ z ∈ (va_up ol f (ol f ++ [lv f])) f, PS z ∨ z = q := by
    rw [va_up_self]
    intro z hz
    rcases List.mem_append.mp hz with hz | hz
    · exact Or.inl (hin z hz)
    · rw [List.mem_singleton.mp hz]; exact Or.inl (hLl f hf5)
  refine lv_aload_n hK.1.1 hK.1.2.1 dX4_turnToday_53 rfl (lv_at hl 2 rfl) ?_
  refine tr_75 hK hP hR hf5 dX4_turnToday_54 ?_
  refine tr_61 hK hP hR (hR.2.2.2.1 f hf5).1 dX4_turnToday_57 ?_
  refine lv_if_eq (tgt := 71) hK.1.1 hK.1.2.1 dX4_turnToday_60 (by decide) (fun c60_1 => ?_) (fun c60_1 => ?_)
  · have hsq : ru (fr f) 7 = 0 := c60_1
    rw [← show t_tpf td ru fr lv hp ol pf f q = (fun i t => if t = q then 0 else rp_u2 pf 1 (lv f) td i t) from if_pos hsq] at hR
    refine lv_aload_n hK.1.1 hK.1.2.1 dX4_turnToday_71 rfl (lv_at hl 1 rfl) ?_
    refine lv_aload_n hK.1.1 hK.1.2.1 dX4_turnToday_72 rfl (lv_at hl 2 rfl) ?_
    refine gk_callV0 (n := 1) (As := [.ref (ly_f y 1 f)]) (rest := []) hK (c_X4_throwOldParts l hR hf5 (by rw [va_up_self]; simp; omega) hin2) (gk_gV q_16_1 q_16_2 q_16_3 q_1_2 q_16_4) ⟨rfl, by decide +kernel, by decide +kernel, by decide +kernel⟩ ⟨(Nat.le_of_ble_eq_true rfl), (Nat.le_of_ble_eq_true rfl)⟩ hP hS (gk_recv hK.2.2.1.1 hP hR.1 rfl) rfl hl.1 rfl (Nat.le_of_ble_eq_true rfl) dX4_turnToday_73 ⟨(Nat.le_of_ble_eq_true rfl), (Nat.le_of_ble_eq_true rfl)⟩ (fun v G1 H locs hw hP hS => ?_)
    obtain ⟨rfl, hR⟩ := hw
    rw [va_up_self, va_up_up] at hR
    rw [va_up_self]
    refine W.eq (g2 := F0 m 76 ls [.int (nI (t_tth td ru fr lv hp ol pf f q).length)]) rfl ?_
    exact gk_iret0 hK.1 hret hlk hP hS (Nat.le_of_ble_eq_true rfl) (Nat.le_of_ble_eq_true rfl) dX4_turnToday_76 ⟨q, hq9, rfl, hR⟩
  · have hsq : ¬ ru (fr f) 7 = 0 := c60_1
    refine lv_aload_n hK.1.1 hK.1.2.1 dX4_turnToday_63 rfl (lv_at hl 1 rfl) ?_
    refine lv_aload_n hK.1.1 hK.1.2.1 dX4_turnToday_64 rfl (lv_at hl 2 rfl) ?_
    refine tr_137 hK hP hR hf5 dX4_turnToday_65 ?_
    refine gk_callV0 (n := 1) (As := [.ref (ly_f y 3 f)]) (rest := []) hK (c_X4_squeezeOldParts l hR hf5 (n := (ol f).length) (by rw [va_up_self]; simp) (by omega) hin2) (gk_gV q_14_23 q_15_0 q_15_1 q_1_2 q_15_2) ⟨rfl, by decide +kernel, by decide +kernel, by decide +kernel⟩ ⟨(Nat.le_of_ble_eq_true rfl), (Nat.le_of_ble_eq_true rfl)⟩ hP hS (gk_recv hK.2.2.1.1 hP hR.1 rfl) rfl hl.1 rfl (Nat.le_of_ble_eq_true rfl) dX4_turnToday_68 ⟨(Nat.le_of_ble_eq_true rfl), (Nat.le_of_ble_eq_true rfl)⟩ (fun v G1 H locs hw hP hS => ?_)
    obtain ⟨rfl, hR⟩ := hw
    rw [va_up_self, List.take_left] at hR
    rw [← show t_tpf td ru fr lv hp ol pf f q = t_sq hp (fun i t => if t = q then 0 else rp_u2 pf 1 (lv f) td i t) (ol f) from if_neg hsq] at hR
    refine W.eq (g2 := F0 m 71 ls []) rfl ?_
    refine lv_aload_n hK.1.1 hK.1.2.1 dX4_turnToday_71 rfl (lv_at hl 1 rfl) ?_
    refine lv_aload_n hK.1.1 hK.1.2.1 dX4_turnToday_72 rfl (lv_at hl 2 rfl) ?_
    refine gk_callV0 (n := 1) (As := [.ref (ly_f y 1 f)]) (rest := []) hK (c_X4_throwOldParts l hR hf5 (by rw [va_up_self]; simp; omega) hin2) (gk_gV q_16_1 q_16_2 q_16_3 q_1_2 q_16_4) ⟨rfl, by decide +kernel, by decide +kernel, by decide +kernel⟩ ⟨(Nat.le_of_ble_eq_true rfl), (Nat.le_of_ble_eq_true rfl)⟩ hP hS (gk_recv hK.2.2.1.1 hP hR.1 rfl) rfl hl.1 rfl (Nat.le_of_ble_eq_true rfl) dX4_turnToday_73 ⟨(Nat.le_of_ble_eq_true rfl), (Nat.le_of_ble_eq_true rfl)⟩ (fun v G1 H locs hw hP hS => ?_)
    obtain ⟨rfl, hR⟩ := hw
    rw [va_up_self, va_up_up] at hR
    rw [va_up_self]
    refine W.eq (g2 := F0 m 76 ls [.int (nI (t_tth td ru fr lv hp ol pf f q).length)]) rfl ?_
    exact gk_iret0 hK.1 hret hlk hP hS (Nat.le_of_ble_eq_true rfl) (Nat.le_of_ble_eq_true rfl) dX4_turnToday_76 ⟨q, hq9, rfl, hR⟩
end
section
/-! the class: the calls that ask -/
theorem rp_len {y : ly_T} {G : gk_G} {td : Int32} {ru : Nat → Nat → Int32} {fr lv : Nat → Nat} {lt et tl : Nat → Int32} {hf hp : Nat → Option Nat} {ol : Nat → List Nat} {PS : Nat → Prop} {pf : Nat → Nat → Int32} {ov : Int64} {md mq mt : Int32} {mv : Nat → Nat → Int32} (hR : rp y G td ru fr lv lt et tl hf hp ol PS pf ov md mq mt mv) {f : Nat} (hf5 : f < 5) : (ol f).length ≤ 1000 := by
  obtain ⟨⟨ea, mc, h1, h2⟩, h3⟩ := hR.2.2.2.2.2.1
  exact (h1 f hf5).2.1
/-- how many of the first k have the day d -/
def t_cnt (pf : Nat → Nat → Int32) (l : List Nat) (k : Nat) (d : Int32) : Nat := ((l.take k).filter (fun t => decide (pf 1 t = d))).length
theorem t_cnt_e {pf : Nat → Nat → Int32} {l : List Nat} {k t : Nat} {d : Int32} (hk : l[k]? = some t) (h : pf 1 t = d) : t_cnt pf l (k + 1) d = t_cnt pf l k d + 1 := by
  have : l.take (k + 1) = l.take k ++ [t] := by rw [List.take_add_one, hk]; rfl
  simp [t_cnt, this, List.filter_append, h]
theorem t_cnt_n {pf : Nat → Nat → Int32} {l : List Nat} {k t : Nat} {d : Int32} (hk : l[k]? = some t) (h : ¬ pf 1 t = d) : t_cnt pf l (k + 1) d = t_cnt pf l k d := by
  have : l.take (k + 1) = l.take k ++ [t] := by rw [List.take_add_one, hk]; rfl
  simp [t_cnt, this, List.filter_append, h]
/-- the place of t in l: one more than its first index, or 0 -/
def t_plc (l : List Nat) (t : Nat) (x : Int32) : Prop := (∃ k, l[k]? = some t ∧ (∀ j, j < k → ¬ l[j]? = some t) ∧ x = nI (k + 1)) ∨ ((∀ j : Nat, ¬ l[j]? = some t) ∧ x = 0)
set_option maxHeartbeats 4000000 in
set_option maxRecDepth 100000 in
theorem c_X4_turn (l : Launch) {y : ly_T} {A : Nat → Prop} {G : gk_G} {td : Int32} {ru : Nat → Nat → Int32} {fr lv : Nat → Nat} {lt et tl : Nat → Int32} {hf hp : Nat → Option Nat} {ol : Nat → List Nat} {PS : Nat → Prop} {pf : Nat → Nat → Int32} {ov : Int64} {md mq mt : Int32} {mv : Nat → Nat → Int32} {i : Int32}  (hfl : l.stackTraces = false) (hR : rp y G td ru fr lv lt et tl hf hp ol PS pf ov md mq mt mv) (hLl : ∀ f, f < 5 → PS (lv f)) (hin5 : ∀ f, f < 5 → ∀ q ∈ ol f, PS q) (hlen5 : ∀ f, f < 5 → (ol f).length < 512) : gk_M l yX4_turn (Cond.code yX4_turn cX4_turn 2 (some .int)) 8 270 3 1509 y A [.ref (ly_a y 0), .int i] G (fun v G1 => ∃ f q, f < 5 ∧ i = nI f ∧ ¬ PS q ∧ v = some (.int (nI (t_tth td ru fr lv hp ol pf f q).length)) ∧ rp y G1 td ru fr (va_up lv f q) (va_up lt f td) (va_up et f 1) (va_up tl f (t_sum (t_tpf td ru fr lv hp ol pf f q) (tl f) (t_tth td ru fr lv hp ol pf f q))) hf hp (va_up ol f (t_tkp td ru fr lv hp ol pf f q)) (fun t => PS t ∨ t = q) (t_tpf td ru fr lv hp ol pf f q) ov md mq mt mv) (fun E G1 => E = "java/lang/IndexOutOfBoundsException" ∧ G1 = G ∧ rg_out i 5) := by
  refine gk_ofX (cc := cX4_turn) (maxL := 2) (ret := (some .int)) (own := RX4) (by decide +kernel) rfl rfl (Nat.le_of_ble_eq_true rfl) ?_
  intro p e s m below meth c ls hK hret hlk hex hP hS hl
  have hl : lv_has ls 2 [(0, .ref (ly_a y 0)), (1, .int i)] := hl
  refine lv_aload_n hK.1.1 hK.1.2.1 dX4_turn_0 rfl (lv_at hl 0 rfl) ?_
  refine lv_aload_n hK.1.1 hK.1.2.1 dX4_turn_1 rfl (lv_at hl 0 rfl) ?_
  refine lv_iload_n hK.1.1 hK.1.2.1 dX4_turn_2 rfl (lv_at hl 1 rfl) ?_
  refine gk_callV (n := 1) (As := [.int i]) (rest := [.ref (ly_a y 0)]) hK (c_X4_fileOf l hfl hR (i := i)) (gk_gV q_7_19 q_7_20 q_7_21 q_1_2 q_7_22) ⟨rfl, by decide +kernel, by decide +kernel, by decide +kernel⟩ ⟨(Nat.le_of_ble_eq_true rfl), (Nat.le_of_ble_eq_true rfl)⟩ hP hS (gk_recv hK.2.2.1.1 hP hR.1 rfl) rfl hl.1 rfl (Nat.le_of_ble_eq_true rfl) dX4_turn_3 ⟨(Nat.le_of_ble_eq_true rfl), (Nat.le_of_ble_eq_true rfl)⟩ (fun E ce q9 G1 H locs hx hP hS h1 h2 h3 => gk_out hex hlk hP hS h1 h2 h3 hx (Nat.le_of_ble_eq_true rfl) (Nat.le_of_ble_eq_true rfl)) (fun v G1 H locs hw hP hS => ?_)
  obtain ⟨f_1, hf_1, rfl, rfl, hG9⟩ := hw
  rw [hG9] at hP
  refine W.eq (g2 := F0 m 6 ls [.ref (ly_f y 1 f_1), .ref (ly_a y 0)]) rfl ?_
  refine gk_callV0 (n := 1) (As := [.ref (ly_f y 1 f_1)]) (rest := []) hK (c_X4_turnToday l hR (f := f_1) hf_1 hLl (hin5 f_1 hf_1) (hlen5 f_1 hf_1)) (gk_gV q_12_3 q_12_4 q_12_5 q_1_2 q_12_6) ⟨rfl, by decide +kernel, by decide +kernel, by decide +kernel⟩ ⟨(Nat.le_of_ble_eq_true rfl), (Nat.le_of_ble_eq_true rfl)⟩ hP hS (gk_recv hK.2.2.1.1 hP hR.1 rfl) rfl hl.1 rfl (Nat.le_of_ble_eq_true rfl) dX4_turn_6 ⟨(Nat.le_of_ble_eq_true rfl), (Nat.le_of_ble_eq_true rfl)⟩ (fun v G1 H locs hw hP hS => ?_)
  obtain ⟨q, hq9, rfl, hR⟩ := hw
  refine W.eq (g2 := F0 m 9 ls [.int (nI (t_tth td ru fr lv hp ol pf f_1 q).length)]) rfl ?_
  exact vx_ret (gk_iret0 hK.1 hret hlk hP hS (Nat.le_of_ble_eq_true rfl) (Nat.le_of_ble_eq_true rfl) dX4_turn_9 ⟨f_1, q, hf_1, rfl, hq9, rfl, hR⟩)
set_option maxHeartbeats 4000000 in
set_option maxRecDepth 100000 in
theorem c_X4_live (l : Launch) {y : ly_T} {A : Nat → Prop} {G : gk_G} {td : Int32} {ru : Nat → Nat → Int32} {fr lv : Nat → Nat} {lt et tl : Nat → Int32} {hf hp : Nat → Option Nat} {ol : Nat → List Nat} {PS : Nat → Prop} {pf : Nat → Nat → Int32} {ov : Int64} {md mq mt : Int32} {mv : Nat → Nat → Int32} {i : Int32}  (hfl : l.stackTraces = false) (hR : rp y G td ru fr lv lt et tl hf hp ol PS pf ov md mq mt mv) (hLl : ∀ f, f < 5 → PS (lv f)) : gk_M l yX4_live (Cond.code yX4_live cX4_live 2 (some .int)) 7 110 16 128 y A [.ref (ly_a y 0), .int i] G (fun v G1 => ∃ f, f < 5 ∧ i = nI f ∧ v = some (.int (pf 0 (lv f))) ∧ G1 = G) (fun E G1 => E = "java/lang/IndexOutOfBoundsException" ∧ G1 = G ∧ rg_out i 5) := by
  refine gk_ofX (cc := cX4_live) (maxL := 2) (ret := (some .int)) (own := RX4) (by decide +kernel) rfl rfl (Nat.le_of_ble_eq_true rfl) ?_
  intro p e s m below meth c ls hK hret hlk hex hP hS hl
  have hl : lv_has ls 2 [(0, .ref (ly_a y 0)), (1, .int i)] := hl
  refine lv_aload_n hK.1.1 hK.1.2.1 dX4_live_0 rfl (lv_at hl 0 rfl) ?_
  refine lv_iload_n hK.1.1 hK.1.2.1 dX4_live_1 rfl (lv_at hl 1 rfl) ?_
  refine gk_callV (n := 1) (As := [.int i]) (rest := []) hK (c_X4_fileOf l hfl hR (i := i)) (gk_gV q_7_19 q_7_20 q_7_21 q_1_2 q_7_22) ⟨rfl, by decide +kernel, by decide +kernel, by decide +kernel⟩ ⟨(Nat.le_of_ble_eq_true rfl), (Nat.le_of_ble_eq_true rfl)⟩ hP hS (gk_recv hK.2.2.1.1 hP hR.1 rfl) rfl hl.1 rfl (Nat.le_of_ble_eq_true rfl) dX4_live_2 ⟨(Nat.le_of_ble_eq_true rfl), (Nat.le_of_ble_eq_true rfl)⟩ (fun E ce q9 G1 H locs hx hP hS h1 h2 h3 => gk_out hex hlk hP hS h1 h2 h3 hx (Nat.le_of_ble_eq_true rfl) (Nat.le_of_ble_eq_true rfl)) (fun v G1 H locs hw hP hS => ?_)
  obtain ⟨f_1, hf_1, rfl, rfl, hG9⟩ := hw
  rw [hG9] at hP
  refine W.eq (g2 := F0 m 5 ls [.ref (ly_f y 1 f_1)]) rfl ?_
  refine tr_90 hK hP hR hf_1 dX4_live_5 ?_
  refine tr_104 hK hP hR (hLl _ hf_1) dX4_live_8 ?_
  exact vx_ret (gk_iret0 hK.1 hret hlk hP hS (Nat.le_of_ble_eq_true rfl) (Nat.le_of_ble_eq_true rfl) dX4_live_11 ⟨f_1, hf_1, rfl, rfl, rfl⟩)
set_option maxHeartbeats 4000000 in
set_option maxRecDepth 100000 in
theorem c_X4_olds (l : Launch) {y : ly_T} {A : Nat → Prop} {G : gk_G} {td : Int32} {ru : Nat → Nat → Int32} {fr lv : Nat → Nat} {lt et tl : Nat → Int32} {hf hp : Nat → Option Nat} {ol : Nat → List Nat} {PS : Nat → Prop} {pf : Nat → Nat → Int32} {ov : Int64} {md mq mt : Int32} {mv : Nat → Nat → Int32} {i : Int32}  (hfl : l.stackTraces = false) (hR : rp y G td ru fr lv lt et tl hf hp ol PS pf ov md mq mt mv) : gk_M l yX4_olds (Cond.code yX4_olds cX4_olds 2 (some .int)) 7 110 16 128 y A [.ref (ly_a y 0), .int i] G (fun v G1 => ∃ f, f < 5 ∧ i = nI f ∧ v = some (.int (nI (ol f).length)) ∧ G1 = G) (fun E G1 => E = "java/lang/IndexOutOfBoundsException" ∧ G1 = G ∧ rg_out i 5) := by
  refine gk_ofX (cc := cX4_olds) (maxL := 2) (ret := (some .int)) (own := RX4) (by decide +kernel) rfl rfl (Nat.le_of_ble_eq_true rfl) ?_
  intro p e s m below meth c ls hK hret hlk hex hP hS hl
  have hl : lv_has ls 2 [(0, .ref (ly_a y 0)), (1, .int i)] := hl
  refine lv_aload_n hK.1.1 hK.1.2.1 dX4_olds_0 rfl (lv_at hl 0 rfl) ?_
  refine lv_iload_n hK.1.1 hK.1.2.1 dX4_olds_1 rfl (lv_at hl 1 rfl) ?_
  refine gk_callV (n := 1) (As := [.int i]) (rest := []) hK (c_X4_fileOf l hfl hR (i := i)) (gk_gV q_7_19 q_7_20 q_7_21 q_1_2 q_7_22) ⟨rfl, by decide +kernel, by decide +kernel, by decide +kernel⟩ ⟨(Nat.le_of_ble_eq_true rfl), (Nat.le_of_ble_eq_true rfl)⟩ hP hS (gk_recv hK.2.2.1.1 hP hR.1 rfl) rfl hl.1 rfl (Nat.le_of_ble_eq_true rfl) dX4_olds_2 ⟨(Nat.le_of_ble_eq_true rfl), (Nat.le_of_ble_eq_true rfl)⟩ (fun E ce q9 G1 H locs hx hP hS h1 h2 h3 => gk_out hex hlk hP hS h1 h2 h3 hx (Nat.le_of_ble_eq_true rfl) (Nat.le_of_ble_eq_true rfl)) (fun v G1 H locs hw hP hS => ?_)
  obtain ⟨f_1, hf_1, rfl, rfl, hG9⟩ := hw
  rw [hG9] at hP
  refine W.eq (g2 := F0 m 5 ls [.ref (ly_f y 1 f_1)]) rfl ?_
  refine tr_137 hK hP hR hf_1 dX4_olds_5 ?_
  refine gk_callV0 (n := 0) (As := []) (rest := []) hK (c_list_size l hR hf_1) (gk_gV q_12_10 q_12_11 q_12_12 q_2_15 q_12_13) ⟨rfl, by decide +kernel, by decide +kernel, by decide +kernel⟩ ⟨(Nat.le_of_ble_eq_true rfl), (Nat.le_of_ble_eq_true rfl)⟩ hP hS (rp_recvL hK.2.2.1 hP hR hf_1) rfl hl.1 rfl (Nat.le_of_ble_eq_true rfl) dX4_olds_8 ⟨(Nat.le_of_ble_eq_true rfl), (Nat.le_of_ble_eq_true rfl)⟩ (fun v G1 H locs hw hP hS => ?_)
  obtain ⟨rfl, hG9⟩ := hw
  rw [hG9] at hP
  refine W.eq (g2 := F0 m 11 ls [.int (nI (ol f_1).length)]) rfl ?_
  exact vx_ret (gk_iret0 hK.1 hret hlk hP hS (Nat.le_of_ble_eq_true rfl) (Nat.le_of_ble_eq_true rfl) dX4_olds_11 ⟨f_1, hf_1, rfl, rfl, rfl⟩)
set_option maxHeartbeats 4000000 in
set_option maxRecDepth 100000 in
theorem c_X4_thrown (l : Launch) {y : ly_T} {A : Nat → Prop} {G : gk_G} {td : Int32} {ru : Nat → Nat → Int32} {fr lv : Nat → Nat} {lt et tl : Nat → Int32} {hf hp : Nat → Option Nat} {ol : Nat → List Nat} {PS : Nat → Prop} {pf : Nat → Nat → Int32} {ov : Int64} {md mq mt : Int32} {mv : Nat → Nat → Int32} {i : Int32}  (hfl : l.stackTraces = false) (hR : rp y G td ru fr lv lt et tl hf hp ol PS pf ov md mq mt mv) : gk_M l yX4_thrown (Cond.code yX4_thrown cX4_thrown 2 (some .int)) 7 110 16 128 y A [.ref (ly_a y 0), .int i] G (fun v G1 => ∃ f, f < 5 ∧ i = nI f ∧ v = some (.int (tl f)) ∧ G1 = G) (fun E G1 => E = "java/lang/IndexOutOfBoundsException" ∧ G1 = G ∧ rg_out i 5) := by
  refine gk_ofX (cc := cX4_thrown) (maxL := 2) (ret := (some .int)) (own := RX4) (by decide +kernel) rfl rfl (Nat.le_of_ble_eq_true rfl) ?_
  intro p e s m below meth c ls hK hret hlk hex hP hS hl
  have hl : lv_has ls 2 [(0, .ref (ly_a y 0)), (1, .int i)] := hl
  refine lv_aload_n hK.1.1 hK.1.2.1 dX4_thrown_0 rfl (lv_at hl 0 rfl) ?_
  refine lv_iload_n hK.1.1 hK.1.2.1 dX4_thrown_1 rfl (lv_at hl 1 rfl) ?_
  refine gk_callV (n := 1) (As := [.int i]) (rest := []) hK (c_X4_fileOf l hfl hR (i := i)) (gk_gV q_7_19 q_7_20 q_7_21 q_1_2 q_7_22) ⟨rfl, by decide +kernel, by decide +kernel, by decide +kernel⟩ ⟨(Nat.le_of_ble_eq_true rfl), (Nat.le_of_ble_eq_true rfl)⟩ hP hS (gk_recv hK.2.2.1.1 hP hR.1 rfl) rfl hl.1 rfl (Nat.le_of_ble_eq_true rfl) dX4_thrown_2 ⟨(Nat.le_of_ble_eq_true rfl), (Nat.le_of_ble_eq_true rfl)⟩ (fun E ce q9 G1 H locs hx hP hS h1 h2 h3 => gk_out hex hlk hP hS h1 h2 h3 hx (Nat.le_of_ble_eq_true rfl) (Nat.le_of_ble_eq_true rfl)) (fun v G1 H locs hw hP hS => ?_)
  obtain ⟨f_1, hf_1, rfl, rfl, hG9⟩ := hw
  rw [hG9] at hP
  refine W.eq (g2 := F0 m 5 ls [.ref (ly_f y 1 f_1)]) rfl ?_
  refine tr_160 hK hP hR hf_1 dX4_thrown_5 ?_
  exact vx_ret (gk_iret0 hK.1 hret hlk hP hS (Nat.le_of_ble_eq_true rfl) (Nat.le_of_ble_eq_true rfl) dX4_thrown_8 ⟨f_1, hf_1, rfl, rfl, rfl⟩)
set_option maxHeartbeats 4000000 in
set_option maxRecDepth 100000 in
theorem c_X4_isDue (l : Launch) {y : ly_T} {A : Nat → Prop} {G : gk_G} {td : Int32} {ru : Nat → Nat → Int32} {fr lv : Nat → Nat} {lt et tl : Nat → Int32} {hf hp : Nat → Option Nat} {ol : Nat → List Nat} {PS : Nat → Prop} {pf : Nat → Nat → Int32} {ov : Int64} {md mq mt : Int32} {mv : Nat → Nat → Int32} {i : Int32}  (hfl : l.stackTraces = false) (hR : rp y G td ru fr lv lt et tl hf hp ol PS pf ov md mq mt mv) (hLl : ∀ f, f < 5 → PS (lv f)) : gk_M l yX4_isDue (Cond.code yX4_isDue cX4_isDue 2 (some .boolean)) 7 110 16 128 y A [.ref (ly_a y 0), .int i] G (fun v G1 => ∃ f, f < 5 ∧ i = nI f ∧ v = some (.int (rg_b (t_due (pf 0 (lv f)) (ru (fr f) 1) (ru (fr f) 2) (ru (fr f) 3) (ru (fr f) 4) (et f) (lt f) td))) ∧ G1 = G) (fun E G1 => E = "java/lang/IndexOutOfBoundsException" ∧ G1 = G ∧ rg_out i 5) := by
  refine gk_ofX (cc := cX4_isDue) (maxL := 2) (ret := (some .boolean)) (own := RX4) (by decide +kernel) rfl rfl (Nat.le_of_ble_eq_true rfl) ?_
  intro p e s m below meth c ls hK hret hlk hex hP hS hl
  have hl : lv_has ls 2 [(0, .ref (ly_a y 0)), (1, .int i)] := hl
  refine lv_aload_n hK.1.1 hK.1.2.1 dX4_isDue_0 rfl (lv_at hl 0 rfl) ?_
  refine lv_iload_n hK.1.1 hK.1.2.1 dX4_isDue_1 rfl (lv_at hl 1 rfl) ?_
  refine gk_callV (n := 1) (As := [.int i]) (rest := []) hK (c_X4_fileOf l hfl hR (i := i)) (gk_gV q_7_19 q_7_20 q_7_21 q_1_2 q_7_22) ⟨rfl, by decide +kernel, by decide +kernel, by decide +kernel⟩ ⟨(Nat.le_of_ble_eq_true rfl), (Nat.le_of_ble_eq_true rfl)⟩ hP hS (gk_recv hK.2.2.1.1 hP hR.1 rfl) rfl hl.1 rfl (Nat.le_of_ble_eq_true rfl) dX4_isDue_2 ⟨(Nat.le_of_ble_eq_true rfl), (Nat.le_of_ble_eq_true rfl)⟩ (fun E ce q9 G1 H locs hx hP hS h1 h2 h3 => gk_out hex hlk hP hS h1 h2 h3 hx (Nat.le_of_ble_eq_true rfl) (Nat.le_of_ble_eq_true rfl)) (fun v G1 H locs hw hP hS => ?_)
  obtain ⟨f_1, hf_1, rfl, rfl, hG9⟩ := hw
  rw [hG9] at hP
  refine W.eq (g2 := F0 m 5 ls [.ref (ly_f y 1 f_1)]) rfl ?_
  refine lv_aload_n hK.1.1 hK.1.2.1 dX4_isDue_5 rfl (lv_at hl 0 rfl) ?_
  refine tr_109 hK hP hR dX4_isDue_6 ?_
  refine gk_callS0 (n := 2) (As := [.ref (ly_f y 1 f_1), .int td]) (rest := []) hK (c_X4_isDueOn l hR (d := td) hf_1 hLl) (gk_gS q_11_9 q_11_10 q_1_2 q_11_11) ⟨by decide +kernel, by decide +kernel, by decide +kernel⟩ ⟨(Nat.le_of_ble_eq_true rfl), (Nat.le_of_ble_eq_true rfl)⟩ hP hS rfl hl.1 rfl (Nat.le_of_ble_eq_true rfl) dX4_isDue_9 ⟨(Nat.le_of_ble_eq_true rfl), (Nat.le_of_ble_eq_true rfl)⟩ (fun v G1 H locs hw hP hS => ?_)
  obtain ⟨rfl, hG9⟩ := hw
  rw [hG9] at hP
  refine W.eq (g2 := F0 m 12 ls [.int (rg_b (t_due (pf 0 (lv f_1)) (ru (fr f_1) 1) (ru (fr f_1) 2) (ru (fr f_1) 3) (ru (fr f_1) 4) (et f_1) (lt f_1) td))]) rfl ?_
  exact vx_ret (gk_zret0 hK.1 hret (rp_nz (rg_b01 _)).1 hlk hP hS (Nat.le_of_ble_eq_true rfl) (Nat.le_of_ble_eq_true rfl) dX4_isDue_12 ⟨f_1, hf_1, rfl, rfl, rfl⟩)
set_option maxHeartbeats 4000000 in
set_option maxRecDepth 100000 in
theorem c_X4_nextDue (l : Launch) {y : ly_T} {A : Nat → Prop} {G : gk_G} {td : Int32} {ru : Nat → Nat → Int32} {fr lv : Nat → Nat} {lt et tl : Nat → Int32} {hf hp : Nat → Option Nat} {ol : Nat → List Nat} {PS : Nat → Prop} {pf : Nat → Nat → Int32} {ov : Int64} {md mq mt : Int32} {mv : Nat → Nat → Int32} {i : Int32}  (hfl : l.stackTraces = false) (hR : rp y G td ru fr lv lt et tl hf hp ol PS pf ov md mq mt mv) (hLl : ∀ f, f < 5 → PS (lv f)) : gk_M l yX4_nextDue (Cond.code yX4_nextDue cX4_nextDue 4 (some .int)) 7 110 16 128 y A [.ref (ly_a y 0), .int i] G (fun v G1 => ∃ f, f < 5 ∧ i = nI f ∧ ((∃ a, a < 201 ∧ (∀ b, b < a → t_due (pf 0 (lv f)) (ru (fr f) 1) (ru (fr f) 2) (ru (fr f) 3) (ru (fr f) 4) (et f) (lt f) (td + nI b) = false) ∧ t_due (pf 0 (lv f)) (ru (fr f) 1) (ru (fr f) 2) (ru (fr f) 3) (ru (fr f) 4) (et f) (lt f) (td + nI a) = true ∧ v = some (.int (td + nI a))) ∨ ((∀ b, b < 201 → t_due (pf 0 (lv f)) (ru (fr f) 1) (ru (fr f) 2) (ru (fr f) 3) (ru (fr f) 4) (et f) (lt f) (td + nI b) = false) ∧ v = some (.int (-1)))) ∧ G1 = G) (fun E G1 => E = "java/lang/IndexOutOfBoundsException" ∧ G1 = G ∧ rg_out i 5) := by
  refine gk_ofX (cc := cX4_nextDue) (maxL := 4) (ret := (some .int)) (own := RX4) (by decide +kernel) rfl rfl (Nat.le_of_ble_eq_true rfl) ?_
  intro p e s m below meth c ls hK hret hlk hex hP hS hl
  have hl : lv_has ls 4 [(0, .ref (ly_a y 0)), (1, .int i)] := hl
  refine lv_aload_n hK.1.1 hK.1.2.1 dX4_nextDue_0 rfl (lv_at hl 0 rfl) ?_
  refine lv_iload_n hK.1.1 hK.1.2.1 dX4_nextDue_1 rfl (lv_at hl 1 rfl) ?_
  refine gk_callV (n := 1) (As := [.int i]) (rest := []) hK (c_X4_fileOf l hfl hR (i := i)) (gk_gV q_7_19 q_7_20 q_7_21 q_1_2 q_7_22) ⟨rfl, by decide +kernel, by decide +kernel, by decide +kernel⟩ ⟨(Nat.le_of_ble_eq_true rfl), (Nat.le_of_ble_eq_true rfl)⟩ hP hS (gk_recv hK.2.2.1.1 hP hR.1 rfl) rfl hl.1 rfl (Nat.le_of_ble_eq_true rfl) dX4_nextDue_2 ⟨(Nat.le_of_ble_eq_true rfl), (Nat.le_of_ble_eq_true rfl)⟩ (fun E ce q9 G1 H locs hx hP hS h1 h2 h3 => gk_out hex hlk hP hS h1 h2 h3 hx (Nat.le_of_ble_eq_true rfl) (Nat.le_of_ble_eq_true rfl)) (fun v G1 H locs hw hP hS => ?_)
  obtain ⟨f_1, hf_1, rfl, rfl, hG9⟩ := hw
  rw [hG9] at hP
  refine W.eq (g2 := F0 m 5 ls [.ref (ly_f y 1 f_1)]) rfl ?_
  refine lv_astore_n (lv' := [(2, .ref (ly_f y 1 f_1)), (0, .ref (ly_a y 0)), (1, .int (nI f_1))]) hK.1.1 hK.1.2.1 dX4_nextDue_5 rfl hl (by decide) rfl (fun ls hl => ?_)
  refine lv_iconst (v := 0) hK.1.1 hK.1.2.1 dX4_nextDue_6 (by decide) ?_
  refine lv_istore_n (lv' := [(3, .int 0), (2, .ref (ly_f y 1 f_1)), (0, .ref (ly_a y 0)), (1, .int (nI f_1))]) hK.1.1 hK.1.2.1 dX4_nextDue_7 rfl hl (by decide) rfl (fun ls hl => ?_)
  have loop : ∀ (dd : Nat) (a : Nat) (ls : Array Slot) (H : Heap) (locs : List Loc), 201 - a = dd → (a ≤ 201) → (∀ b, b < a → t_due (pf 0 (lv f_1)) (ru (fr f_1) 1) (ru (fr f_1) 2) (ru (fr f_1) 3) (ru (fr f_1) 4) (et f_1) (lt f_1) (td + nI b) = false) → gk_P (ly_D y) A G H → va_S A s.heap H locs → lv_has ls 4 [(3, .int (nI a)), (2, .ref (ly_f y 1 f_1)), (0, .ref (ly_a y 0)), (1, .int (nI f_1))] → W p l e { frames := 7, cells := 16, slots := 128, locals := 110 } s m [.ref (ly_a y 0), .int (nI f_1)].toArray below meth c H locs (0 + 1) (0 + 6) (vx_MQ below (gk_Q y A (fun v G1 => ∃ f, f < 5 ∧ (nI f_1) = nI f ∧ ((∃ a, a < 201 ∧ (∀ b, b < a → t_due (pf 0 (lv f)) (ru (fr f) 1) (ru (fr f) 2) (ru (fr f) 3) (ru (fr f) 4) (et f) (lt f) (td + nI b) = false) ∧ t_due (pf 0 (lv f)) (ru (fr f) 1) (ru (fr f) 2) (ru (fr f) 3) (ru (fr f) 4) (et f) (lt f) (td + nI a) = true ∧ v = some (.int (td + nI a))) ∨ ((∀ b, b < 201 → t_due (pf 0 (lv f)) (ru (fr f) 1) (ru (fr f) 2) (ru (fr f) 3) (ru (fr f) 4) (et f) (lt f) (td + nI b) = false) ∧ v = some (.int (-1)))) ∧ G1 = G)) (gk_X y A (fun E G1 => E = "java/lang/IndexOutOfBoundsException" ∧ G1 = G ∧ rg_out (nI f_1) 5)) [.ref (ly_a y 0), .int (nI f_1)].toArray s 16 128 A) (F0 m 8 ls []) := by
    intro dd
    induction dd using Nat.strongRecOn with
    | _ dd ih =>
    intro a ls H locs hdd ha hno hP hS hl
    refine lv_iload_n hK.1.1 hK.1.2.1 dX4_nextDue_8 rfl (lv_at hl 0 rfl) ?_
    refine lv_sipush (v := 200) hK.1.1 hK.1.2.1 dX4_nextDue_9 (by decide) ?_
    refine lv_icmp_gt (tgt := 41) hK.1.1 hK.1.2.1 dX4_nextDue_12 (by decide) (fun c12_2 => ?_) (fun c12_2 => ?_)
    · have ha9 : a = 201 := by have := (nI_ltI (a := 200) (by decide) (by omega)).mp c12_2; omega
      refine lv_iconst (v := (-1)) hK.1.1 hK.1.2.1 dX4_nextDue_41 (by decide) ?_
      exact vx_ret (gk_iret0 hK.1 hret hlk hP hS (Nat.le_of_ble_eq_true rfl) (Nat.le_of_ble_eq_true rfl) dX4_nextDue_42 ⟨f_1, hf_1, rfl, Or.inr ⟨by rw [← ha9]; exact hno, rfl⟩, rfl⟩)
    · have ha9 : a < 201 := Nat.lt_of_not_le (fun h => c12_2 (nI_lt (a := 200) (by omega) (by omega)))
      refine lv_aload_n hK.1.1 hK.1.2.1 dX4_nextDue_15 rfl (lv_at hl 1 rfl) ?_
      refine lv_aload_n hK.1.1 hK.1.2.1 dX4_nextDue_16 rfl (lv_at hl 2 rfl) ?_
      refine tr_109 hK hP hR dX4_nextDue_17 ?_
      refine lv_iload_n hK.1.1 hK.1.2.1 dX4_nextDue_20 rfl (lv_at hl 0 rfl) ?_
      refine lv_iadd hK.1.1 hK.1.2.1 dX4_nextDue_21 ?_
      refine gk_callS0 (n := 2) (As := [.ref (ly_f y 1 f_1), .int (td + (nI a))]) (rest := []) hK (c_X4_isDueOn l hR (d := (td + (nI a))) hf_1 hLl) (gk_gS q_11_9 q_11_10 q_1_2 q_11_11) ⟨by decide +kernel, by decide +kernel, by decide +kernel⟩ ⟨(Nat.le_of_ble_eq_true rfl), (Nat.le_of_ble_eq_true rfl)⟩ hP hS rfl hl.1 rfl (Nat.le_of_ble_eq_true rfl) dX4_nextDue_22 ⟨(Nat.le_of_ble_eq_true rfl), (Nat.le_of_ble_eq_true rfl)⟩ (fun v G1 H locs hw hP hS => ?_)
      obtain ⟨rfl, hG9⟩ := hw
      rw [hG9] at hP
      refine W.eq (g2 := F0 m 25 ls [.int (rg_b (t_due (pf 0 (lv f_1)) (ru (fr f_1) 1) (ru (fr f_1) 2) (ru (fr f_1) 3) (ru (fr f_1) 4) (et f_1) (lt f_1) (td + (nI a))))]) rfl ?_
      refine lv_if_eq (tgt := 35) hK.1.1 hK.1.2.1 dX4_nextDue_25 (by decide) (fun c25_3 => ?_) (fun c25_3 => ?_)
      · have hna := c25_3
        refine lv_iinc (v := nI (a + 1)) (lv' := [(3, .int (nI (a + 1))), (2, .ref (ly_f y 1 f_1)), (0, .ref (ly_a y 0)), (1, .int (nI f_1))]) hK.1.1 hK.1.2.1 dX4_nextDue_35 hl (k := 0) rfl (nI_1 a) (by decide) rfl (fun ls hl => ?_)
        refine lv_goto (tgt := 8) hK.1.1 hK.1.2.1 dX4_nextDue_38 (by decide) ?_
        exact ih (201 - (a + 1)) (by omega)  (a + 1) ls _ _ rfl (by omega) (fun b hb => by by_cases hba : b = a; (rw [hba]; exact rg_b0.mp hna); (exact hno b (by omega))) hP hS (lv_sub hl [0, 1, 2, 3] rfl)
      · refine lv_aload_n hK.1.1 hK.1.2.1 dX4_nextDue_28 rfl (lv_at hl 2 rfl) ?_
        refine tr_109 hK hP hR dX4_nextDue_29 ?_
        refine lv_iload_n hK.1.1 hK.1.2.1 dX4_nextDue_32 rfl (lv_at hl 0 rfl) ?_
        refine lv_iadd hK.1.1 hK.1.2.1 dX4_nextDue_33 ?_
        exact vx_ret (gk_iret0 hK.1 hret hlk hP hS (Nat.le_of_ble_eq_true rfl) (Nat.le_of_ble_eq_true rfl) dX4_nextDue_34 ⟨f_1, hf_1, rfl, Or.inl ⟨a, ha9, hno, by cases hz : t_due (pf 0 (lv f_1)) (ru (fr f_1) 1) (ru (fr f_1) 2) (ru (fr f_1) 3) (ru (fr f_1) 4) (et f_1) (lt f_1) (td + nI a) with | true => rfl | false => exact absurd (rg_b0.mpr hz) c25_3, rfl⟩, rfl⟩)
  exact loop _ 0 ls _ _ rfl (by omega) (fun b hb => absurd hb (Nat.not_lt_zero b)) hP hS (lv_sub hl [0, 1, 2, 3] rfl)
set_option maxHeartbeats 4000000 in
set_option maxRecDepth 100000 in
theorem c_X4_oldPartOf (l : Launch) {y : ly_T} {A : Nat → Prop} {G : gk_G} {td : Int32} {ru : Nat → Nat → Int32} {fr lv : Nat → Nat} {lt et tl : Nat → Int32} {hf hp : Nat → Option Nat} {ol : Nat → List Nat} {PS : Nat → Prop} {pf : Nat → Nat → Int32} {ov : Int64} {md mq mt : Int32} {mv : Nat → Nat → Int32} {f : Nat} {i : Int32}  (hfl : l.stackTraces = false) (hR : rp y G td ru fr lv lt et tl hf hp ol PS pf ov md mq mt mv) (hf5 : f < 5) (hin : ∀ q ∈ ol f, PS q) : gk_M l yX4_oldPartOf (Cond.code yX4_oldPartOf cX4_oldPartOf 2 (some (.object "LogTurner$Part"))) 6 82 1 6 y A [.ref (ly_f y 1 f), .int i] G (fun v G1 => ∃ k t, (ol f)[k]? = some t ∧ i = nI k ∧ v = some (.ref t) ∧ G1 = G) (fun E G1 => E = "java/lang/IndexOutOfBoundsException" ∧ G1 = G ∧ rg_out i (ol f).length) := by
  refine gk_ofX (cc := cX4_oldPartOf) (maxL := 2) (ret := (some (.object "LogTurner$Part"))) (own := RX4) (by decide +kernel) rfl rfl (Nat.le_of_ble_eq_true rfl) ?_
  intro p e s m below meth c ls hK hret hlk hex hP hS hl
  have hl : lv_has ls 2 [(0, .ref (ly_f y 1 f)), (1, .int i)] := hl
  refine lv_iload_n hK.1.1 hK.1.2.1 dX4_oldPartOf_0 rfl (lv_at hl 1 rfl) ?_
  refine lv_if_lt (tgt := 15) hK.1.1 hK.1.2.1 dX4_oldPartOf_1 (by decide) (fun c1_1 => ?_) (fun c1_1 => ?_)
  · exact gk_thr0 hK hfl hK.2.2.1.2.1.2.2.2.2.2.1 hP hS hl.1 hex hlk dX4_oldPartOf_15 dX4_oldPartOf_18 dX4_oldPartOf_19 dX4_oldPartOf_21 dX4_oldPartOf_24 ⟨(Nat.le_of_ble_eq_true rfl), (Nat.le_of_ble_eq_true rfl), (Nat.le_of_ble_eq_true rfl), (Nat.le_of_ble_eq_true rfl)⟩ ⟨(Nat.le_of_ble_eq_true rfl), (Nat.le_of_ble_eq_true rfl)⟩ ⟨rfl, rfl, Or.inl c1_1⟩
  · refine lv_iload_n hK.1.1 hK.1.2.1 dX4_oldPartOf_4 rfl (lv_at hl 1 rfl) ?_
    refine lv_aload_n hK.1.1 hK.1.2.1 dX4_oldPartOf_5 rfl (lv_at hl 0 rfl) ?_
    refine tr_137 hK hP hR hf5 dX4_oldPartOf_6 ?_
    refine gk_callV0 (n := 0) (As := []) (rest := [.int i]) hK (c_list_size l hR hf5) (gk_gV q_12_10 q_12_11 q_12_12 q_2_15 q_12_13) ⟨rfl, by decide +kernel, by decide +kernel, by decide +kernel⟩ ⟨(Nat.le_of_ble_eq_true rfl), (Nat.le_of_ble_eq_true rfl)⟩ hP hS (rp_recvL hK.2.2.1 hP hR hf5) rfl hl.1 rfl (Nat.le_of_ble_eq_true rfl) dX4_oldPartOf_9 ⟨(Nat.le_of_ble_eq_true rfl), (Nat.le_of_ble_eq_true rfl)⟩ (fun v G1 H locs hw hP hS => ?_)
    obtain ⟨rfl, hG9⟩ := hw
    rw [hG9] at hP
    refine W.eq (g2 := F0 m 12 ls [.int (nI (ol f).length), .int i]) rfl ?_
    refine lv_icmp_lt (tgt := 25) hK.1.1 hK.1.2.1 dX4_oldPartOf_12 (by decide) (fun c12_2 => ?_) (fun c12_2 => ?_)
    · have hn9 := rp_len hR hf5
      obtain ⟨k, hk, rfl⟩ := rg_of (n := (ol f).length) (by omega) c1_1 c12_2
      obtain ⟨t, htk⟩ : ∃ t, (ol f)[k]? = some t := ⟨_, List.getElem?_eq_getElem hk⟩
      refine lv_aload_n hK.1.1 hK.1.2.1 dX4_oldPartOf_25 rfl (lv_at hl 0 rfl) ?_
      refine tr_137 hK hP hR hf5 dX4_oldPartOf_26 ?_
      refine lv_iload_n hK.1.1 hK.1.2.1 dX4_oldPartOf_29 rfl (lv_at hl 1 rfl) ?_
      refine gk_callV0 (n := 1) (As := [.int (nI k)]) (rest := []) hK (c_list_get l hR hf5 htk) (gk_gV q_15_5 q_15_6 q_15_7 q_2_15 q_15_8) ⟨rfl, by decide +kernel, by decide +kernel, by decide +kernel⟩ ⟨(Nat.le_of_ble_eq_true rfl), (Nat.le_of_ble_eq_true rfl)⟩ hP hS (rp_recvL hK.2.2.1 hP hR hf5) rfl hl.1 rfl (Nat.le_of_ble_eq_true rfl) dX4_oldPartOf_30 ⟨(Nat.le_of_ble_eq_true rfl), (Nat.le_of_ble_eq_true rfl)⟩ (fun v G1 H locs hw hP hS => ?_)
      obtain ⟨rfl, hG9⟩ := hw
      rw [hG9] at hP
      refine W.eq (g2 := F0 m 33 ls [.ref t]) rfl ?_
      refine gk_cast hK.1 hK.2.2.1.1 hP (hR.2.2.2.2.2.2.1 t (hin t (List.mem_of_getElem? htk))) rfl q_12_9 dX4_oldPartOf_33 ?_
      exact vx_ret (gk_aret0 hK.1 hret (by first | exact Or.inl ⟨_, rfl⟩ | exact Or.inr ⟨_, rfl⟩) (by first | exact Or.inr ⟨_, rfl⟩ | exact Or.inl rfl | exact va_rf_or _) hlk hP hS (Nat.le_of_ble_eq_true rfl) (Nat.le_of_ble_eq_true rfl) dX4_oldPartOf_36 ⟨k, t, htk, rfl, rfl, rfl⟩)
    · exact gk_thr0 hK hfl hK.2.2.1.2.1.2.2.2.2.2.1 hP hS hl.1 hex hlk dX4_oldPartOf_15 dX4_oldPartOf_18 dX4_oldPartOf_19 dX4_oldPartOf_21 dX4_oldPartOf_24 ⟨(Nat.le_of_ble_eq_true rfl), (Nat.le_of_ble_eq_true rfl), (Nat.le_of_ble_eq_true rfl), (Nat.le_of_ble_eq_true rfl)⟩ ⟨(Nat.le_of_ble_eq_true rfl), (Nat.le_of_ble_eq_true rfl)⟩ ⟨rfl, rfl, Or.inr c12_2⟩
set_option maxHeartbeats 4000000 in
set_option maxRecDepth 100000 in
theorem c_X4_lines (l : Launch) {y : ly_T} {A : Nat → Prop} {G : gk_G} {td : Int32} {ru : Nat → Nat → Int32} {fr lv : Nat → Nat} {lt et tl : Nat → Int32} {hf hp : Nat → Option Nat} {ol : Nat → List Nat} {PS : Nat → Prop} {pf : Nat → Nat → Int32} {ov : Int64} {md mq mt : Int32} {mv : Nat → Nat → Int32} {i j : Int32}  (hfl : l.stackTraces = false) (hR : rp y G td ru fr lv lt et tl hf hp ol PS pf ov md mq mt mv) (hin5 : ∀ f, f < 5 → ∀ q ∈ ol f, PS q) : gk_M l yX4_lines (Cond.code yX4_lines cX4_lines 3 (some .int)) 7 110 16 128 y A [.ref (ly_a y 0), .int i, .int j] G (fun v G1 => ∃ f k t, f < 5 ∧ i = nI f ∧ (ol f)[k]? = some t ∧ j = nI k ∧ v = some (.int (pf 0 t)) ∧ G1 = G) (fun E G1 => E = "java/lang/IndexOutOfBoundsException" ∧ G1 = G ∧ (rg_out i 5 ∨ ∃ f, f < 5 ∧ i = nI f ∧ rg_out j (ol f).length)) := by
  refine gk_ofX (cc := cX4_lines) (maxL := 3) (ret := (some .int)) (own := RX4) (by decide +kernel) rfl rfl (Nat.le_of_ble_eq_true rfl) ?_
  intro p e s m below meth c ls hK hret hlk hex hP hS hl
  have hl : lv_has ls 3 [(0, .ref (ly_a y 0)), (1, .int i), (2, .int j)] := hl
  refine lv_aload_n hK.1.1 hK.1.2.1 dX4_lines_0 rfl (lv_at hl 0 rfl) ?_
  refine lv_iload_n hK.1.1 hK.1.2.1 dX4_lines_1 rfl (lv_at hl 1 rfl) ?_
  refine gk_callV (n := 1) (As := [.int i]) (rest := []) hK (c_X4_fileOf l hfl hR (i := i)) (gk_gV q_7_19 q_7_20 q_7_21 q_1_2 q_7_22) ⟨rfl, by decide +kernel, by decide +kernel, by decide +kernel⟩ ⟨(Nat.le_of_ble_eq_true rfl), (Nat.le_of_ble_eq_true rfl)⟩ hP hS (gk_recv hK.2.2.1.1 hP hR.1 rfl) rfl hl.1 rfl (Nat.le_of_ble_eq_true rfl) dX4_lines_2 ⟨(Nat.le_of_ble_eq_true rfl), (Nat.le_of_ble_eq_true rfl)⟩ (fun E ce q9 G1 H locs hx hP hS h1 h2 h3 => gk_out hex hlk hP hS h1 h2 h3 ⟨hx.1, hx.2.1, Or.inl hx.2.2⟩ (Nat.le_of_ble_eq_true rfl) (Nat.le_of_ble_eq_true rfl)) (fun v G1 H locs hw hP hS => ?_)
  obtain ⟨f_1, hf_1, rfl, rfl, hG9⟩ := hw
  rw [hG9] at hP
  refine W.eq (g2 := F0 m 5 ls [.ref (ly_f y 1 f_1)]) rfl ?_
  refine lv_iload_n hK.1.1 hK.1.2.1 dX4_lines_5 rfl (lv_at hl 2 rfl) ?_
  refine gk_callS (n := 2) (As := [.ref (ly_f y 1 f_1), .int j]) (rest := []) hK (c_X4_oldPartOf l hfl hR (i := j) hf_1 (hin5 _ hf_1)) (gk_gS q_21_16 q_21_17 q_1_2 q_21_18) ⟨by decide +kernel, by decide +kernel, by decide +kernel⟩ ⟨(Nat.le_of_ble_eq_true rfl), (Nat.le_of_ble_eq_true rfl)⟩ hP hS rfl hl.1 rfl (Nat.le_of_ble_eq_true rfl) dX4_lines_6 ⟨(Nat.le_of_ble_eq_true rfl), (Nat.le_of_ble_eq_true rfl)⟩ (fun E ce q9 G1 H locs hx hP hS h1 h2 h3 => gk_out hex hlk hP hS h1 h2 h3 ⟨hx.1, hx.2.1, Or.inr ⟨f_1, hf_1, rfl, hx.2.2⟩⟩ (Nat.le_of_ble_eq_true rfl) (Nat.le_of_ble_eq_true rfl)) (fun v G1 H locs hw hP hS => ?_)
  obtain ⟨k, t, htk, rfl, rfl, hG9⟩ := hw
  rw [hG9] at hP
  refine W.eq (g2 := F0 m 9 ls [.ref t]) rfl ?_
  refine tr_104 hK hP hR (hin5 f_1 hf_1 t (List.mem_of_getElem? htk)) dX4_lines_9 ?_
  exact vx_ret (gk_iret0 hK.1 hret hlk hP hS (Nat.le_of_ble_eq_true rfl) (Nat.le_of_ble_eq_true rfl) dX4_lines_12 ⟨f_1, k, t, hf_1, rfl, htk, rfl, rfl, rfl⟩)
set_option maxHeartbeats 4000000 in
set_option maxRecDepth 100000 in
theorem c_X4_isSqueezed (l : Launch) {y : ly_T} {A : Nat → Prop} {G : gk_G} {td : Int32} {ru : Nat → Nat → Int32} {fr lv : Nat → Nat} {lt et tl : Nat → Int32} {hf hp : Nat → Option Nat} {ol : Nat → List Nat} {PS : Nat → Prop} {pf : Nat → Nat → Int32} {ov : Int64} {md mq mt : Int32} {mv : Nat → Nat → Int32} {i j : Int32}  (hfl : l.stackTraces = false) (hR : rp y G td ru fr lv lt et tl hf hp ol PS pf ov md mq mt mv) (hin5 : ∀ f, f < 5 → ∀ q ∈ ol f, PS q) (hsq : ∀ t, PS t → pf 2 t = 0 ∨ pf 2 t = 1) : gk_M l yX4_isSqueezed (Cond.code yX4_isSqueezed cX4_isSqueezed 3 (some .boolean)) 7 110 16 128 y A [.ref (ly_a y 0), .int i, .int j] G (fun v G1 => ∃ f k t, f < 5 ∧ i = nI f ∧ (ol f)[k]? = some t ∧ j = nI k ∧ v = some (.int (pf 2 t)) ∧ G1 = G) (fun E G1 => E = "java/lang/IndexOutOfBoundsException" ∧ G1 = G ∧ (rg_out i 5 ∨ ∃ f, f < 5 ∧ i = nI f ∧ rg_out j (ol f).length)) := by
  refine gk_ofX (cc := cX4_isSqueezed) (maxL := 3) (ret := (some .boolean)) (own := RX4) (by decide +kernel) rfl rfl (Nat.le_of_ble_eq_true rfl) ?_
  intro p e s m below meth c ls hK hret hlk hex hP hS hl
  have hl : lv_has ls 3 [(0, .ref (ly_a y 0)), (1, .int i), (2, .int j)] := hl
  refine lv_aload_n hK.1.1 hK.1.2.1 dX4_isSqueezed_0 rfl (lv_at hl 0 rfl) ?_
  refine lv_iload_n hK.1.1 hK.1.2.1 dX4_isSqueezed_1 rfl (lv_at hl 1 rfl) ?_
  refine gk_callV (n := 1) (As := [.int i]) (rest := []) hK (c_X4_fileOf l hfl hR (i := i)) (gk_gV q_7_19 q_7_20 q_7_21 q_1_2 q_7_22) ⟨rfl, by decide +kernel, by decide +kernel, by decide +kernel⟩ ⟨(Nat.le_of_ble_eq_true rfl), (Nat.le_of_ble_eq_true rfl)⟩ hP hS (gk_recv hK.2.2.1.1 hP hR.1 rfl) rfl hl.1 rfl (Nat.le_of_ble_eq_true rfl) dX4_isSqueezed_2 ⟨(Nat.le_of_ble_eq_true rfl), (Nat.le_of_ble_eq_true rfl)⟩ (fun E ce q9 G1 H locs hx hP hS h1 h2 h3 => gk_out hex hlk hP hS h1 h2 h3 ⟨hx.1, hx.2.1, Or.inl hx.2.2⟩ (Nat.le_of_ble_eq_true rfl) (Nat.le_of_ble_eq_true rfl)) (fun v G1 H locs hw hP hS => ?_)
  obtain ⟨f_1, hf_1, rfl, rfl, hG9⟩ := hw
  rw [hG9] at hP
  refine W.eq (g2 := F0 m 5 ls [.ref (ly_f y 1 f_1)]) rfl ?_
  refine lv_iload_n hK.1.1 hK.1.2.1 dX4_isSqueezed_5 rfl (lv_at hl 2 rfl) ?_
  refine gk_callS (n := 2) (As := [.ref (ly_f y 1 f_1), .int j]) (rest := []) hK (c_X4_oldPartOf l hfl hR (i := j) hf_1 (hin5 _ hf_1)) (gk_gS q_21_16 q_21_17 q_1_2 q_21_18) ⟨by decide +kernel, by decide +kernel, by decide +kernel⟩ ⟨(Nat.le_of_ble_eq_true rfl), (Nat.le_of_ble_eq_true rfl)⟩ hP hS rfl hl.1 rfl (Nat.le_of_ble_eq_true rfl) dX4_isSqueezed_6 ⟨(Nat.le_of_ble_eq_true rfl), (Nat.le_of_ble_eq_true rfl)⟩ (fun E ce q9 G1 H locs hx hP hS h1 h2 h3 => gk_out hex hlk hP hS h1 h2 h3 ⟨hx.1, hx.2.1, Or.inr ⟨f_1, hf_1, rfl, hx.2.2⟩⟩ (Nat.le_of_ble_eq_true rfl) (Nat.le_of_ble_eq_true rfl)) (fun v G1 H locs hw hP hS => ?_)
  obtain ⟨k, t, htk, rfl, rfl, hG9⟩ := hw
  rw [hG9] at hP
  refine W.eq (g2 := F0 m 9 ls [.ref t]) rfl ?_
  refine tr_157 hK hP hR (hin5 f_1 hf_1 t (List.mem_of_getElem? htk)) dX4_isSqueezed_9 ?_
  exact vx_ret (gk_zret0 hK.1 hret (rp_nz (hsq t (hin5 _ (by assumption) t (List.mem_of_getElem? htk)))).1 hlk hP hS (Nat.le_of_ble_eq_true rfl) (Nat.le_of_ble_eq_true rfl) dX4_isSqueezed_12 ⟨f_1, k, t, hf_1, rfl, htk, rfl, rfl, rfl⟩)
set_option maxHeartbeats 4000000 in
set_option maxRecDepth 100000 in
theorem c_X4_countOlderOfDay (l : Launch) {y : ly_T} {A : Nat → Prop} {G : gk_G} {td : Int32} {ru : Nat → Nat → Int32} {fr lv : Nat → Nat} {lt et tl : Nat → Int32} {hf hp : Nat → Option Nat} {ol : Nat → List Nat} {PS : Nat → Prop} {pf : Nat → Nat → Int32} {ov : Int64} {md mq mt : Int32} {mv : Nat → Nat → Int32} {f k : Nat} {d : Int32}  (hR : rp y G td ru fr lv lt et tl hf hp ol PS pf ov md mq mt mv) (hf5 : f < 5) (hin : ∀ q ∈ ol f, PS q) (hk : k ≤ (ol f).length) : gk_M0 l yX4_countOlderOfDay (Cond.code yX4_countOlderOfDay cX4_countOlderOfDay 5 (some .int)) 3 90 0 0 y A [.ref (ly_f y 3 f), .int (nI k), .int d] G (fun v G1 => v = some (.int (nI (t_cnt pf (ol f) k d))) ∧ G1 = G) := by
  refine gk_of0 (cc := cX4_countOlderOfDay) (maxL := 5) (ret := (some .int)) (own := RX4) (by decide +kernel) rfl rfl (Nat.le_of_ble_eq_true rfl) ?_
  intro p e s m below meth c ls hK hret hlk _ hP hS hl
  have hl : lv_has ls 5 [(0, .ref (ly_f y 3 f)), (1, .int (nI k)), (2, .int d)] := hl
  have hn9 := rp_len hR hf5
  refine lv_iconst (v := 0) hK.1.1 hK.1.2.1 dX4_countOlderOfDay_0 (by decide) ?_
  refine lv_istore_n (lv' := [(3, .int 0), (0, .ref (ly_f y 3 f)), (1, .int (nI k)), (2, .int d)]) hK.1.1 hK.1.2.1 dX4_countOlderOfDay_1 rfl hl (by decide) rfl (fun ls hl => ?_)
  refine lv_iconst (v := 0) hK.1.1 hK.1.2.1 dX4_countOlderOfDay_2 (by decide) ?_
  refine lv_istore (lv' := [(4, .int 0), (3, .int 0), (0, .ref (ly_f y 3 f)), (1, .int (nI k)), (2, .int d)]) hK.1.1 hK.1.2.1 dX4_countOlderOfDay_3 hl (by decide) rfl (fun ls hl => ?_)
  have loop : ∀ (dd : Nat) (i : Nat) (ls : Array Slot) (H : Heap) (locs : List Loc), k - i = dd → (i ≤ k) → gk_P (ly_D y) A G H → va_S A s.heap H locs → lv_has ls 5 [(4, .int (nI i)), (3, .int (nI (t_cnt pf (ol f) i d))), (0, .ref (ly_f y 3 f)), (1, .int (nI k)), (2, .int d)] → W p l e { frames := 3, cells := 0, slots := 0, locals := 90 } s m [.ref (ly_f y 3 f), .int (nI k), .int d].toArray below meth c H locs 0 0 (MQ below (gk_Q y A (fun v G1 => v = some (.int (nI (t_cnt pf (ol f) k d))) ∧ G1 = G)) [.ref (ly_f y 3 f), .int (nI k), .int d].toArray s 0 0 A) (F0 m 5 ls []) := by
    intro dd
    induction dd using Nat.strongRecOn with
    | _ dd ih =>
    intro i ls H locs hdd hi hP hS hl
    refine lv_iload hK.1.1 hK.1.2.1 dX4_countOlderOfDay_5 (lv_at hl 0 rfl) ?_
    refine lv_iload_n hK.1.1 hK.1.2.1 dX4_countOlderOfDay_7 rfl (lv_at hl 3 rfl) ?_
    refine lv_icmp_ge (tgt := 45) hK.1.1 hK.1.2.1 dX4_countOlderOfDay_8 (by decide) (fun c8_1 => ?_) (fun c8_1 => ?_)
    · have hkn : i = k := Nat.le_antisymm hi ((nI_leI (by omega) (by omega)).mp c8_1)
      subst hkn
      refine lv_iload_n hK.1.1 hK.1.2.1 dX4_countOlderOfDay_45 rfl (lv_at hl 1 rfl) ?_
      exact gk_iret0 hK.1 hret hlk hP hS (Nat.le_of_ble_eq_true rfl) (Nat.le_of_ble_eq_true rfl) dX4_countOlderOfDay_46 ⟨rfl, rfl⟩
    · have hkn : i < k := Nat.lt_of_not_le (fun h => c8_1 (nI_le h (by omega)))
      obtain ⟨t, htk⟩ : ∃ t, (ol f)[i]? = some t := ⟨_, List.getElem?_eq_getElem (by omega)⟩
      have htP : PS t := hin t (List.mem_of_getElem? htk)
      refine lv_iload hK.1.1 hK.1.2.1 dX4_countOlderOfDay_11 (lv_at hl 0 rfl) ?_
      refine lv_aload_n hK.1.1 hK.1.2.1 dX4_countOlderOfDay_13 rfl (lv_at hl 2 rfl) ?_
      refine gk_callV0 (n := 0) (As := []) (rest := [.int (nI i)]) hK (c_list_size l hR hf5) (gk_gV q_12_10 q_12_11 q_12_12 q_2_15 q_12_13) ⟨rfl, by decide +kernel, by decide +kernel, by decide +kernel⟩ ⟨(Nat.le_of_ble_eq_true rfl), (Nat.le_of_ble_eq_true rfl)⟩ hP hS (rp_recvL hK.2.2.1 hP hR hf5) rfl hl.1 rfl (Nat.le_of_ble_eq_true rfl) dX4_countOlderOfDay_14 ⟨(Nat.le_of_ble_eq_true rfl), (Nat.le_of_ble_eq_true rfl)⟩ (fun v G1 H locs hw hP hS => ?_)
      obtain ⟨rfl, hG9⟩ := hw
      rw [hG9] at hP
      refine W.eq (g2 := F0 m 17 ls [.int (nI (ol f).length), .int (nI i)]) rfl ?_
      refine lv_icmp_ge (tgt := 45) hK.1.1 hK.1.2.1 dX4_countOlderOfDay_17 (by decide) (fun c => absurd ((nI_leI (by omega) (by omega)).mp c) (by omega)) (fun _ => ?_)
      refine lv_aload_n hK.1.1 hK.1.2.1 dX4_countOlderOfDay_20 rfl (lv_at hl 2 rfl) ?_
      refine lv_iload hK.1.1 hK.1.2.1 dX4_countOlderOfDay_21 (lv_at hl 0 rfl) ?_
      refine gk_callV0 (n := 1) (As := [.int (nI i)]) (rest := []) hK (c_list_get l hR hf5 htk) (gk_gV q_15_5 q_15_6 q_15_7 q_2_15 q_15_8) ⟨rfl, by decide +kernel, by decide +kernel, by decide +kernel⟩ ⟨(Nat.le_of_ble_eq_true rfl), (Nat.le_of_ble_eq_true rfl)⟩ hP hS (rp_recvL hK.2.2.1 hP hR hf5) rfl hl.1 rfl (Nat.le_of_ble_eq_true rfl) dX4_countOlderOfDay_23 ⟨(Nat.le_of_ble_eq_true rfl), (Nat.le_of_ble_eq_true rfl)⟩ (fun v G1 H locs hw hP hS => ?_)
      obtain ⟨rfl, hG9⟩ := hw
      rw [hG9] at hP
      refine W.eq (g2 := F0 m 26 ls [.ref t]) rfl ?_
      refine gk_cast hK.1 hK.2.2.1.1 hP (hR.2.2.2.2.2.2.1 t htP) rfl q_12_9 dX4_countOlderOfDay_26 ?_
      refine tr_150 hK hP hR htP dX4_countOlderOfDay_29 ?_
      refine lv_iload_n hK.1.1 hK.1.2.1 dX4_countOlderOfDay_32 rfl (lv_at hl 4 rfl) ?_
      refine lv_icmp_ne (tgt := 39) hK.1.1 hK.1.2.1 dX4_countOlderOfDay_33 (by decide) (fun c33_2 => ?_) (fun c33_2 => ?_)
      · refine lv_iinc (v := nI (i + 1)) (lv' := [(4, .int (nI (i + 1))), (3, .int (nI (t_cnt pf (ol f) i d))), (0, .ref (ly_f y 3 f)), (1, .int (nI k)), (2, .int d)]) hK.1.1 hK.1.2.1 dX4_countOlderOfDay_39 hl (k := 0) rfl (nI_1 i) (by decide) rfl (fun ls hl => ?_)
        have hl : lv_has ls 5 [(4, .int (nI (i + 1))), (3, .int (nI (t_cnt pf (ol f) (i + 1) d))), (0, .ref (ly_f y 3 f)), (1, .int (nI k)), (2, .int d)] := by rw [t_cnt_n htk c33_2]; exact hl
        refine lv_goto (tgt := 5) hK.1.1 hK.1.2.1 dX4_countOlderOfDay_42 (by decide) ?_
        exact ih (k - (i + 1)) (by omega)  (i + 1) ls _ _ rfl (by omega) hP hS (lv_sub hl [0, 1, 2, 3, 4] rfl)
      · refine lv_iinc (v := nI ((t_cnt pf (ol f) i d) + 1)) (lv' := [(3, .int (nI ((t_cnt pf (ol f) i d) + 1))), (4, .int (nI i)), (0, .ref (ly_f y 3 f)), (1, .int (nI k)), (2, .int d)]) hK.1.1 hK.1.2.1 dX4_countOlderOfDay_36 hl (k := 1) rfl (nI_1 (t_cnt pf (ol f) i d)) (by decide) rfl (fun ls hl => ?_)
        refine lv_iinc (v := nI (i + 1)) (lv' := [(4, .int (nI (i + 1))), (3, .int (nI ((t_cnt pf (ol f) i d) + 1))), (0, .ref (ly_f y 3 f)), (1, .int (nI k)), (2, .int d)]) hK.1.1 hK.1.2.1 dX4_countOlderOfDay_39 hl (k := 1) rfl (nI_1 i) (by decide) rfl (fun ls hl => ?_)
        have hl : lv_has ls 5 [(4, .int (nI (i + 1))), (3, .int (nI (t_cnt pf (ol f) (i + 1) d))), (0, .ref (ly_f y 3 f)), (1, .int (nI k)), (2, .int d)] := by rw [t_cnt_e htk c33_2]; exact hl
        refine lv_goto (tgt := 5) hK.1.1 hK.1.2.1 dX4_countOlderOfDay_42 (by decide) ?_
        exact ih (k - (i + 1)) (by omega)  (i + 1) ls _ _ rfl (by omega) hP hS (lv_sub hl [0, 1, 2, 3, 4] rfl)
  exact loop _ 0 ls _ _ rfl (by omega) hP hS (lv_sub hl [0, 1, 2, 3, 4] rfl)
set_option maxHeartbeats 4000000 in
set_option maxRecDepth 100000 in
theorem c_X4_placeOf (l : Launch) {y : ly_T} {A : Nat → Prop} {G : gk_G} {td : Int32} {ru : Nat → Nat → Int32} {fr lv : Nat → Nat} {lt et tl : Nat → Int32} {hf hp : Nat → Option Nat} {ol : Nat → List Nat} {PS : Nat → Prop} {pf : Nat → Nat → Int32} {ov : Int64} {md mq mt : Int32} {mv : Nat → Nat → Int32} {f t : Nat}  (hR : rp y G td ru fr lv lt et tl hf hp ol PS pf ov md mq mt mv) (hf5 : f < 5) : gk_M0 l yX4_placeOf (Cond.code yX4_placeOf cX4_placeOf 3 (some .int)) 3 90 0 0 y A [.ref (ly_f y 3 f), .ref t] G (fun v G1 => (∃ x, t_plc (ol f) t x ∧ v = some (.int x)) ∧ G1 = G) := by
  refine gk_of0 (cc := cX4_placeOf) (maxL := 3) (ret := (some .int)) (own := RX4) (by decide +kernel) rfl rfl (Nat.le_of_ble_eq_true rfl) ?_
  intro p e s m below meth c ls hK hret hlk _ hP hS hl
  have hl : lv_has ls 3 [(0, .ref (ly_f y 3 f)), (1, .ref t)] := hl
  have hn9 := rp_len hR hf5
  refine lv_iconst (v := 0) hK.1.1 hK.1.2.1 dX4_placeOf_0 (by decide) ?_
  refine lv_istore_n (lv' := [(2, .int 0), (0, .ref (ly_f y 3 f)), (1, .ref t)]) hK.1.1 hK.1.2.1 dX4_placeOf_1 rfl hl (by decide) rfl (fun ls hl => ?_)
  have loop : ∀ (dd : Nat) (k : Nat) (ls : Array Slot) (H : Heap) (locs : List Loc), (ol f).length - k = dd → (k ≤ (ol f).length) → (∀ j, j < k → ¬ (ol f)[j]? = some t) → gk_P (ly_D y) A G H → va_S A s.heap H locs → lv_has ls 3 [(2, .int (nI k)), (0, .ref (ly_f y 3 f)), (1, .ref t)] → W p l e { frames := 3, cells := 0, slots := 0, locals := 90 } s m [.ref (ly_f y 3 f), .ref t].toArray below meth c H locs 0 0 (MQ below (gk_Q y A (fun v G1 => (∃ x, t_plc (ol f) t x ∧ v = some (.int x)) ∧ G1 = G)) [.ref (ly_f y 3 f), .ref t].toArray s 0 0 A) (F0 m 2 ls []) := by
    intro dd
    induction dd using Nat.strongRecOn with
    | _ dd ih =>
    intro k ls H locs hdd hk hno hP hS hl
    refine lv_iload_n hK.1.1 hK.1.2.1 dX4_placeOf_2 rfl (lv_at hl 0 rfl) ?_
    refine lv_aload_n hK.1.1 hK.1.2.1 dX4_placeOf_3 rfl (lv_at hl 1 rfl) ?_
    refine gk_callV0 (n := 0) (As := []) (rest := [.int (nI k)]) hK (c_list_size l hR hf5) (gk_gV q_12_10 q_12_11 q_12_12 q_2_15 q_12_13) ⟨rfl, by decide +kernel, by decide +kernel, by decide +kernel⟩ ⟨(Nat.le_of_ble_eq_true rfl), (Nat.le_of_ble_eq_true rfl)⟩ hP hS (rp_recvL hK.2.2.1 hP hR hf5) rfl hl.1 rfl (Nat.le_of_ble_eq_true rfl) dX4_placeOf_4 ⟨(Nat.le_of_ble_eq_true rfl), (Nat.le_of_ble_eq_true rfl)⟩ (fun v G1 H locs hw hP hS => ?_)
    obtain ⟨rfl, hG9⟩ := hw
    rw [hG9] at hP
    refine W.eq (g2 := F0 m 7 ls [.int (nI (ol f).length), .int (nI k)]) rfl ?_
    refine lv_icmp_ge (tgt := 29) hK.1.1 hK.1.2.1 dX4_placeOf_7 (by decide) (fun c7_1 => ?_) (fun c7_1 => ?_)
    · have hkn : k = (ol f).length := Nat.le_antisymm hk ((nI_leI (by omega) (by omega)).mp c7_1)
      refine lv_iconst (v := 0) hK.1.1 hK.1.2.1 dX4_placeOf_29 (by decide) ?_
      exact gk_iret0 hK.1 hret hlk hP hS (Nat.le_of_ble_eq_true rfl) (Nat.le_of_ble_eq_true rfl) dX4_placeOf_30 ⟨⟨_, Or.inr ⟨fun j hj => hno j (by rw [hkn]; exact (List.getElem?_eq_some_iff.mp hj).1) hj, rfl⟩, rfl⟩, rfl⟩
    · have hkn : k < (ol f).length := Nat.lt_of_not_le (fun h => c7_1 (nI_le h (by omega)))
      obtain ⟨u, htk⟩ : ∃ u, (ol f)[k]? = some u := ⟨_, List.getElem?_eq_getElem (by omega)⟩
      refine lv_aload_n hK.1.1 hK.1.2.1 dX4_placeOf_10 rfl (lv_at hl 1 rfl) ?_
      refine lv_iload_n hK.1.1 hK.1.2.1 dX4_placeOf_11 rfl (lv_at hl 0 rfl) ?_
      refine gk_callV0 (n := 1) (As := [.int (nI k)]) (rest := []) hK (c_list_get l hR hf5 htk) (gk_gV q_15_5 q_15_6 q_15_7 q_2_15 q_15_8) ⟨rfl, by decide +kernel, by decide +kernel, by decide +kernel⟩ ⟨(Nat.le_of_ble_eq_true rfl), (Nat.le_of_ble_eq_true rfl)⟩ hP hS (rp_recvL hK.2.2.1 hP hR hf5) rfl hl.1 rfl (Nat.le_of_ble_eq_true rfl) dX4_placeOf_12 ⟨(Nat.le_of_ble_eq_true rfl), (Nat.le_of_ble_eq_true rfl)⟩ (fun v G1 H locs hw hP hS => ?_)
      obtain ⟨rfl, hG9⟩ := hw
      rw [hG9] at hP
      refine W.eq (g2 := F0 m 15 ls [.ref u]) rfl ?_
      refine lv_aload_n hK.1.1 hK.1.2.1 dX4_placeOf_15 rfl (lv_at hl 2 rfl) ?_
      refine lv_acmp_ne (rx := some u) (ry := some t) (tgt := 23) hK.1.1 hK.1.2.1 dX4_placeOf_16 (by decide) (fun c16_2 => ?_) (fun c16_2 => ?_)
      · have hut := c16_2
        refine lv_iinc (v := nI (k + 1)) (lv' := [(2, .int (nI (k + 1))), (0, .ref (ly_f y 3 f)), (1, .ref t)]) hK.1.1 hK.1.2.1 dX4_placeOf_23 hl (k := 0) rfl (nI_1 k) (by decide) rfl (fun ls hl => ?_)
        refine lv_goto (tgt := 2) hK.1.1 hK.1.2.1 dX4_placeOf_26 (by decide) ?_
        exact ih ((ol f).length - (k + 1)) (by omega)  (k + 1) ls _ _ rfl (by omega) (fun j hj hz => by by_cases hjk : j = k; (rw [hjk, htk] at hz; exact hut hz); (exact hno j (by omega) hz)) hP hS (lv_sub hl [0, 1, 2] rfl)
      · have hut := c16_2
        refine lv_iload_n hK.1.1 hK.1.2.1 dX4_placeOf_19 rfl (lv_at hl 0 rfl) ?_
        refine lv_iconst (v := 1) hK.1.1 hK.1.2.1 dX4_placeOf_20 (by decide) ?_
        refine lv_iadd hK.1.1 hK.1.2.1 dX4_placeOf_21 ?_
        rw [nI_1]
        exact gk_iret0 hK.1 hret hlk hP hS (Nat.le_of_ble_eq_true rfl) (Nat.le_of_ble_eq_true rfl) dX4_placeOf_22 ⟨⟨_, Or.inl ⟨k, htk.trans hut, hno, rfl⟩, rfl⟩, rfl⟩
  exact loop _ 0 ls _ _ rfl (by omega) (fun j hj => absurd hj (Nat.not_lt_zero j)) hP hS (lv_sub hl [0, 1, 2] rfl)
set_option maxHeartbeats 4000000 in
set_option maxRecDepth 100000 in
theorem c_X4_name (l : Launch) {y : ly_T} {A : Nat → Prop} {G : gk_G} {td : Int32} {ru : Nat → Nat → Int32} {fr lv : Nat → Nat} {lt et tl : Nat → Int32} {hf hp : Nat → Option Nat} {ol : Nat → List Nat} {PS : Nat → Prop} {pf : Nat → Nat → Int32} {ov : Int64} {md mq mt : Int32} {mv : Nat → Nat → Int32} {i j : Int32}  (hfl : l.stackTraces = false) (hR : rp y G td ru fr lv lt et tl hf hp ol PS pf ov md mq mt mv) (hin5 : ∀ f, f < 5 → ∀ q ∈ ol f, PS q) : gk_M l yX4_name (Cond.code yX4_name cX4_name 5 (some .int)) 7 120 16 128 y A [.ref (ly_a y 0), .int i, .int j] G (fun v G1 => ∃ f k t, f < 5 ∧ i = nI f ∧ (ol f)[k]? = some t ∧ j = nI k ∧ v = some (.int (if ru (fr f) 8 = 0 then nI ((ol f).length - k) else 1000 * pf 1 t + nI (t_cnt pf (ol f) k (pf 1 t)))) ∧ G1 = G) (fun E G1 => E = "java/lang/IndexOutOfBoundsException" ∧ G1 = G ∧ (rg_out i 5 ∨ ∃ f, f < 5 ∧ i = nI f ∧ rg_out j (ol f).length)) := by
  refine gk_ofX (cc := cX4_name) (maxL := 5) (ret := (some .int)) (own := RX4) (by decide +kernel) rfl rfl (Nat.le_of_ble_eq_true rfl) ?_
  intro p e s m below meth c ls hK hret hlk hex hP hS hl
  have hl : lv_has ls 5 [(0, .ref (ly_a y 0)), (1, .int i), (2, .int j)] := hl
  refine lv_aload_n hK.1.1 hK.1.2.1 dX4_name_0 rfl (lv_at hl 0 rfl) ?_
  refine lv_iload_n hK.1.1 hK.1.2.1 dX4_name_1 rfl (lv_at hl 1 rfl) ?_
  refine gk_callV (n := 1) (As := [.int i]) (rest := []) hK (c_X4_fileOf l hfl hR (i := i)) (gk_gV q_7_19 q_7_20 q_7_21 q_1_2 q_7_22) ⟨rfl, by decide +kernel, by decide +kernel, by decide +kernel⟩ ⟨(Nat.le_of_ble_eq_true rfl), (Nat.le_of_ble_eq_true rfl)⟩ hP hS (gk_recv hK.2.2.1.1 hP hR.1 rfl) rfl hl.1 rfl (Nat.le_of_ble_eq_true rfl) dX4_name_2 ⟨(Nat.le_of_ble_eq_true rfl), (Nat.le_of_ble_eq_true rfl)⟩ (fun E ce q9 G1 H locs hx hP hS h1 h2 h3 => gk_out hex hlk hP hS h1 h2 h3 ⟨hx.1, hx.2.1, Or.inl hx.2.2⟩ (Nat.le_of_ble_eq_true rfl) (Nat.le_of_ble_eq_true rfl)) (fun v G1 H locs hw hP hS => ?_)
  obtain ⟨f_1, hf_1, rfl, rfl, hG9⟩ := hw
  rw [hG9] at hP
  refine W.eq (g2 := F0 m 5 ls [.ref (ly_f y 1 f_1)]) rfl ?_
  refine lv_astore_n (lv' := [(3, .ref (ly_f y 1 f_1)), (0, .ref (ly_a y 0)), (1, .int (nI f_1)), (2, .int j)]) hK.1.1 hK.1.2.1 dX4_name_5 rfl hl (by decide) rfl (fun ls hl => ?_)
  refine lv_aload_n hK.1.1 hK.1.2.1 dX4_name_6 rfl (lv_at hl 0 rfl) ?_
  refine lv_iload_n hK.1.1 hK.1.2.1 dX4_name_7 rfl (lv_at hl 3 rfl) ?_
  refine gk_callS (n := 2) (As := [.ref (ly_f y 1 f_1), .int j]) (rest := []) hK (c_X4_oldPartOf l hfl hR (i := j) hf_1 (hin5 _ hf_1)) (gk_gS q_21_16 q_21_17 q_1_2 q_21_18) ⟨by decide +kernel, by decide +kernel, by decide +kernel⟩ ⟨(Nat.le_of_ble_eq_true rfl), (Nat.le_of_ble_eq_true rfl)⟩ hP hS rfl hl.1 rfl (Nat.le_of_ble_eq_true rfl) dX4_name_8 ⟨(Nat.le_of_ble_eq_true rfl), (Nat.le_of_ble_eq_true rfl)⟩ (fun E ce q9 G1 H locs hx hP hS h1 h2 h3 => gk_out hex hlk hP hS h1 h2 h3 ⟨hx.1, hx.2.1, Or.inr ⟨f_1, hf_1, rfl, hx.2.2⟩⟩ (Nat.le_of_ble_eq_true rfl) (Nat.le_of_ble_eq_true rfl)) (fun v G1 H locs hw hP hS => ?_)
  obtain ⟨k, t, htk, rfl, rfl, hG9⟩ := hw
  rw [hG9] at hP
  refine W.eq (g2 := F0 m 11 ls [.ref t]) rfl ?_
  refine tr_150 hK hP hR (hin5 f_1 hf_1 t (List.mem_of_getElem? htk)) dX4_name_11 ?_
  refine lv_istore (lv' := [(4, .int (pf 1 t)), (3, .ref (ly_f y 1 f_1)), (0, .ref (ly_a y 0)), (1, .int (nI f_1)), (2, .int (nI k))]) hK.1.1 hK.1.2.1 dX4_name_14 hl (by decide) rfl (fun ls hl => ?_)
  refine lv_aload_n hK.1.1 hK.1.2.1 dX4_name_16 rfl (lv_at hl 1 rfl) ?_
  refine tr_75 hK hP hR hf_1 dX4_name_17 ?_
  refine tr_65 hK hP hR (hR.2.2.2.1 f_1 hf_1).1 dX4_name_20 ?_
  refine lv_if_ne (tgt := 36) hK.1.1 hK.1.2.1 dX4_name_23 (by decide) (fun c23_2 => ?_) (fun c23_2 => ?_)
  · refine lv_sipush (v := 1000) hK.1.1 hK.1.2.1 dX4_name_36 (by decide) ?_
    refine lv_iload hK.1.1 hK.1.2.1 dX4_name_39 (lv_at hl 0 rfl) ?_
    refine lv_imul hK.1.1 hK.1.2.1 dX4_name_41 ?_
    refine lv_aload_n hK.1.1 hK.1.2.1 dX4_name_42 rfl (lv_at hl 1 rfl) ?_
    refine tr_137 hK hP hR hf_1 dX4_name_43 ?_
    refine lv_iload_n hK.1.1 hK.1.2.1 dX4_name_46 rfl (lv_at hl 4 rfl) ?_
    refine lv_iload hK.1.1 hK.1.2.1 dX4_name_47 (lv_at hl 0 rfl) ?_
    refine gk_callS0 (n := 3) (As := [.ref (ly_f y 3 f_1), .int (nI k), .int (pf 1 t)]) (rest := [.int (1000 * (pf 1 t))]) hK (c_X4_countOlderOfDay l hR (k := k) (d := (pf 1 t)) hf_1 (hin5 _ hf_1) (Nat.le_of_lt (List.getElem?_eq_some_iff.mp htk).1)) (gk_gS q_22_10 q_22_11 q_1_2 q_22_12) ⟨by decide +kernel, by decide +kernel, by decide +kernel⟩ ⟨(Nat.le_of_ble_eq_true rfl), (Nat.le_of_ble_eq_true rfl)⟩ hP hS rfl hl.1 rfl (Nat.le_of_ble_eq_true rfl) dX4_name_49 ⟨(Nat.le_of_ble_eq_true rfl), (Nat.le_of_ble_eq_true rfl)⟩ (fun v G1 H locs hw hP hS => ?_)
    obtain ⟨rfl, hG9⟩ := hw
    rw [hG9] at hP
    refine W.eq (g2 := F0 m 52 ls [.int (nI (t_cnt pf (ol f_1) k (pf 1 t))), .int (1000 * (pf 1 t))]) rfl ?_
    refine lv_iadd hK.1.1 hK.1.2.1 dX4_name_52 ?_
    exact vx_ret (gk_iret0 hK.1 hret hlk hP hS (Nat.le_of_ble_eq_true rfl) (Nat.le_of_ble_eq_true rfl) dX4_name_53 ⟨f_1, k, t, hf_1, rfl, htk, rfl, by rw [if_neg c23_2], rfl⟩)
  · refine lv_aload_n hK.1.1 hK.1.2.1 dX4_name_26 rfl (lv_at hl 1 rfl) ?_
    refine tr_137 hK hP hR hf_1 dX4_name_27 ?_
    refine gk_callV0 (n := 0) (As := []) (rest := []) hK (c_list_size l hR hf_1) (gk_gV q_12_10 q_12_11 q_12_12 q_2_15 q_12_13) ⟨rfl, by decide +kernel, by decide +kernel, by decide +kernel⟩ ⟨(Nat.le_of_ble_eq_true rfl), (Nat.le_of_ble_eq_true rfl)⟩ hP hS (rp_recvL hK.2.2.1 hP hR hf_1) rfl hl.1 rfl (Nat.le_of_ble_eq_true rfl) dX4_name_30 ⟨(Nat.le_of_ble_eq_true rfl), (Nat.le_of_ble_eq_true rfl)⟩ (fun v G1 H locs hw hP hS => ?_)
    obtain ⟨rfl, hG9⟩ := hw
    rw [hG9] at hP
    refine W.eq (g2 := F0 m 33 ls [.int (nI (ol f_1).length)]) rfl ?_
    refine lv_iload_n hK.1.1 hK.1.2.1 dX4_name_33 rfl (lv_at hl 4 rfl) ?_
    refine lv_isub hK.1.1 hK.1.2.1 dX4_name_34 ?_
    rw [pk_sub (Nat.le_of_lt (List.getElem?_eq_some_iff.mp htk).1)]
    exact vx_ret (gk_iret0 hK.1 hret hlk hP hS (Nat.le_of_ble_eq_true rfl) (Nat.le_of_ble_eq_true rfl) dX4_name_35 ⟨f_1, k, t, hf_1, rfl, htk, rfl, by rw [if_pos c23_2], rfl⟩)
set_option maxHeartbeats 4000000 in
set_option maxRecDepth 100000 in
theorem c_X4_holds (l : Launch) {y : ly_T} {A : Nat → Prop} {G : gk_G} {td : Int32} {ru : Nat → Nat → Int32} {fr lv : Nat → Nat} {lt et tl : Nat → Int32} {hf hp : Nat → Option Nat} {ol : Nat → List Nat} {PS : Nat → Prop} {pf : Nat → Nat → Int32} {ov : Int64} {md mq mt : Int32} {mv : Nat → Nat → Int32} {i : Int32}  (hfl : l.stackTraces = false) (hR : rp y G td ru fr lv lt et tl hf hp ol PS pf ov md mq mt mv) (hHo : ∀ h, h < 4 → ∀ f, hf h = some f → ∃ t, hp h = some t) : gk_M l yX4_holds (Cond.code yX4_holds cX4_holds 4 (some .int)) 7 120 16 128 y A [.ref (ly_a y 0), .int i] G (fun v G1 => ∃ h, h < 4 ∧ i = nI h ∧ ((hf h = none ∧ v = some (.int (-1))) ∨ ∃ f t x, f < 5 ∧ hf h = some f ∧ hp h = some t ∧ t_plc (ol f) t x ∧ v = some (.int (100 * nI f + x))) ∧ G1 = G) (fun E G1 => E = "java/lang/IndexOutOfBoundsException" ∧ G1 = G ∧ rg_out i 4) := by
  refine gk_ofX (cc := cX4_holds) (maxL := 4) (ret := (some .int)) (own := RX4) (by decide +kernel) rfl rfl (Nat.le_of_ble_eq_true rfl) ?_
  intro p e s m below meth c ls hK hret hlk hex hP hS hl
  have hl : lv_has ls 4 [(0, .ref (ly_a y 0)), (1, .int i)] := hl
  refine lv_aload_n hK.1.1 hK.1.2.1 dX4_holds_0 rfl (lv_at hl 0 rfl) ?_
  refine lv_iload_n hK.1.1 hK.1.2.1 dX4_holds_1 rfl (lv_at hl 1 rfl) ?_
  refine gk_callV (n := 1) (As := [.int i]) (rest := []) hK (c_X4_holderOf l hfl hR (i := i)) (gk_gV q_8_16 q_8_17 q_8_18 q_1_2 q_8_19) ⟨rfl, by decide +kernel, by decide +kernel, by decide +kernel⟩ ⟨(Nat.le_of_ble_eq_true rfl), (Nat.le_of_ble_eq_true rfl)⟩ hP hS (gk_recv hK.2.2.1.1 hP hR.1 rfl) rfl hl.1 rfl (Nat.le_of_ble_eq_true rfl) dX4_holds_2 ⟨(Nat.le_of_ble_eq_true rfl), (Nat.le_of_ble_eq_true rfl)⟩ (fun E ce q9 G1 H locs hx hP hS h1 h2 h3 => gk_out hex hlk hP hS h1 h2 h3 hx (Nat.le_of_ble_eq_true rfl) (Nat.le_of_ble_eq_true rfl)) (fun v G1 H locs hw hP hS => ?_)
  obtain ⟨h_1, hh_1, rfl, rfl, hG9⟩ := hw
  rw [hG9] at hP
  refine W.eq (g2 := F0 m 5 ls [.ref (ly_f y 2 h_1)]) rfl ?_
  refine lv_astore_n (lv' := [(2, .ref (ly_f y 2 h_1)), (0, .ref (ly_a y 0)), (1, .int (nI h_1))]) hK.1.1 hK.1.2.1 dX4_holds_5 rfl hl (by decide) rfl (fun ls hl => ?_)
  refine lv_aload_n hK.1.1 hK.1.2.1 dX4_holds_6 rfl (lv_at hl 0 rfl) ?_
  rcases ef_3 : hf h_1 with _ | f_2
  · refine tr_86 hK hP hR hh_1 dX4_holds_7 ?_
    rw [ef_3]
    refine W.eq (g2 := F0 m 10 ls [.null]) rfl ?_
    refine lv_astore_nN (lv' := [(3, .null), (2, .ref (ly_f y 2 h_1)), (0, .ref (ly_a y 0)), (1, .int (nI h_1))]) hK.1.1 hK.1.2.1 dX4_holds_10 rfl hl (by decide) rfl (fun ls hl => ?_)
    refine lv_aload_nN hK.1.1 hK.1.2.1 dX4_holds_11 rfl (lv_at hl 0 rfl) ?_
    refine lv_ifnonnullN hK.1.1 hK.1.2.1 dX4_holds_12 ?_
    refine lv_iconst (v := (-1)) hK.1.1 hK.1.2.1 dX4_holds_15 (by decide) ?_
    exact vx_ret (gk_iret0 hK.1 hret hlk hP hS (Nat.le_of_ble_eq_true rfl) (Nat.le_of_ble_eq_true rfl) dX4_holds_16 ⟨h_1, hh_1, rfl, Or.inl ⟨ef_3, rfl⟩, rfl⟩)
  · have hf_2 : f_2 < 5 := (hR.2.2.2.2.1.1 h_1 hh_1).1 f_2 ef_3
    refine tr_86 hK hP hR hh_1 dX4_holds_7 ?_
    rw [ef_3]
    refine W.eq (g2 := F0 m 10 ls [.ref (ly_f y 1 f_2)]) rfl ?_
    refine lv_astore_n (lv' := [(3, .ref (ly_f y 1 f_2)), (2, .ref (ly_f y 2 h_1)), (0, .ref (ly_a y 0)), (1, .int (nI h_1))]) hK.1.1 hK.1.2.1 dX4_holds_10 rfl hl (by decide) rfl (fun ls hl => ?_)
    refine lv_aload_n hK.1.1 hK.1.2.1 dX4_holds_11 rfl (lv_at hl 0 rfl) ?_
    refine lv_ifnonnull (tgt := 17) hK.1.1 hK.1.2.1 dX4_holds_12 (by decide) ?_
    refine lv_bipush (v := 100) hK.1.1 hK.1.2.1 dX4_holds_17 (by decide) ?_
    refine lv_aload_n hK.1.1 hK.1.2.1 dX4_holds_19 rfl (lv_at hl 0 rfl) ?_
    refine tr_163 hK hP hR hf_2 dX4_holds_20 ?_
    refine lv_imul hK.1.1 hK.1.2.1 dX4_holds_23 ?_
    refine lv_aload_n hK.1.1 hK.1.2.1 dX4_holds_24 rfl (lv_at hl 0 rfl) ?_
    refine tr_137 hK hP hR hf_2 dX4_holds_25 ?_
    refine lv_aload_n hK.1.1 hK.1.2.1 dX4_holds_28 rfl (lv_at hl 1 rfl) ?_
    obtain ⟨t, ht⟩ := hHo h_1 hh_1 f_2 ef_3
    refine tr_94 hK hP hR hh_1 dX4_holds_29 ?_
    rw [ht]
    refine W.eq (g2 := F0 m 32 ls [.ref t, .ref (ly_f y 3 f_2), .int (100 * (nI f_2))]) rfl ?_
    refine gk_callS0 (n := 2) (As := [.ref (ly_f y 3 f_2), .ref t]) (rest := [.int (100 * (nI f_2))]) hK (c_X4_placeOf l hR (t := t) hf_2) (gk_gS q_23_23 q_24_0 q_1_2 q_24_1) ⟨by decide +kernel, by decide +kernel, by decide +kernel⟩ ⟨(Nat.le_of_ble_eq_true rfl), (Nat.le_of_ble_eq_true rfl)⟩ hP hS rfl hl.1 rfl (Nat.le_of_ble_eq_true rfl) dX4_holds_32 ⟨(Nat.le_of_ble_eq_true rfl), (Nat.le_of_ble_eq_true rfl)⟩ (fun v G1 H locs hw hP hS => ?_)
    obtain ⟨⟨x, hx9, rfl⟩, hG9⟩ := hw
    rw [hG9] at hP
    refine W.eq (g2 := F0 m 35 ls [.int x, .int (100 * (nI f_2))]) rfl ?_
    refine lv_iadd hK.1.1 hK.1.2.1 dX4_holds_35 ?_
    exact vx_ret (gk_iret0 hK.1 hret hlk hP hS (Nat.le_of_ble_eq_true rfl) (Nat.le_of_ble_eq_true rfl) dX4_holds_36 ⟨h_1, hh_1, rfl, Or.inr ⟨f_2, t, x, hf_2, ef_3, ht, hx9, rfl⟩, rfl⟩)
end
