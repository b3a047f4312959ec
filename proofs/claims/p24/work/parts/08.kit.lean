/-! A WORLD AS A MAP: which cell is held at which address. The rows of the kit over lists of cells, turned to maps. -/
abbrev gk_G : Type := Nat → Option va_E
def gk_up (G : gk_G) (a : Nat) (e : va_E) : gk_G := fun q => if q = a then some e else G q
theorem gk_us (G : gk_G) (a : Nat) (e : va_E) : gk_up G a e a = some e := by simp [gk_up]
theorem gk_un (G : gk_G) {a b : Nat} (e : va_E) (h : b ≠ a) : gk_up G a e b = G b := by simp [gk_up, h]
theorem gk_ne {G : gk_G} {a b : Nat} {e1 e2 : va_E} (h1 : G a = some e1) (h2 : G b = some e2) (h : e1 ≠ e2) : a ≠ b := fun q => h (by subst q; exact Option.some.inj (h1.symm.trans h2))
theorem gk_keep {G : gk_G} {a b : Nat} {e ea eb : va_E} (ha : G a = some ea) (hb : G b = some eb) (h : eb ≠ ea) : gk_up G a e b = some eb := by rw [gk_un G e (gk_ne hb ha h)]; exact hb
theorem gk_keepN {G : gk_G} {a b : Nat} {e eb : va_E} (ha : G a = none) (hb : G b = some eb) : gk_up G a e b = some eb := by
  rw [gk_un G e (fun q => by rw [q, ha] at hb; cases hb)]
  exact hb
def gk_P (D : va_G) (A : Nat → Prop) (G : gk_G) (H : Heap) : Prop := ∀ (a : Nat) (e : va_E), G a = some e → A a ∧ va_at D vwCl (a, e) H
def gk_ws (G : gk_G) (n : Nat) : va_W := (List.range n).filterMap (fun q => (G q).map (fun e => (q, e)))
theorem gk_ws_mem {G : gk_G} {n q : Nat} {e : va_E} : (q, e) ∈ gk_ws G n ↔ q < n ∧ G q = some e := by
  unfold gk_ws
  rw [List.mem_filterMap]
  constructor
  · rintro ⟨a, ha, h⟩
    rw [List.mem_range] at ha
    cases hg : G a with
    | none => rw [hg] at h; cases h
    | some e2 =>
      rw [hg] at h
      have h2 := Option.some.inj h
      have h3 : a = q := congrArg Prod.fst h2
      have h4 : e2 = e := congrArg Prod.snd h2
      subst h3; subst h4
      exact ⟨ha, hg⟩
  · rintro ⟨h1, h2⟩
    exact ⟨q, List.mem_range.mpr h1, by rw [h2]; rfl⟩
theorem gk_ws_pw (G : gk_G) (n : Nat) : (gk_ws G n).Pairwise (fun x y => x.1 < y.1) := by
  unfold gk_ws
  refine List.Pairwise.filterMap _ (fun a b hab x hx y hy => ?_) List.pairwise_lt_range
  cases hg : G a with
  | none => rw [hg] at hx; cases hx
  | some e1 =>
    cases hg2 : G b with
    | none => rw [hg2] at hy; cases hy
    | some e2 =>
      rw [hg] at hx
      rw [hg2] at hy
      cases hx
      cases hy
      exact hab
theorem gk_ws_D {D : va_G} {A : Nat → Prop} {G : gk_G} {H : Heap} (h : gk_P D A G H) : va_D A (gk_ws G H.size) := by
  refine ⟨fun i j x y hi hj hxy => ?_, fun k q hq => ?_⟩
  · obtain ⟨li, ei⟩ := List.getElem?_eq_some_iff.mp hi
    obtain ⟨lj, ej⟩ := List.getElem?_eq_some_iff.mp hj
    have pw := List.pairwise_iff_getElem.mp (gk_ws_pw G H.size)
    rcases Nat.lt_trichotomy i j with h1 | h1 | h1
    · have := pw i j li lj h1
      rw [ei, ej] at this
      omega
    · exact h1
    · have := pw j i lj li h1
      rw [ei, ej] at this
      omega
  · obtain ⟨a, e⟩ := q
    exact (h a e (gk_ws_mem.mp (List.mem_of_getElem? hq)).2).1
theorem gk_open {D : va_G} {A : Nat → Prop} {G : gk_G} {H : Heap} (h : gk_P D A G H) : va_P D vwCl (gk_ws G H.size) H ∧ va_D A (gk_ws G H.size) ∧ ∀ (a : Nat) (e : va_E), G a = some e → ∃ k : Nat, (gk_ws G H.size)[k]? = some (a, e) := by
  refine ⟨fun k q hq => ?_, gk_ws_D h, fun a e hG => ?_⟩
  · obtain ⟨a, e⟩ := q
    exact (h a e (gk_ws_mem.mp (List.mem_of_getElem? hq)).2).2
  · exact List.getElem?_of_mem (gk_ws_mem.mpr ⟨(h a e hG).2.lt, hG⟩)
theorem gk_lt {D : va_G} {A : Nat → Prop} {G : gk_G} {H : Heap} (h : gk_P D A G H) {a : Nat} {e : va_E} (hG : G a = some e) : a < H.size := (h a e hG).2.lt
theorem gk_set {D : va_G} {A : Nat → Prop} {G : gk_G} {H H1 : Heap} {k a : Nat} {e e2 : va_E} (h : gk_P D A G H) (hk : (gk_ws G H.size)[k]? = some (a, e)) (hP : va_P D vwCl ((gk_ws G H.size).set k (a, e2)) H1) (hD : va_D A ((gk_ws G H.size).set k (a, e2))) : gk_P D A (gk_up G a e2) H1 := by
  have hl := (List.getElem?_eq_some_iff.mp hk).1
  intro q e3 hq
  by_cases hqa : q = a
  · subst hqa
    rw [gk_us] at hq
    cases hq
    have h1 : ((gk_ws G H.size).set k (q, e2))[k]? = some (q, e2) := List.getElem?_set_self hl
    exact ⟨hD.2 k _ h1, hP k _ h1⟩
  · rw [gk_un G e2 hqa] at hq
    obtain ⟨j, hj⟩ := (gk_open h).2.2 q e3 hq
    have hjk : j ≠ k := fun z => by
      subst z
      rw [hj] at hk
      exact hqa (congrArg Prod.fst (Option.some.inj hk))
    have h1 : ((gk_ws G H.size).set k (a, e2))[j]? = some (q, e3) := by rw [List.getElem?_set_ne (Ne.symm hjk)]; exact hj
    exact ⟨hD.2 j _ h1, hP j _ h1⟩
theorem gk_push {D : va_G} {A : Nat → Prop} {G : gk_G} {H H1 : Heap} {a : Nat} {e : va_E} (h : gk_P D A G H) (hP : va_P D vwCl (gk_ws G H.size ++ [(a, e)]) H1) (hD : va_D A (gk_ws G H.size ++ [(a, e)])) : gk_P D A (gk_up G a e) H1 ∧ G a = none := by
  have hlast : (gk_ws G H.size ++ [(a, e)])[(gk_ws G H.size).length]? = some (a, e) := by rw [List.getElem?_append_right (Nat.le_refl _), Nat.sub_self]; rfl
  have hn : G a = none := by
    cases hg : G a with
    | none => rfl
    | some e2 =>
      obtain ⟨j, hj⟩ := (gk_open h).2.2 a e2 hg
      have hl := (List.getElem?_eq_some_iff.mp hj).1
      have h1 : (gk_ws G H.size ++ [(a, e)])[j]? = some (a, e2) := by rw [List.getElem?_append_left hl]; exact hj
      have := hD.1 _ _ _ _ h1 hlast rfl
      omega
  refine ⟨fun q e3 hq => ?_, hn⟩
  by_cases hqa : q = a
  · subst hqa
    rw [gk_us] at hq
    cases hq
    exact ⟨hD.2 _ _ hlast, hP _ _ hlast⟩
  · rw [gk_un G e hqa] at hq
    obtain ⟨j, hj⟩ := (gk_open h).2.2 q e3 hq
    have hl := (List.getElem?_eq_some_iff.mp hj).1
    have h1 : (gk_ws G H.size ++ [(a, e)])[j]? = some (q, e3) := by rw [List.getElem?_append_left hl]; exact hj
    exact ⟨hD.2 _ _ h1, hP _ _ h1⟩
/-- the machine's side of a row: the interpreter, the code, the class, the words -/
def gk_C (p : Program) (s : State) (m : MethodId) (c : Code) (args : Array Value) (cc : ByteArray) (own : String) : Prop := p.tables.exec = Jvm.exec ∧ c.code = cc ∧ s.vm.findClass own = some m.cls ∧ ∀ w ∈ wsL_law, w.before args s = true
theorem gk_ra {s : State} {c1 c2 : ClassId} {ty : FieldType} (h1 : va_RA s c1 ty) (h2 : va_RA s c2 ty) : c1 = c2 := by
  cases ty with
  | object C =>
    obtain ⟨-, -, -, -, -, a⟩ := h1
    obtain ⟨-, -, -, -, -, b⟩ := h2
    exact Option.some.inj (a.symm.trans b)
  | _ => exact Option.some.inj (Eq.trans (Eq.symm h1) h2)
section GK1
variable {p : Program} {l : Launch} {e : Env} {R : Room} {s : State} {m : MethodId} {args : Array Value} {below : List Frame} {meth : Method} {c : Code} {H : Heap} {locs : List Loc} {cells slots : Nat} {Q : State → Prop}
variable {cc : ByteArray} {pc : Nat} {ls : Array Slot} {rest : List Value} {D : va_G} {A : Nat → Prop} {a : Nat} {tys : List (ClassId × FieldType)} {G : gk_G} {own : String}
theorem gk_get (hC : gk_C p s m c args cc own) (hK : va_K D vwCl tys s) (hP : gk_P D A G H) {ci index N k : Nat} {ref C : String} {T : u_T} {fs : List Value} (hG : G a = some (.inr (ci, fs))) (hc : vwCl[ci]? = some (C, T, N)) (hin : ∀ w ∈ u_ws C T N, w ∈ wsL_law) (hk : k < N) (hl : Cond.fieldLink own index ref (T k).2.1 (T k).2.2.1 ∈ wsL_law)
    (hsame : ∀ x, s.fieldFound? (T k).1 (T k).2.1 (T k).2.2.1 = some x → s.fieldFound? ref (T k).2.1 (T k).2.2.1 = some x) {v : Value} (hv : fs[k]? = some v) (hdg : decode cc pc = .ok (.getfield index, 3))
    (kk : W p l e R s m args below meth c H locs cells slots Q (F0 m (pc + 3) ls (v :: rest))) : W p l e R s m args below meth c H locs cells slots Q (F0 m pc ls (.ref a :: rest)) := by
  obtain ⟨hx, hb, hown, hts⟩ := hC
  obtain ⟨P, -, hi⟩ := gk_open hP
  obtain ⟨q0, hq⟩ := hi a _ hG
  exact va_get hx hb hts hin hown hK P q0 hq hc k hk (hts _ hl) hsame hv hdg kk
theorem gk_put (hC : gk_C p s m c args cc own) (hK : va_K D vwCl tys s) (hP : gk_P D A G H) (hS : va_S A s.heap H locs) {ci index N k : Nat} {ref C : String} {T : u_T} {fs : List Value} (hG : G a = some (.inr (ci, fs))) (hc : vwCl[ci]? = some (C, T, N)) (hin : ∀ w ∈ u_ws C T N, w ∈ wsL_law) (ty0 : Nat → FieldType) (hty : ∀ k, k < N → parseFieldDescriptor (T k).2.2.1 = some (ty0 k)) (hnm : ∀ a, a < N → ∀ b, b < N → a ≠ b → (T a).2.1 ≠ (T b).2.1) (hk : k < N) (hl : Cond.fieldLink own index ref (T k).2.1 (T k).2.2.1 ∈ wsL_law)
    (hsame : ∀ x, s.fieldFound? (T k).1 (T k).2.1 (T k).2.2.1 = some x → s.fieldFound? ref (T k).2.1 (T k).2.2.1 = some x) (hfin : (T k).2.2.2 = false) {v : Value} (hn : narrow (ty0 k) v = v) (hfit : fits (ty0 k) v = true) (hln : k < fs.length) (hdg : decode cc pc = .ok (.putfield index, 3))
    (kk : ∀ (H1 : Heap) (locs1 : List Loc), gk_P D A (gk_up G a (.inr (ci, fs.set k v))) H1 → va_S A s.heap H1 locs1 → W p l e R s m args below meth c H1 locs1 cells slots Q (F0 m (pc + 3) ls rest)) : W p l e R s m args below meth c H locs cells slots Q (F0 m pc ls (v :: .ref a :: rest)) := by
  obtain ⟨hx, hb, hown, hts⟩ := hC
  obtain ⟨P, hD, hi⟩ := gk_open hP
  obtain ⟨q0, hq⟩ := hi a _ hG
  exact va_put hx hb hts hin ty0 hty hnm hown hK P hD hS q0 hq hc k hk (hts _ hl) hsame hfin (hty k hk) hn hfit hln hdg (fun H1 locs1 P1 D1 S1 => kk H1 locs1 (gk_set hP hq P1 D1) S1)
theorem gk_putF (hC : gk_C p s m c args cc own) (hK : va_K D vwCl tys s) (hP : gk_P D A G H) (hS : va_S A s.heap H locs) {ci index N k : Nat} {ref C : String} {T : u_T} {fs : List Value} (hG : G a = some (.inr (ci, fs))) (hc : vwCl[ci]? = some (C, T, N)) (hin : ∀ w ∈ u_ws C T N, w ∈ wsL_law) (ty0 : Nat → FieldType) (hty : ∀ k, k < N → parseFieldDescriptor (T k).2.2.1 = some (ty0 k)) (hnm : ∀ a, a < N → ∀ b, b < N → a ≠ b → (T a).2.1 ≠ (T b).2.1) (hk : k < N) (hl : Cond.fieldLink own index ref (T k).2.1 (T k).2.2.1 ∈ wsL_law)
    (hsame : ∀ x, s.fieldFound? (T k).1 (T k).2.1 (T k).2.2.1 = some x → s.fieldFound? ref (T k).2.1 (T k).2.2.1 = some x) (hfin : (T k).2.2.2 = true) (hin2 : meth.name = "<init>") (hdecl : (T k).1 = own) {v : Value} (hn : narrow (ty0 k) v = v) (hfit : fits (ty0 k) v = true) (hln : k < fs.length) (hdg : decode cc pc = .ok (.putfield index, 3))
    (kk : ∀ (H1 : Heap) (locs1 : List Loc), gk_P D A (gk_up G a (.inr (ci, fs.set k v))) H1 → va_S A s.heap H1 locs1 → W p l e R s m args below meth c H1 locs1 cells slots Q (F0 m (pc + 3) ls rest)) : W p l e R s m args below meth c H locs cells slots Q (F0 m pc ls (v :: .ref a :: rest)) := by
  obtain ⟨hx, hb, hown, hts⟩ := hC
  obtain ⟨P, hD, hi⟩ := gk_open hP
  obtain ⟨q0, hq⟩ := hi a _ hG
  exact va_putF hx hb hts hin ty0 hty hnm hown hK P hD hS q0 hq hc k hk (hts _ hl) hsame hfin hin2 hdecl (hty k hk) hn hfit hln hdg (fun H1 locs1 P1 D1 S1 => kk H1 locs1 (gk_set hP hq P1 D1) S1)
theorem gk_iald (hC : gk_C p s m c args cc own) (hK : va_K D vwCl tys s) (hP : gk_P D A G H) (t0 : Nat) {cA : ClassId} {n : Nat} {f : Nat → Int32} (hG : G a = some (.inl (cA, n, .inl f))) (ht : tys[t0]? = some (cA, .int)) {i : Int32} (hin : vp_in i n) (hdg : decode cc pc = .ok (.iaload, 1))
    (kk : W p l e R s m args below meth c H locs cells slots Q (F0 m (pc + 1) ls (.int (f i.toNatClampNeg) :: rest))) : W p l e R s m args below meth c H locs cells slots Q (F0 m pc ls (.int i :: .ref a :: rest)) := by
  obtain ⟨hx, hb, hown, hts⟩ := hC
  obtain ⟨P, -, hi⟩ := gk_open hP
  obtain ⟨q0, hq⟩ := hi a _ hG
  exact va_iald hx hb hK P q0 t0 hq ht hin hdg kk
theorem gk_zald (hC : gk_C p s m c args cc own) (hK : va_K D vwCl tys s) (hP : gk_P D A G H) (t0 : Nat) {cA : ClassId} {n : Nat} {f : Nat → Int32} (hG : G a = some (.inl (cA, n, .inl f))) (ht : tys[t0]? = some (cA, .boolean)) {i : Int32} (hin : vp_in i n) (hdg : decode cc pc = .ok (.baload, 1))
    (kk : W p l e R s m args below meth c H locs cells slots Q (F0 m (pc + 1) ls (.int (f i.toNatClampNeg) :: rest))) : W p l e R s m args below meth c H locs cells slots Q (F0 m pc ls (.int i :: .ref a :: rest)) := by
  obtain ⟨hx, hb, hown, hts⟩ := hC
  obtain ⟨P, -, hi⟩ := gk_open hP
  obtain ⟨q0, hq⟩ := hi a _ hG
  exact va_zald hx hb hK P q0 t0 hq ht hin hdg kk
theorem gk_lald (hC : gk_C p s m c args cc own) (hK : va_K D vwCl tys s) (hP : gk_P D A G H) (t0 : Nat) {cA : ClassId} {n : Nat} {f : Nat → Int64} (hG : G a = some (.inl (cA, n, .inr (.inl f)))) (ht : tys[t0]? = some (cA, .long)) {i : Int32} (hin : vp_in i n) (hdg : decode cc pc = .ok (.laload, 1))
    (kk : W p l e R s m args below meth c H locs cells slots Q (F0 m (pc + 1) ls (.long (f i.toNatClampNeg) :: rest))) : W p l e R s m args below meth c H locs cells slots Q (F0 m pc ls (.int i :: .ref a :: rest)) := by
  obtain ⟨hx, hb, hown, hts⟩ := hC
  obtain ⟨P, -, hi⟩ := gk_open hP
  obtain ⟨q0, hq⟩ := hi a _ hG
  exact va_lald hx hb hK P q0 t0 hq ht hin hdg kk
theorem gk_aald (hC : gk_C p s m c args cc own) (hK : va_K D vwCl tys s) (hP : gk_P D A G H) (t0 : Nat) {cA : ClassId} {C : String} {n : Nat} {f : Nat → Option Nat} (hG : G a = some (.inl (cA, n, .inr (.inr (.inr (.inr f)))))) (ht : tys[t0]? = some (cA, .object C)) {i : Int32} (hin : vp_in i n) (hdg : decode cc pc = .ok (.aaload, 1))
    (kk : W p l e R s m args below meth c H locs cells slots Q (F0 m (pc + 1) ls (va_rf (f i.toNatClampNeg) :: rest))) : W p l e R s m args below meth c H locs cells slots Q (F0 m pc ls (.int i :: .ref a :: rest)) := by
  obtain ⟨hx, hb, hown, hts⟩ := hC
  obtain ⟨P, -, hi⟩ := gk_open hP
  obtain ⟨q0, hq⟩ := hi a _ hG
  exact va_aldq hx hb hK P q0 t0 hq ht hin hdg kk
theorem gk_alen (hC : gk_C p s m c args cc own) (hK : va_K D vwCl tys s) (hP : gk_P D A G H) (t0 : Nat) {cA : ClassId} {x : vp_A} (hG : G a = some (.inl (cA, x))) {ty : FieldType} (ht : tys[t0]? = some (cA, ty)) (hdg : decode cc pc = .ok (.arraylength, 1))
    (kk : W p l e R s m args below meth c H locs cells slots Q (F0 m (pc + 1) ls (.int (nI x.1) :: rest))) : W p l e R s m args below meth c H locs cells slots Q (F0 m pc ls (.ref a :: rest)) := by
  obtain ⟨hx, hb, hown, hts⟩ := hC
  obtain ⟨P, -, hi⟩ := gk_open hP
  obtain ⟨q0, hq⟩ := hi a _ hG
  exact va_alen hx hb hK P q0 t0 hq ht rfl hdg kk
theorem gk_iast (hC : gk_C p s m c args cc own) (hK : va_K D vwCl tys s) (hP : gk_P D A G H) (hS : va_S A s.heap H locs) (t0 : Nat) {cA : ClassId} {n : Nat} {f : Nat → Int32} (hG : G a = some (.inl (cA, n, .inl f))) (ht : tys[t0]? = some (cA, .int)) {i x : Int32} (hin : vp_in i n) (hdg : decode cc pc = .ok (.iastore, 1))
    (kk : ∀ (H1 : Heap) (locs1 : List Loc), gk_P D A (gk_up G a (.inl (cA, n, .inl (upd f i.toNatClampNeg x)))) H1 → va_S A s.heap H1 locs1 → W p l e R s m args below meth c H1 locs1 cells slots Q (F0 m (pc + 1) ls rest)) : W p l e R s m args below meth c H locs cells slots Q (F0 m pc ls (.int x :: .int i :: .ref a :: rest)) := by
  obtain ⟨hx, hb, hown, hts⟩ := hC
  obtain ⟨P, hD, hi⟩ := gk_open hP
  obtain ⟨q0, hq⟩ := hi a _ hG
  exact va_iast hx hb hK P hD hS q0 t0 hq ht hin hdg (fun H1 locs1 P1 D1 S1 => kk H1 locs1 (gk_set hP hq P1 D1) S1)
theorem gk_zast (hC : gk_C p s m c args cc own) (hK : va_K D vwCl tys s) (hP : gk_P D A G H) (hS : va_S A s.heap H locs) (t0 : Nat) {cA : ClassId} {n : Nat} {f : Nat → Int32} (hG : G a = some (.inl (cA, n, .inl f))) (ht : tys[t0]? = some (cA, .boolean)) {i x : Int32} (hin : vp_in i n) (hbit : vp_nar .boolean x = x) (hdg : decode cc pc = .ok (.bastore, 1))
    (kk : ∀ (H1 : Heap) (locs1 : List Loc), gk_P D A (gk_up G a (.inl (cA, n, .inl (upd f i.toNatClampNeg x)))) H1 → va_S A s.heap H1 locs1 → W p l e R s m args below meth c H1 locs1 cells slots Q (F0 m (pc + 1) ls rest)) : W p l e R s m args below meth c H locs cells slots Q (F0 m pc ls (.int x :: .int i :: .ref a :: rest)) := by
  obtain ⟨hx, hb, hown, hts⟩ := hC
  obtain ⟨P, hD, hi⟩ := gk_open hP
  obtain ⟨q0, hq⟩ := hi a _ hG
  refine va_zast hx hb hK P hD hS q0 t0 hq ht hin hdg (fun H1 locs1 P1 D1 S1 => ?_)
  rw [hbit] at P1 D1
  exact kk H1 locs1 (gk_set hP hq P1 D1) S1
theorem gk_last (hC : gk_C p s m c args cc own) (hK : va_K D vwCl tys s) (hP : gk_P D A G H) (hS : va_S A s.heap H locs) (t0 : Nat) {cA : ClassId} {n : Nat} {f : Nat → Int64} (hG : G a = some (.inl (cA, n, .inr (.inl f)))) (ht : tys[t0]? = some (cA, .long)) {i : Int32} {x : Int64} (hin : vp_in i n) (hdg : decode cc pc = .ok (.lastore, 1))
    (kk : ∀ (H1 : Heap) (locs1 : List Loc), gk_P D A (gk_up G a (.inl (cA, n, .inr (.inl (vp_updL f i.toNatClampNeg x))))) H1 → va_S A s.heap H1 locs1 → W p l e R s m args below meth c H1 locs1 cells slots Q (F0 m (pc + 1) ls rest)) : W p l e R s m args below meth c H locs cells slots Q (F0 m pc ls (.long x :: .int i :: .ref a :: rest)) := by
  obtain ⟨hx, hb, hown, hts⟩ := hC
  obtain ⟨P, hD, hi⟩ := gk_open hP
  obtain ⟨q0, hq⟩ := hi a _ hG
  exact va_last hx hb hK P hD hS q0 t0 hq ht hin hdg (fun H1 locs1 P1 D1 S1 => kk H1 locs1 (gk_set hP hq P1 D1) S1)
/-- a reference to an object of class number ci into an array over that class -/
theorem gk_aast (hC : gk_C p s m c args cc own) (hK : va_K D vwCl tys s) (hP : gk_P D A G H) (hS : va_S A s.heap H locs) (t0 : Nat) {cA : ClassId} {r : vw_C} {n v ci : Nat} {vs : List Value} {f : Nat → Option Nat} (hG : G a = some (.inl (cA, n, .inr (.inr (.inr (.inr f)))))) (ht : tys[t0]? = some (cA, .object r.1)) (hv : G v = some (.inr (ci, vs))) (hc : vwCl[ci]? = some r) {i : Int32} (hin : vp_in i n) (hdg : decode cc pc = .ok (.aastore, 1))
    (kk : ∀ (H1 : Heap) (locs1 : List Loc), gk_P D A (gk_up G a (.inl (cA, n, .inr (.inr (.inr (.inr (va_up f i.toNatClampNeg (some v)))))))) H1 → va_S A s.heap H1 locs1 → W p l e R s m args below meth c H1 locs1 cells slots Q (F0 m (pc + 1) ls rest)) : W p l e R s m args below meth c H locs cells slots Q (F0 m pc ls (.ref v :: .int i :: .ref a :: rest)) := by
  obtain ⟨hx, hb, hown, hts⟩ := hC
  obtain ⟨P, hD, hi⟩ := gk_open hP
  obtain ⟨q0, hq⟩ := hi a _ hG
  obtain ⟨q1, hq1⟩ := hi v _ hv
  exact va_astq hx hb hK P hD hS q0 t0 q1 ci hq ht hq1 hc hin hdg (fun H1 locs1 P1 D1 S1 => kk H1 locs1 (gk_set hP hq P1 D1) S1)
/-- a reference to an object of class number ci into an array over a class above it -/
theorem gk_aastM (hC : gk_C p s m c args cc own) (hK : va_K D vwCl tys s) (hP : gk_P D A G H) (hS : va_S A s.heap H locs) (t0 : Nat) {cA : ClassId} {E : String} {r : vw_C} {n v ci : Nat} {vs : List Value} {f : Nat → Option Nat} (hG : G a = some (.inl (cA, n, .inr (.inr (.inr (.inr f)))))) (ht : tys[t0]? = some (cA, .object E)) (hv : G v = some (.inr (ci, vs))) (hc : vwCl[ci]? = some r) (hasg : ∀ comp c0 : ClassId, s.vm.findClass E = some comp → s.vm.findClass r.1 = some c0 → s.vm.assignable c0 comp = true) {i : Int32} (hin : vp_in i n) (hdg : decode cc pc = .ok (.aastore, 1))
    (kk : ∀ (H1 : Heap) (locs1 : List Loc), gk_P D A (gk_up G a (.inl (cA, n, .inr (.inr (.inr (.inr (va_up f i.toNatClampNeg (some v)))))))) H1 → va_S A s.heap H1 locs1 → W p l e R s m args below meth c H1 locs1 cells slots Q (F0 m (pc + 1) ls rest)) : W p l e R s m args below meth c H locs cells slots Q (F0 m pc ls (.ref v :: .int i :: .ref a :: rest)) := by
  obtain ⟨hx, hb, hown, hts⟩ := hC
  obtain ⟨P, hD, hi⟩ := gk_open hP
  obtain ⟨q0, hq⟩ := hi a _ hG
  obtain ⟨q1, hq1⟩ := hi v _ hv
  exact va_astqM hx hb hK P hD hS q0 t0 hq ht (va_rAny hK P hq1 hc hasg) hin hdg (fun H1 locs1 P1 D1 S1 => kk H1 locs1 (gk_set hP hq P1 D1) S1)
theorem gk_aastN (hC : gk_C p s m c args cc own) (hK : va_K D vwCl tys s) (hP : gk_P D A G H) (hS : va_S A s.heap H locs) (t0 : Nat) {cA : ClassId} {C : String} {n : Nat} {f : Nat → Option Nat} (hG : G a = some (.inl (cA, n, .inr (.inr (.inr (.inr f)))))) (ht : tys[t0]? = some (cA, .object C)) {i : Int32} (hin : vp_in i n) (hdg : decode cc pc = .ok (.aastore, 1))
    (kk : ∀ (H1 : Heap) (locs1 : List Loc), gk_P D A (gk_up G a (.inl (cA, n, .inr (.inr (.inr (.inr (va_up f i.toNatClampNeg none))))))) H1 → va_S A s.heap H1 locs1 → W p l e R s m args below meth c H1 locs1 cells slots Q (F0 m (pc + 1) ls rest)) : W p l e R s m args below meth c H locs cells slots Q (F0 m pc ls (.null :: .int i :: .ref a :: rest)) := by
  obtain ⟨hx, hb, hown, hts⟩ := hC
  obtain ⟨P, hD, hi⟩ := gk_open hP
  obtain ⟨q0, hq⟩ := hi a _ hG
  exact va_astqN hx hb hK P hD hS q0 t0 hq ht hin hdg (fun H1 locs1 P1 D1 S1 => kk H1 locs1 (gk_set hP hq P1 D1) S1)
theorem gk_new (hC : gk_C p s m c args cc own) (hK : va_K D vwCl tys s) (hP : gk_P D A G H) (hS : va_S A s.heap H locs) (hA : ∀ q, s.heap.size ≤ q → A q) {ci index N : Nat} {C : String} {T : u_T} (hc : vwCl[ci]? = some (C, T, N)) (hin : ∀ w ∈ u_ws C T N, w ∈ wsL_law) (ty : Nat → FieldType) (hty : ∀ k, k < N → parseFieldDescriptor (T k).2.2.1 = some (ty k)) (hl : Cond.classLink own index C ∈ wsL_law) (hins : Cond.instantiable C N ∈ wsL_law) (hini : Cond.initialized C ∈ wsL_law) {fs : List Value} (hfs : ∀ j, j < N → defaultValue (ty j) = vp_V fs j) (hcells : cells + 1 ≤ R.cells) (hslots : slots + N ≤ R.slots) (hdg : decode cc pc = .ok (.new index, 3))
    (kk : ∀ (q : Nat) (H1 : Heap), G q = none → gk_P D A (gk_up G q (.inr (ci, fs))) H1 → va_S A s.heap H1 locs → W p l e R s m args below meth c H1 locs (cells + 1) (slots + N) Q (F0 m (pc + 3) ls (.ref q :: rest))) : W p l e R s m args below meth c H locs cells slots Q (F0 m pc ls rest) := by
  obtain ⟨hx, hb, hown, hts⟩ := hC
  obtain ⟨P, hD, hi⟩ := gk_open hP
  exact va_new hx hb hts hin ty hty hown (hts _ hl) (hts _ hins) (hts _ hini) hK P hD hS hA hc hfs hcells hslots hdg (fun q H1 P1 D1 S1 => kk q H1 (gk_push hP P1 D1).2 (gk_push hP P1 D1).1 S1)
theorem gk_newa (hC : gk_C p s m c args cc own) (hK : va_K D vwCl tys s) (hP : gk_P D A G H) (hS : va_S A s.heap H locs) (hA : ∀ q, s.heap.size ≤ q → A q) {atype : ArrayType} {ty : FieldType} (hl : Cond.arrayClass (newarray.typeOf atype) ∈ wsL_law) (hty : newarray.typeOf atype = ty) (t0 : Nat) {cA : ClassId} (ht : tys[t0]? = some (cA, ty)) {n : Int32} {N' : Nat} {a0 : vp_A} (ha : ∀ cA : ClassId, vp_cell cA a0 = arrV cA N' (fun _ => defaultValue ty)) (hn : ¬ n < 0) (hN : n.toNatClampNeg = N') (hbytes : N' * componentBytes ty ≤ 536870912) (hcells : cells + 1 ≤ R.cells) (hslots : slots + N' ≤ R.slots) (hdg : decode cc pc = .ok (.newarray atype, 2))
    (kk : ∀ (q : Nat) (H1 : Heap), G q = none → gk_P D A (gk_up G q (.inl (cA, a0))) H1 → va_S A s.heap H1 locs → W p l e R s m args below meth c H1 locs (cells + 1) (slots + N') Q (F0 m (pc + 2) ls (.ref q :: rest))) : W p l e R s m args below meth c H locs cells slots Q (F0 m pc ls (.int n :: rest)) := by
  obtain ⟨hx, hb, hown, hts⟩ := hC
  obtain ⟨P, hD, hi⟩ := gk_open hP
  refine va_newa hx hb (hts _ hl) hty hK P hD hS hA ha hn hN hbytes hcells hslots hdg (fun q cB H1 K1 P1 D1 S1 => ?_)
  have e1 : cB = cA := by
    have h1 := (K1.2 tys.length (cB, ty) (by rw [List.getElem?_append_right (Nat.le_refl _), Nat.sub_self]; rfl)).2
    exact gk_ra h1 (hK.2 t0 _ ht).2
  subst e1
  exact kk q H1 (gk_push hP P1 D1).2 (gk_push hP P1 D1).1 S1
theorem gk_newq (hC : gk_C p s m c args cc own) (hK : va_K D vwCl tys s) (hP : gk_P D A G H) (hS : va_S A s.heap H locs) (hA : ∀ q, s.heap.size ≤ q → A q) {C : String} {index : Nat} (hl : Cond.classLink own index C ∈ wsL_law) (hover : va_AO C s) (t0 : Nat) {cA : ClassId} (ht : tys[t0]? = some (cA, .object C)) {n : Int32} {N' : Nat} (hn : ¬ n < 0) (hN : n.toNatClampNeg = N') (hbytes : N' * 4 ≤ 536870912) (hcells : cells + 1 ≤ R.cells) (hslots : slots + N' ≤ R.slots) (hdg : decode cc pc = .ok (.anewarray index, 3))
    (kk : ∀ (q : Nat) (H1 : Heap), G q = none → gk_P D A (gk_up G q (.inl (cA, N', .inr (.inr (.inr (.inr (fun _ => none))))))) H1 → va_S A s.heap H1 locs → W p l e R s m args below meth c H1 locs (cells + 1) (slots + N') Q (F0 m (pc + 3) ls (.ref q :: rest))) : W p l e R s m args below meth c H locs cells slots Q (F0 m pc ls (.int n :: rest)) := by
  obtain ⟨hx, hb, hown, hts⟩ := hC
  obtain ⟨P, hD, hi⟩ := gk_open hP
  refine va_newq hx hb hown (hts _ hl) hover hK P hD hS hA hn hN hbytes hcells hslots hdg (fun q cB H1 K1 P1 D1 S1 => ?_)
  have e1 : cB = cA := by
    have h1 := (K1.2 tys.length (cB, .object C) (by rw [List.getElem?_append_right (Nat.le_refl _), Nat.sub_self]; rfl)).2
    exact gk_ra h1 (hK.2 t0 _ ht).2
  subst e1
  exact kk q H1 (gk_push hP P1 D1).2 (gk_push hP P1 D1).1 S1
/-- System.arraycopy between two arrays of references over one class, or within one -/
theorem gk_copy (hC : gk_C p s m c args cc own) (hml : c.maxLocals = ls.size) {index : Nat} (hl : Cond.methodLink own index arraycopyName ∈ wsL_law) (hnat : Cond.native arraycopyName ∈ wsL_law) (hstat : Cond.static arraycopyName ∈ wsL_law) (hini : Cond.initialized "java/lang/System" ∈ wsL_law)
    (hK : va_K D vwCl tys s) (hP : gk_P D A G H) (hS : va_S A s.heap H locs) (t0 : Nat) {a0 : Nat} {cA : ClassId} {n0 n1 : Nat} {f g : Nat → Option Nat} {E1 : String} (hG0 : G a0 = some (.inl (cA, n0, .inr (.inr (.inr (.inr f)))))) (hG1 : G a = some (.inl (cA, n1, .inr (.inr (.inr (.inr g)))))) (ht : tys[t0]? = some (cA, .object E1))
    {sp dp n : Int32} (h1 : ¬ sp < 0) (h2 : ¬ dp < 0) (h3 : ¬ n < 0) (h4 : sp.toNatClampNeg + n.toNatClampNeg ≤ n0) (h5 : dp.toNatClampNeg + n.toNatClampNeg ≤ n1)
    (hel : ∀ i : Nat, i < n.toNatClampNeg → ∀ y : Nat, f (sp.toNatClampNeg + i) = some y → ∃ (ci : Nat) (r : vw_C) (vs : List Value), G y = some (.inr (ci, vs)) ∧ vwCl[ci]? = some r ∧ ∀ comp c0 : ClassId, s.vm.findClass E1 = some comp → s.vm.findClass r.1 = some c0 → s.vm.assignable c0 comp = true)
    (hframes : 1 ≤ R.frames) (hlocals : (rest.map fun v => v.category).sum + (nativeFrameWords "java/lang/System" "arraycopy" 5 + 11) ≤ R.locals) (hdg : decode cc pc = .ok (.invokestatic index, 3))
    (kk : ∀ (H1 : Heap) (locs1 : List Loc), gk_P D A (gk_up G a (.inl (cA, n1, .inr (.inr (.inr (.inr (va_cpy f g sp.toNatClampNeg dp.toNatClampNeg n.toNatClampNeg))))))) H1 → va_S A s.heap H1 locs1 → W p l e R s m args below meth c H1 locs1 cells slots Q (F0 m (pc + 3) ls rest)) : W p l e R s m args below meth c H locs cells slots Q (F0 m pc ls (.int n :: .int dp :: .ref a :: .int sp :: .ref a0 :: rest)) := by
  obtain ⟨hx, hb, hown, hts⟩ := hC
  obtain ⟨P, hD, hi⟩ := gk_open hP
  obtain ⟨q0, hq⟩ := hi a0 _ hG0
  obtain ⟨q1, hq1⟩ := hi a _ hG1
  refine va_copyM hx hb hml hown (hts _ hl) (hts _ hnat) (hts _ hstat) (hts _ hini) hK P hD hS q0 q1 t0 t0 hq hq1 ht ht h1 h2 h3 h4 h5 (fun i hi2 y hy => ?_) hframes hlocals hdg (fun H1 locs1 P1 D1 S1 => kk H1 locs1 (gk_set hP hq1 P1 D1) S1)
  obtain ⟨ci, r, vs, g1, g2, g3⟩ := hel i hi2 y hy
  obtain ⟨q2, hq2⟩ := hi y _ g1
  exact va_rAny hK P hq2 g2 g3
theorem gk_recv (hK : va_K D vwCl tys s) (hP : gk_P D A G H) {ci : Nat} {r : vw_C} {fs : List Value} (hG : G a = some (.inr (ci, fs))) (hc : vwCl[ci]? = some r) : ∃ cell : Cell, H[a]? = some cell ∧ cell.vm.isStatics = false ∧ s.vm.findClass r.1 = some cell.cls := by
  obtain ⟨P, -, hi⟩ := gk_open hP
  obtain ⟨q0, hq⟩ := hi a _ hG
  exact va_recv hK P hc hq
theorem gk_cast (hC : gk_C p s m c args cc own) (hK : va_K D vwCl tys s) (hP : gk_P D A G H) {ci index : Nat} {r : vw_C} {fs : List Value} (hG : G a = some (.inr (ci, fs))) (hc : vwCl[ci]? = some r) (hl : Cond.classLink own index r.1 ∈ wsL_law) (hdg : decode cc pc = .ok (.checkcast index, 3))
    (kk : W p l e R s m args below meth c H locs cells slots Q (F0 m (pc + 3) ls (.ref a :: rest))) : W p l e R s m args below meth c H locs cells slots Q (F0 m pc ls (.ref a :: rest)) :=
  va_castE hC.1 hC.2.1 hC.2.2.1 (hC.2.2.2 _ hl) (gk_recv hK hP hG hc) hdg kk
end GK1
