/-! the start: what the constructors made -/
def st_n (l : List Nat) (j : Nat) : Nat := l.getD j 0
def st_a (y : ly_T) (q0 ra fa ha : Nat) : Nat → Nat
  | 0 => q0
  | 1 => ra
  | 2 => fa
  | 3 => ha
  | n + 4 => ly_a y (n + 4)
def st_f (rs fs hs ls : List Nat) : Nat → Nat → Nat
  | 0 => st_n rs
  | 1 => st_n fs
  | 2 => st_n hs
  | _ => st_n ls
def st_y (y : ly_T) (q0 ra fa ha : Nat) (rs fs hs ls : List Nat) : ly_T := (y.1, y.2.1, st_a y q0 ra fa ha, st_f rs fs hs ls)
/-- both objects' fixed things -/
def st_y2 (y : ly_T) (a b : Nat → Nat) (f g : Nat → Nat → Nat) : ly_T := (y.1, y.2.1, fun i => if i < 4 then a i else if i < 20 then y.2.2.1 i else b (i - 20), fun i => if i < 10 then f i else g (i - 10))
def st_ru (_ k : Nat) : Int32 := match k with
  | 2 => -1
  | 3 => -1
  | 5 => 3
  | _ => 0
def st_S (ts : List Nat) : ts_T := (st_n ts, fun _ => 0, fun _ => 0, fun _ => 0, fun _ => [], fun t => t ∈ ts, fun _ _ => 0)
theorem st_V2 {y : ly_T} {A : Nat → Prop} {U : State} {a b : Nat → Nat} {f g : Nat → Nat → Nat} (h : gk_V y A U) : gk_V (st_y2 y a b f g) A U := h
theorem st_cv1 {y : ly_T} {G : gk_G} {q0 ra fa ha : Nat} {rs fs hs ls : List Nat} {b : Nat → Nat} {g : Nat → Nat → Nat} {td : Int32} {ru : Nat → Nat → Int32} {fr : Nat → Nat} {hf hp : Nat → Option Nat} {S : ts_T} (h : rq (st_y y q0 ra fa ha rs fs hs ls) G td ru fr hf S hp) : rq (st_y2 y (st_a y q0 ra fa ha) b (st_f rs fs hs ls) g) G td ru fr hf S hp := h
theorem st_cv2 {y : ly_T} {G : gk_G} {q0 ra fa ha : Nat} {rs fs hs ls : List Nat} {a : Nat → Nat} {f : Nat → Nat → Nat} {td : Int32} {ru : Nat → Nat → Int32} {fr : Nat → Nat} {hf hp : Nat → Option Nat} {S : ts_T} (h : rq (st_y y q0 ra fa ha rs fs hs ls) G td ru fr hf S hp) : rq (ly_sw (st_y2 y a (st_a y q0 ra fa ha) f (st_f rs fs hs ls))) G td ru fr hf S hp := h
set_option maxHeartbeats 4000000 in
set_option maxRecDepth 100000 in
theorem st_rp {y : ly_T} {G0 G1 : gk_G} {q0 ra fa ha r0 r1 r2 f0 l0 t0 f1 l1 t1 f2 l2 t2 f3 l3 t3 f4 l4 t4 h0 h1 h2 h3 : Nat} (hc : cN G0 G1 [(q0, (.inr (5, [.ref ra, .ref fa, .ref ha, .int 0]))), (ra, (rp_r (ly_k y 3) 3 (va_up (va_up (va_up (fun _ => none) 0 (some r0)) 1 (some r1)) 2 (some r2)))), (fa, (rp_r (ly_k y 4) 5 (va_up (va_up (va_up (va_up (va_up (fun _ => none) 0 (some f0)) 1 (some f1)) 2 (some f2)) 3 (some f3)) 4 (some f4)))), (ha, (rp_r (ly_k y 5) 4 (va_up (va_up (va_up (va_up (fun _ => none) 0 (some h0)) 1 (some h1)) 2 (some h2)) 3 (some h3)))), (r0, (.inr (4, [.int (nI 0), .int 0, .int (-1), .int (-1), .int 0, .int 3, .int 0, .int 0, .int 0, .int 0]))), (r1, (.inr (4, [.int (nI 1), .int 0, .int (-1), .int (-1), .int 0, .int 3, .int 0, .int 0, .int 0, .int 0]))), (r2, (.inr (4, [.int (nI 2), .int 0, .int (-1), .int (-1), .int 0, .int 3, .int 0, .int 0, .int 0, .int 0]))), (f0, (.inr (2, [.int (nI 0), .ref l0, .ref r0, .ref t0, .int 0, .int 0, .int 0]))), (l0, (.inr (0, [.int 0, .ref (ly_a y 6), .int 0]))), (t0, (.inr (3, [.int 0, .int 0, .int 0]))), (f1, (.inr (2, [.int (nI 1), .ref l1, .ref r0, .ref t1, .int 0, .int 0, .int 0]))), (l1, (.inr (0, [.int 0, .ref (ly_a y 6), .int 0]))), (t1, (.inr (3, [.int 0, .int 0, .int 0]))), (f2, (.inr (2, [.int (nI 2), .ref l2, .ref r0, .ref t2, .int 0, .int 0, .int 0]))), (l2, (.inr (0, [.int 0, .ref (ly_a y 6), .int 0]))), (t2, (.inr (3, [.int 0, .int 0, .int 0]))), (f3, (.inr (2, [.int (nI 3), .ref l3, .ref r0, .ref t3, .int 0, .int 0, .int 0]))), (l3, (.inr (0, [.int 0, .ref (ly_a y 6), .int 0]))), (t3, (.inr (3, [.int 0, .int 0, .int 0]))), (f4, (.inr (2, [.int (nI 4), .ref l4, .ref r0, .ref t4, .int 0, .int 0, .int 0]))), (l4, (.inr (0, [.int 0, .ref (ly_a y 6), .int 0]))), (t4, (.inr (3, [.int 0, .int 0, .int 0]))), (h0, (.inr (1, [.null, .null]))), (h1, (.inr (1, [.null, .null]))), (h2, (.inr (1, [.null, .null]))), (h3, (.inr (1, [.null, .null])))]) (h6 : ly_a y 6 ≠ ra ∧ ly_a y 6 ≠ fa ∧ ly_a y 6 ≠ ha) :
    rq (st_y y q0 ra fa ha [r0, r1, r2] [f0, f1, f2, f3, f4] [h0, h1, h2, h3] [l0, l1, l2, l3, l4]) G1 0 st_ru (fun _ => 0) (fun _ => none) (st_S [t0, t1, t2, t3, t4]) (fun _ => none) := by
  have P : ∀ (i a : Nat) (e : va_E), ([(q0, (.inr (5, [.ref ra, .ref fa, .ref ha, .int 0]))), (ra, (rp_r (ly_k y 3) 3 (va_up (va_up (va_up (fun _ => none) 0 (some r0)) 1 (some r1)) 2 (some r2)))), (fa, (rp_r (ly_k y 4) 5 (va_up (va_up (va_up (va_up (va_up (fun _ => none) 0 (some f0)) 1 (some f1)) 2 (some f2)) 3 (some f3)) 4 (some f4)))), (ha, (rp_r (ly_k y 5) 4 (va_up (va_up (va_up (va_up (fun _ => none) 0 (some h0)) 1 (some h1)) 2 (some h2)) 3 (some h3)))), (r0, (.inr (4, [.int (nI 0), .int 0, .int (-1), .int (-1), .int 0, .int 3, .int 0, .int 0, .int 0, .int 0]))), (r1, (.inr (4, [.int (nI 1), .int 0, .int (-1), .int (-1), .int 0, .int 3, .int 0, .int 0, .int 0, .int 0]))), (r2, (.inr (4, [.int (nI 2), .int 0, .int (-1), .int (-1), .int 0, .int 3, .int 0, .int 0, .int 0, .int 0]))), (f0, (.inr (2, [.int (nI 0), .ref l0, .ref r0, .ref t0, .int 0, .int 0, .int 0]))), (l0, (.inr (0, [.int 0, .ref (ly_a y 6), .int 0]))), (t0, (.inr (3, [.int 0, .int 0, .int 0]))), (f1, (.inr (2, [.int (nI 1), .ref l1, .ref r0, .ref t1, .int 0, .int 0, .int 0]))), (l1, (.inr (0, [.int 0, .ref (ly_a y 6), .int 0]))), (t1, (.inr (3, [.int 0, .int 0, .int 0]))), (f2, (.inr (2, [.int (nI 2), .ref l2, .ref r0, .ref t2, .int 0, .int 0, .int 0]))), (l2, (.inr (0, [.int 0, .ref (ly_a y 6), .int 0]))), (t2, (.inr (3, [.int 0, .int 0, .int 0]))), (f3, (.inr (2, [.int (nI 3), .ref l3, .ref r0, .ref t3, .int 0, .int 0, .int 0]))), (l3, (.inr (0, [.int 0, .ref (ly_a y 6), .int 0]))), (t3, (.inr (3, [.int 0, .int 0, .int 0]))), (f4, (.inr (2, [.int (nI 4), .ref l4, .ref r0, .ref t4, .int 0, .int 0, .int 0]))), (l4, (.inr (0, [.int 0, .ref (ly_a y 6), .int 0]))), (t4, (.inr (3, [.int 0, .int 0, .int 0]))), (h0, (.inr (1, [.null, .null]))), (h1, (.inr (1, [.null, .null]))), (h2, (.inr (1, [.null, .null]))), (h3, (.inr (1, [.null, .null])))] : List (Nat × va_E))[i]? = some (a, e) → G1 a = some e := fun i a e h => hc.1 i a e h
  have D : ∀ (i j a : Nat), ([q0, ra, fa, ha, r0, r1, r2, f0, l0, t0, f1, l1, t1, f2, l2, t2, f3, l3, t3, f4, l4, t4, h0, h1, h2, h3] : List Nat)[i]? = some a → ([q0, ra, fa, ha, r0, r1, r2, f0, l0, t0, f1, l1, t1, f2, l2, t2, f3, l3, t3, f4, l4, t4, h0, h1, h2, h3] : List Nat)[j]? = some a → i = j := fun i j a h1 h2 => x_idx hc.2.1 h1 h2
  have D2 : ∀ j k, j < 4 → k < 4 → ly_f (st_y y q0 ra fa ha [r0, r1, r2] [f0, f1, f2, f3, f4] [h0, h1, h2, h3] [l0, l1, l2, l3, l4]) 2 j = ly_f (st_y y q0 ra fa ha [r0, r1, r2] [f0, f1, f2, f3, f4] [h0, h1, h2, h3] [l0, l1, l2, l3, l4]) 2 k → j = k := by
    have E : ∀ j, j < 4 → ([q0, ra, fa, ha, r0, r1, r2, f0, l0, t0, f1, l1, t1, f2, l2, t2, f3, l3, t3, f4, l4, t4, h0, h1, h2, h3] : List Nat)[22 + 1 * j]? = some (ly_f (st_y y q0 ra fa ha [r0, r1, r2] [f0, f1, f2, f3, f4] [h0, h1, h2, h3] [l0, l1, l2, l3, l4]) 2 j) := fun j hj => by rcases (show j = 0 ∨ j = 1 ∨ j = 2 ∨ j = 3 by omega) with rfl | rfl | rfl | rfl <;> rfl
    intro j k hj hk e
    have := D (22 + 1 * j) (22 + 1 * k) _ (E j hj) (by rw [e]; exact E k hk)
    omega
  have D3 : ∀ j k, j < 5 → k < 5 → ly_f (st_y y q0 ra fa ha [r0, r1, r2] [f0, f1, f2, f3, f4] [h0, h1, h2, h3] [l0, l1, l2, l3, l4]) 3 j = ly_f (st_y y q0 ra fa ha [r0, r1, r2] [f0, f1, f2, f3, f4] [h0, h1, h2, h3] [l0, l1, l2, l3, l4]) 3 k → j = k := by
    have E : ∀ j, j < 5 → ([q0, ra, fa, ha, r0, r1, r2, f0, l0, t0, f1, l1, t1, f2, l2, t2, f3, l3, t3, f4, l4, t4, h0, h1, h2, h3] : List Nat)[8 + 3 * j]? = some (ly_f (st_y y q0 ra fa ha [r0, r1, r2] [f0, f1, f2, f3, f4] [h0, h1, h2, h3] [l0, l1, l2, l3, l4]) 3 j) := fun j hj => by rcases (show j = 0 ∨ j = 1 ∨ j = 2 ∨ j = 3 ∨ j = 4 by omega) with rfl | rfl | rfl | rfl | rfl <;> rfl
    intro j k hj hk e
    have := D (8 + 3 * j) (8 + 3 * k) _ (E j hj) (by rw [e]; exact E k hk)
    omega
  refine ⟨P 0 _ _ rfl, ⟨⟨_, P 1 _ _ rfl, fun r hr => ?_⟩, ⟨_, P 2 _ _ rfl, fun f hf => ?_⟩, ⟨_, P 3 _ _ rfl, fun h hh => ?_⟩⟩, fun r hr => ?_, fun f hf => ⟨Nat.zero_lt_succ 2, ?_⟩, ⟨fun h hh => ⟨fun f hf => (by cases hf), ?_⟩, D2⟩, ⟨⟨fun _ => ly_a y 6, fun _ => 0, fun f hf => ⟨?_, Nat.zero_le _, h6, Or.inl ⟨rfl, rfl⟩⟩, fun f k _ _ _ _ => rfl⟩, D3⟩, fun t ht => ?_, trivial, trivial⟩
  · rcases (show r = 0 ∨ r = 1 ∨ r = 2 by omega) with rfl | rfl | rfl
    · exact rfl
    · exact rfl
    · exact rfl
  · rcases (show f = 0 ∨ f = 1 ∨ f = 2 ∨ f = 3 ∨ f = 4 by omega) with rfl | rfl | rfl | rfl | rfl
    · exact rfl
    · exact rfl
    · exact rfl
    · exact rfl
    · exact rfl
  · rcases (show h = 0 ∨ h = 1 ∨ h = 2 ∨ h = 3 by omega) with rfl | rfl | rfl | rfl
    · exact rfl
    · exact rfl
    · exact rfl
    · exact rfl
  · rcases (show r = 0 ∨ r = 1 ∨ r = 2 by omega) with rfl | rfl | rfl
    · exact P 4 _ _ rfl
    · exact P 5 _ _ rfl
    · exact P 6 _ _ rfl
  · rcases (show f = 0 ∨ f = 1 ∨ f = 2 ∨ f = 3 ∨ f = 4 by omega) with rfl | rfl | rfl | rfl | rfl
    · exact P 7 _ _ rfl
    · exact P 10 _ _ rfl
    · exact P 13 _ _ rfl
    · exact P 16 _ _ rfl
    · exact P 19 _ _ rfl
  · rcases (show h = 0 ∨ h = 1 ∨ h = 2 ∨ h = 3 by omega) with rfl | rfl | rfl | rfl
    · exact P 22 _ _ rfl
    · exact P 23 _ _ rfl
    · exact P 24 _ _ rfl
    · exact P 25 _ _ rfl
  · rcases (show f = 0 ∨ f = 1 ∨ f = 2 ∨ f = 3 ∨ f = 4 by omega) with rfl | rfl | rfl | rfl | rfl
    · exact P 8 _ _ rfl
    · exact P 11 _ _ rfl
    · exact P 14 _ _ rfl
    · exact P 17 _ _ rfl
    · exact P 20 _ _ rfl
  · have ht : t ∈ [t0, t1, t2, t3, t4] := ht
    simp only [List.mem_cons, List.not_mem_nil, or_false] at ht
    rcases ht with rfl | rfl | rfl | rfl | rfl
    · exact P 9 _ _ rfl
    · exact P 12 _ _ rfl
    · exact P 15 _ _ rfl
    · exact P 18 _ _ rfl
    · exact P 21 _ _ rfl
/-- the parts are five -/
theorem st_D9 {y : ly_T} {G0 G1 : gk_G} {q0 ra fa ha r0 r1 r2 f0 l0 t0 f1 l1 t1 f2 l2 t2 f3 l3 t3 f4 l4 t4 h0 h1 h2 h3 : Nat} (hc : cN G0 G1 [(q0, (.inr (5, [.ref ra, .ref fa, .ref ha, .int 0]))), (ra, (rp_r (ly_k y 3) 3 (va_up (va_up (va_up (fun _ => none) 0 (some r0)) 1 (some r1)) 2 (some r2)))), (fa, (rp_r (ly_k y 4) 5 (va_up (va_up (va_up (va_up (va_up (fun _ => none) 0 (some f0)) 1 (some f1)) 2 (some f2)) 3 (some f3)) 4 (some f4)))), (ha, (rp_r (ly_k y 5) 4 (va_up (va_up (va_up (va_up (fun _ => none) 0 (some h0)) 1 (some h1)) 2 (some h2)) 3 (some h3)))), (r0, (.inr (4, [.int (nI 0), .int 0, .int (-1), .int (-1), .int 0, .int 3, .int 0, .int 0, .int 0, .int 0]))), (r1, (.inr (4, [.int (nI 1), .int 0, .int (-1), .int (-1), .int 0, .int 3, .int 0, .int 0, .int 0, .int 0]))), (r2, (.inr (4, [.int (nI 2), .int 0, .int (-1), .int (-1), .int 0, .int 3, .int 0, .int 0, .int 0, .int 0]))), (f0, (.inr (2, [.int (nI 0), .ref l0, .ref r0, .ref t0, .int 0, .int 0, .int 0]))), (l0, (.inr (0, [.int 0, .ref (ly_a y 6), .int 0]))), (t0, (.inr (3, [.int 0, .int 0, .int 0]))), (f1, (.inr (2, [.int (nI 1), .ref l1, .ref r0, .ref t1, .int 0, .int 0, .int 0]))), (l1, (.inr (0, [.int 0, .ref (ly_a y 6), .int 0]))), (t1, (.inr (3, [.int 0, .int 0, .int 0]))), (f2, (.inr (2, [.int (nI 2), .ref l2, .ref r0, .ref t2, .int 0, .int 0, .int 0]))), (l2, (.inr (0, [.int 0, .ref (ly_a y 6), .int 0]))), (t2, (.inr (3, [.int 0, .int 0, .int 0]))), (f3, (.inr (2, [.int (nI 3), .ref l3, .ref r0, .ref t3, .int 0, .int 0, .int 0]))), (l3, (.inr (0, [.int 0, .ref (ly_a y 6), .int 0]))), (t3, (.inr (3, [.int 0, .int 0, .int 0]))), (f4, (.inr (2, [.int (nI 4), .ref l4, .ref r0, .ref t4, .int 0, .int 0, .int 0]))), (l4, (.inr (0, [.int 0, .ref (ly_a y 6), .int 0]))), (t4, (.inr (3, [.int 0, .int 0, .int 0]))), (h0, (.inr (1, [.null, .null]))), (h1, (.inr (1, [.null, .null]))), (h2, (.inr (1, [.null, .null]))), (h3, (.inr (1, [.null, .null])))]) : ([t0, t1, t2, t3, t4] : List Nat).Nodup := by
  have D : ∀ (i j a : Nat), ([q0, ra, fa, ha, r0, r1, r2, f0, l0, t0, f1, l1, t1, f2, l2, t2, f3, l3, t3, f4, l4, t4, h0, h1, h2, h3] : List Nat)[i]? = some a → ([q0, ra, fa, ha, r0, r1, r2, f0, l0, t0, f1, l1, t1, f2, l2, t2, f3, l3, t3, f4, l4, t4, h0, h1, h2, h3] : List Nat)[j]? = some a → i = j := fun i j a h1 h2 => x_idx hc.2.1 h1 h2
  have E : ∀ j (hj : j < 5), ([q0, ra, fa, ha, r0, r1, r2, f0, l0, t0, f1, l1, t1, f2, l2, t2, f3, l3, t3, f4, l4, t4, h0, h1, h2, h3] : List Nat)[9 + 3 * j]? = some (([t0, t1, t2, t3, t4] : List Nat)[j]'(by simpa using hj)) := fun j hj => by rcases (show j = 0 ∨ j = 1 ∨ j = 2 ∨ j = 3 ∨ j = 4 by omega) with rfl | rfl | rfl | rfl | rfl <;> rfl
  rw [List.nodup_iff_pairwise_ne, List.pairwise_iff_getElem]
  intro i j hi hj hij e
  have hi : i < 5 := by simpa using hi
  have hj : j < 5 := by simpa using hj
  have := D (9 + 3 * i) (9 + 3 * j) _ (E i hi) (by rw [e]; exact E j hj)
  omega
theorem st_at {ts : List Nat} (h5 : ts.length = 5) {f : Nat} (hf : f < 5) : ts[f]? = some (st_n ts f) := by
  unfold st_n
  rw [List.getD_eq_getElem?_getD, List.getElem?_eq_getElem (by omega)]
  rfl
theorem st_pl {ts : List Nat} (h5 : ts.length = 5) (hn : ts.Nodup) {f : Nat} (hf : f < 5) : pl ts (st_n ts f) - 1 = f := by
  rw [pl_at hn (st_at h5 hf)]
  rfl
theorem st_iv {ts : List Nat} (h5 : ts.length = 5) (hn : ts.Nodup) : iv 0 0 0 st_ru (fun _ => 0) (fun _ => none) (st_S ts) (fun _ => none) (fun _ => 0) (fun t => pl ts t - 1) := by
  refine ⟨⟨rfl, Nat.zero_le _⟩, fun r hr => ?_, fun f hf => ⟨Nat.zero_lt_succ 2, ⟨0, Nat.le_refl 0, rfl⟩, Or.inl rfl⟩, fun f hf => ⟨⟨List.mem_of_getElem? (st_at h5 hf), st_pl h5 hn hf, List.not_mem_nil⟩, List.nodup_nil, fun t ht => absurd ht List.not_mem_nil, List.Pairwise.nil⟩, fun t _ => ⟨⟨0, Nat.zero_le _, rfl⟩, Or.inl rfl⟩, fun h _ => Or.inl ⟨rfl, rfl⟩, fun f hf => rfl, fun f hf => Or.inl ⟨Nat.zero_le _, Nat.zero_le _⟩⟩
  exact ⟨⟨⟨(by decide : ¬ (0 : Int32) < 0), (by decide : (0 : Int32) ≤ 10000)⟩, ⟨(by decide : ¬ (-1 : Int32) < -1), (by decide : (-1 : Int32) ≤ 6)⟩, ⟨(by decide : ¬ (-1 : Int32) < -1), (by decide : (-1 : Int32) ≤ 29)⟩, ⟨(by decide : ¬ (0 : Int32) < 0), (by decide : (0 : Int32) ≤ 100)⟩⟩, ⟨(by decide : ¬ (3 : Int32) < 0), (by decide : (3 : Int32) ≤ 10)⟩, ⟨(by decide : ¬ (0 : Int32) < 0), (by decide : (0 : Int32) ≤ 1000)⟩, Or.inl rfl, Or.inl rfl, Or.inl rfl⟩
theorem st_rn {ts us : List Nat} (h5 : ts.length = 5) (hn : ts.Nodup) (g5 : us.length = 5) (gn : us.Nodup) : rn (fun t => st_n us (pl ts t - 1)) (st_S ts) (fun _ => none) (st_S us) (fun _ => none) := by
  have ex : ∀ t, t ∈ ts → ∃ f, f < 5 ∧ t = st_n ts f := fun t ht => by
    obtain ⟨f, hf⟩ := List.getElem?_of_mem ht
    have hl := (List.getElem?_eq_some_iff.mp hf).1
    have := st_at h5 (show f < 5 by omega)
    rw [hf] at this
    exact ⟨f, by omega, Option.some.inj this⟩
  refine ⟨fun f hf => ?_, ⟨rfl, rfl, rfl⟩, fun f hf => rfl, fun t ht => ⟨?_, fun i hi => rfl⟩, fun t u ht hu e => ?_, fun h _ => rfl⟩
  · show st_n us f = st_n us (pl ts (st_n ts f) - 1)
    rw [st_pl h5 hn hf]
  · obtain ⟨f, hf, rfl⟩ := ex t ht
    show st_n us (pl ts (st_n ts f) - 1) ∈ us
    rw [st_pl h5 hn hf]
    exact List.mem_of_getElem? (st_at g5 hf)
  · obtain ⟨f, hf, rfl⟩ := ex t ht
    obtain ⟨g, hg, rfl⟩ := ex u hu
    simp only [st_pl h5 hn hf, st_pl h5 hn hg] at e
    have h1 := st_pl g5 gn hf
    rw [e, st_pl g5 gn hg] at h1
    rw [h1]
theorem lw_mk {y : ly_T} {Go Gt : gk_G} {td td2 : Int32} {ru ru2 : Nat → Nat → Int32} {fr fr2 : Nat → Nat} {hf hp hf2 hp2 : Nat → Option Nat} {S S2 : ts_T} (hd : gk_dj Gt Go) (h1 : rq y Go td ru fr hf S hp) (h2 : rq (ly_sw y) Gt td2 ru2 fr2 hf2 S2 hp2) : lw y (gk_j Gt Go) td ru fr hf S hp td2 ru2 fr2 hf2 S2 hp2 [] := by
  have e : gk_j Gt (la_G (ly_k y 0) []) = Gt := by
    funext a
    unfold gk_j
    cases h : Gt a <;> rfl
  exact ⟨Go, Gt, by rw [e, gk_jc hd], hd.symm, fun a => Or.inr rfl, fun a => Or.inr rfl, List.nodup_nil, h1, h2⟩
theorem gk_up_j {G : gk_G} {a : Nat} {e : va_E} : gk_up G a e = gk_j (gk_up (fun _ => none) a e) G := by
  funext q
  unfold gk_j
  by_cases hq : q = a
  · subst hq; rw [gk_us, gk_us]
  · rw [gk_un _ _ hq, gk_un _ _ hq]
theorem gk_dj1 {G : gk_G} {a : Nat} {e : va_E} (h : G a = none) : gk_dj (gk_up (fun _ => none) a e) G := fun q => by
  by_cases hq : q = a
  · subst hq; exact Or.inr h
  · rw [gk_un _ _ hq]; exact Or.inl rfl
