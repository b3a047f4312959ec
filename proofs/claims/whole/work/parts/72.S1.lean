/-! the start: what the three constructors made -/
def st_n (l : List Nat) (j : Nat) : Nat := l.getD j 0
def st_a (y : ly_T) (q0 ra fa ha q4 q5 : Nat) : Nat → Nat
  | 0 => q0
  | 1 => ra
  | 2 => fa
  | 3 => ha
  | 4 => q4
  | 5 => q5
  | n + 6 => ly_a y (n + 6)
def st_f (rs fs hs ls : List Nat) (fam : Nat → Nat) : Nat → Nat → Nat
  | 0 => st_n rs
  | 1 => st_n fs
  | 2 => st_n hs
  | 3 => st_n ls
  | _ => fam
def st_y (y : ly_T) (q0 ra fa ha q4 q5 : Nat) (rs fs hs ls : List Nat) (fam : Nat → Nat) : ly_T := (y.1, y.2.1, st_a y q0 ra fa ha q4 q5, st_f rs fs hs ls fam)
def st_ru (_ k : Nat) : Int32 := match k with
  | 2 => -1
  | 3 => -1
  | 5 => 3
  | _ => 0
theorem st_V {y : ly_T} {A : Nat → Prop} {U : State} {q0 ra fa ha q4 q5 : Nat} {rs fs hs ls : List Nat} {fam : Nat → Nat} (h : gk_V y A U) : gk_V (st_y y q0 ra fa ha q4 q5 rs fs hs ls fam) A U := h
set_option maxHeartbeats 4000000 in
set_option maxRecDepth 100000 in
theorem st_rp {y : ly_T} {G0 G1 G3 : gk_G} {q0 q5 q4 ra fa ha r0 r1 r2 f0 l0 t0 f1 l1 t1 f2 l2 t2 f3 l3 t3 f4 l4 t4 h0 h1 h2 h3 : Nat} {fam : Nat → Nat} {V : Nat → Nat → Int32} {e5 : va_E} (hc : cN G0 G1 [(q0, (.inr (5, [.ref ra, .ref fa, .ref ha, .int 0]))), (ra, (rp_r (ly_k y 3) 3 (va_up (va_up (va_up (fun _ => none) 0 (some r0)) 1 (some r1)) 2 (some r2)))), (fa, (rp_r (ly_k y 4) 5 (va_up (va_up (va_up (va_up (va_up (fun _ => none) 0 (some f0)) 1 (some f1)) 2 (some f2)) 3 (some f3)) 4 (some f4)))), (ha, (rp_r (ly_k y 5) 4 (va_up (va_up (va_up (va_up (fun _ => none) 0 (some h0)) 1 (some h1)) 2 (some h2)) 3 (some h3)))), (r0, (.inr (4, [.int (nI 0), .int 0, .int (-1), .int (-1), .int 0, .int 3, .int 0, .int 0, .int 0, .int 0]))), (r1, (.inr (4, [.int (nI 1), .int 0, .int (-1), .int (-1), .int 0, .int 3, .int 0, .int 0, .int 0, .int 0]))), (r2, (.inr (4, [.int (nI 2), .int 0, .int (-1), .int (-1), .int 0, .int 3, .int 0, .int 0, .int 0, .int 0]))), (f0, (.inr (2, [.int (nI 0), .ref l0, .ref r0, .ref t0, .int 0, .int 0, .int 0]))), (l0, (.inr (0, [.int 0, .ref (ly_a y 6), .int 0]))), (t0, (.inr (3, [.int 0, .int 0, .int 0]))), (f1, (.inr (2, [.int (nI 1), .ref l1, .ref r0, .ref t1, .int 0, .int 0, .int 0]))), (l1, (.inr (0, [.int 0, .ref (ly_a y 6), .int 0]))), (t1, (.inr (3, [.int 0, .int 0, .int 0]))), (f2, (.inr (2, [.int (nI 2), .ref l2, .ref r0, .ref t2, .int 0, .int 0, .int 0]))), (l2, (.inr (0, [.int 0, .ref (ly_a y 6), .int 0]))), (t2, (.inr (3, [.int 0, .int 0, .int 0]))), (f3, (.inr (2, [.int (nI 3), .ref l3, .ref r0, .ref t3, .int 0, .int 0, .int 0]))), (l3, (.inr (0, [.int 0, .ref (ly_a y 6), .int 0]))), (t3, (.inr (3, [.int 0, .int 0, .int 0]))), (f4, (.inr (2, [.int (nI 4), .ref l4, .ref r0, .ref t4, .int 0, .int 0, .int 0]))), (l4, (.inr (0, [.int 0, .ref (ly_a y 6), .int 0]))), (t4, (.inr (3, [.int 0, .int 0, .int 0]))), (h0, (.inr (1, [.null, .null]))), (h1, (.inr (1, [.null, .null]))), (h2, (.inr (1, [.null, .null]))), (h3, (.inr (1, [.null, .null])))]) (hn5 : G1 q5 = none) (hm : mN y q5 (gk_up G1 q5 e5) G3 fam 20 V [.int 0, .ref (fam 0), .ref (fam 1), .ref (fam 2), .ref (fam 3), .ref (fam 4), .ref (fam 5), .ref (fam 6), .ref (fam 7), .ref (fam 8), .ref (fam 9), .ref (fam 10), .ref (fam 11), .ref (fam 12), .ref (fam 13), .int 0, .ref (fam 14), .ref (fam 15), .ref (fam 16), .ref (fam 17), .ref (fam 18), .ref (fam 19), .int 0]) (hn4 : G3 q4 = none) (h6 : ly_a y 6 ≠ ra ∧ ly_a y 6 ≠ fa ∧ ly_a y 6 ≠ ha) :
    rp (st_y y q0 ra fa ha q4 q5 [r0, r1, r2] [f0, f1, f2, f3, f4] [h0, h1, h2, h3] [l0, l1, l2, l3, l4] fam) (gk_up G3 q4 (.inl (ly_k y 2, 1, .inr (.inl (fun _ => 0))))) 0 st_ru (fun _ => 0) (st_n [t0, t1, t2, t3, t4]) (fun _ => 0) (fun _ => 0) (fun _ => 0) (fun _ => none) (fun _ => none) (fun _ => []) (fun t => t ∈ [t0, t1, t2, t3, t4]) (fun _ _ => 0) 0 0 0 0 V := by
  have K3 : ∀ (a : Nat) (e : va_E), G3 a = some e → (gk_up G3 q4 (.inl (ly_k y 2, 1, .inr (.inl (fun _ => 0))))) a = some e := fun a e h => by
    rw [gk_un _ _ (fun q => by rw [q, hn4] at h; cases h)]
    exact h
  have K : ∀ (a : Nat) (e : va_E), G1 a = some e → (gk_up G3 q4 (.inl (ly_k y 2, 1, .inr (.inl (fun _ => 0))))) a = some e := fun a e h => by
    have a5 : a ≠ q5 := fun q => by rw [q, hn5] at h; cases h
    have aq : ∀ j, j < 20 → a ≠ fam j := fun j hj q => by
      have h2 := (hm.2.1 j hj).2.1
      rw [← q, gk_un _ _ a5, h] at h2
      cases h2
    refine K3 a e ?_
    rw [hm.2.2.2 a a5 aq, gk_un _ _ a5]
    exact h
  have P : ∀ (i a : Nat) (e : va_E), ([(q0, (.inr (5, [.ref ra, .ref fa, .ref ha, .int 0]))), (ra, (rp_r (ly_k y 3) 3 (va_up (va_up (va_up (fun _ => none) 0 (some r0)) 1 (some r1)) 2 (some r2)))), (fa, (rp_r (ly_k y 4) 5 (va_up (va_up (va_up (va_up (va_up (fun _ => none) 0 (some f0)) 1 (some f1)) 2 (some f2)) 3 (some f3)) 4 (some f4)))), (ha, (rp_r (ly_k y 5) 4 (va_up (va_up (va_up (va_up (fun _ => none) 0 (some h0)) 1 (some h1)) 2 (some h2)) 3 (some h3)))), (r0, (.inr (4, [.int (nI 0), .int 0, .int (-1), .int (-1), .int 0, .int 3, .int 0, .int 0, .int 0, .int 0]))), (r1, (.inr (4, [.int (nI 1), .int 0, .int (-1), .int (-1), .int 0, .int 3, .int 0, .int 0, .int 0, .int 0]))), (r2, (.inr (4, [.int (nI 2), .int 0, .int (-1), .int (-1), .int 0, .int 3, .int 0, .int 0, .int 0, .int 0]))), (f0, (.inr (2, [.int (nI 0), .ref l0, .ref r0, .ref t0, .int 0, .int 0, .int 0]))), (l0, (.inr (0, [.int 0, .ref (ly_a y 6), .int 0]))), (t0, (.inr (3, [.int 0, .int 0, .int 0]))), (f1, (.inr (2, [.int (nI 1), .ref l1, .ref r0, .ref t1, .int 0, .int 0, .int 0]))), (l1, (.inr (0, [.int 0, .ref (ly_a y 6), .int 0]))), (t1, (.inr (3, [.int 0, .int 0, .int 0]))), (f2, (.inr (2, [.int (nI 2), .ref l2, .ref r0, .ref t2, .int 0, .int 0, .int 0]))), (l2, (.inr (0, [.int 0, .ref (ly_a y 6), .int 0]))), (t2, (.inr (3, [.int 0, .int 0, .int 0]))), (f3, (.inr (2, [.int (nI 3), .ref l3, .ref r0, .ref t3, .int 0, .int 0, .int 0]))), (l3, (.inr (0, [.int 0, .ref (ly_a y 6), .int 0]))), (t3, (.inr (3, [.int 0, .int 0, .int 0]))), (f4, (.inr (2, [.int (nI 4), .ref l4, .ref r0, .ref t4, .int 0, .int 0, .int 0]))), (l4, (.inr (0, [.int 0, .ref (ly_a y 6), .int 0]))), (t4, (.inr (3, [.int 0, .int 0, .int 0]))), (h0, (.inr (1, [.null, .null]))), (h1, (.inr (1, [.null, .null]))), (h2, (.inr (1, [.null, .null]))), (h3, (.inr (1, [.null, .null])))] : List (Nat × va_E))[i]? = some (a, e) → (gk_up G3 q4 (.inl (ly_k y 2, 1, .inr (.inl (fun _ => 0))))) a = some e := fun i a e h => K a e (hc.1 i a e h)
  have D : ∀ (i j a : Nat), ([q0, ra, fa, ha, r0, r1, r2, f0, l0, t0, f1, l1, t1, f2, l2, t2, f3, l3, t3, f4, l4, t4, h0, h1, h2, h3] : List Nat)[i]? = some a → ([q0, ra, fa, ha, r0, r1, r2, f0, l0, t0, f1, l1, t1, f2, l2, t2, f3, l3, t3, f4, l4, t4, h0, h1, h2, h3] : List Nat)[j]? = some a → i = j := fun i j a h1 h2 => x_idx hc.2.1 h1 h2
  have D2 : ∀ j k, j < 4 → k < 4 → ly_f (st_y y q0 ra fa ha q4 q5 [r0, r1, r2] [f0, f1, f2, f3, f4] [h0, h1, h2, h3] [l0, l1, l2, l3, l4] fam) 2 j = ly_f (st_y y q0 ra fa ha q4 q5 [r0, r1, r2] [f0, f1, f2, f3, f4] [h0, h1, h2, h3] [l0, l1, l2, l3, l4] fam) 2 k → j = k := by
    have E : ∀ j, j < 4 → ([q0, ra, fa, ha, r0, r1, r2, f0, l0, t0, f1, l1, t1, f2, l2, t2, f3, l3, t3, f4, l4, t4, h0, h1, h2, h3] : List Nat)[22 + 1 * j]? = some (ly_f (st_y y q0 ra fa ha q4 q5 [r0, r1, r2] [f0, f1, f2, f3, f4] [h0, h1, h2, h3] [l0, l1, l2, l3, l4] fam) 2 j) := fun j hj => by rcases (show j = 0 ∨ j = 1 ∨ j = 2 ∨ j = 3 by omega) with rfl | rfl | rfl | rfl <;> rfl
    intro j k hj hk e
    have := D (22 + 1 * j) (22 + 1 * k) _ (E j hj) (by rw [e]; exact E k hk)
    omega
  have D3 : ∀ j k, j < 5 → k < 5 → ly_f (st_y y q0 ra fa ha q4 q5 [r0, r1, r2] [f0, f1, f2, f3, f4] [h0, h1, h2, h3] [l0, l1, l2, l3, l4] fam) 3 j = ly_f (st_y y q0 ra fa ha q4 q5 [r0, r1, r2] [f0, f1, f2, f3, f4] [h0, h1, h2, h3] [l0, l1, l2, l3, l4] fam) 3 k → j = k := by
    have E : ∀ j, j < 5 → ([q0, ra, fa, ha, r0, r1, r2, f0, l0, t0, f1, l1, t1, f2, l2, t2, f3, l3, t3, f4, l4, t4, h0, h1, h2, h3] : List Nat)[8 + 3 * j]? = some (ly_f (st_y y q0 ra fa ha q4 q5 [r0, r1, r2] [f0, f1, f2, f3, f4] [h0, h1, h2, h3] [l0, l1, l2, l3, l4] fam) 3 j) := fun j hj => by rcases (show j = 0 ∨ j = 1 ∨ j = 2 ∨ j = 3 ∨ j = 4 by omega) with rfl | rfl | rfl | rfl | rfl <;> rfl
    intro j k hj hk e
    have := D (8 + 3 * j) (8 + 3 * k) _ (E j hj) (by rw [e]; exact E k hk)
    omega
  refine ⟨P 0 _ _ rfl, ⟨⟨_, P 1 _ _ rfl, fun r hr => ?_⟩, ⟨_, P 2 _ _ rfl, fun f hf => ?_⟩, ⟨_, P 3 _ _ rfl, fun h hh => ?_⟩⟩, fun r hr => ?_, fun f hf => ⟨Nat.zero_lt_succ 2, ?_⟩, ⟨fun h hh => ⟨fun f hf => (by cases hf), ?_⟩, D2⟩, ⟨⟨fun _ => ly_a y 6, fun _ => 0, fun f hf => ⟨?_, Nat.zero_le _, h6, Or.inl ⟨rfl, rfl⟩⟩, fun f k _ _ _ _ => rfl⟩, D3⟩, fun t ht => ?_, ⟨fun _ => 0, gk_us _ _ _, rfl⟩, K3 _ _ hm.1, fun k hk => K3 _ _ (hm.2.1 k hk).1, hm.2.2.1⟩
  · rcases (show r = 0 ∨ r = 1 ∨ r = 2 by omega) with rfl | rfl | rfl
    · exact rfl
    · exact rfl
    · exact rfl
  · rcases (show f = 0 ∨ f = 1 ∨ f = 2 ∨ f = 3 ∨ f = 4 by omega) with rfl | rfl | rfl | rfl | rfl
    · exact rfl
    · exact rfl
    · exact rfl
    · exact rfl
    · exact rfl
  · rcases (show h = 0 ∨ h = 1 ∨ h = 2 ∨ h = 3 by omega) with rfl | rfl | rfl | rfl
    · exact rfl
    · exact rfl
    · exact rfl
    · exact rfl
  · rcases (show r = 0 ∨ r = 1 ∨ r = 2 by omega) with rfl | rfl | rfl
    · exact P 4 _ _ rfl
    · exact P 5 _ _ rfl
    · exact P 6 _ _ rfl
  · rcases (show f = 0 ∨ f = 1 ∨ f = 2 ∨ f = 3 ∨ f = 4 by omega) with rfl | rfl | rfl | rfl | rfl
    · exact P 7 _ _ rfl
    · exact P 10 _ _ rfl
    · exact P 13 _ _ rfl
    · exact P 16 _ _ rfl
    · exact P 19 _ _ rfl
  · rcases (show h = 0 ∨ h = 1 ∨ h = 2 ∨ h = 3 by omega) with rfl | rfl | rfl | rfl
    · exact P 22 _ _ rfl
    · exact P 23 _ _ rfl
    · exact P 24 _ _ rfl
    · exact P 25 _ _ rfl
  · rcases (show f = 0 ∨ f = 1 ∨ f = 2 ∨ f = 3 ∨ f = 4 by omega) with rfl | rfl | rfl | rfl | rfl
    · exact P 8 _ _ rfl
    · exact P 11 _ _ rfl
    · exact P 14 _ _ rfl
    · exact P 17 _ _ rfl
    · exact P 20 _ _ rfl
  · simp only [List.mem_cons, List.not_mem_nil, or_false] at ht
    rcases ht with rfl | rfl | rfl | rfl | rfl
    · exact P 9 _ _ rfl
    · exact P 12 _ _ rfl
    · exact P 15 _ _ rfl
    · exact P 18 _ _ rfl
    · exact P 21 _ _ rfl
set_option maxHeartbeats 4000000 in
set_option maxRecDepth 100000 in
theorem st_xI {G0 G1 : gk_G} {q0 ra fa ha r0 r1 r2 f0 l0 t0 f1 l1 t1 f2 l2 t2 f3 l3 t3 f4 l4 t4 h0 h1 h2 h3 : Nat} {V : Nat → Nat → Int32} {y : ly_T} (hc : cN G0 G1 [(q0, (.inr (5, [.ref ra, .ref fa, .ref ha, .int 0]))), (ra, (rp_r (ly_k y 3) 3 (va_up (va_up (va_up (fun _ => none) 0 (some r0)) 1 (some r1)) 2 (some r2)))), (fa, (rp_r (ly_k y 4) 5 (va_up (va_up (va_up (va_up (va_up (fun _ => none) 0 (some f0)) 1 (some f1)) 2 (some f2)) 3 (some f3)) 4 (some f4)))), (ha, (rp_r (ly_k y 5) 4 (va_up (va_up (va_up (va_up (fun _ => none) 0 (some h0)) 1 (some h1)) 2 (some h2)) 3 (some h3)))), (r0, (.inr (4, [.int (nI 0), .int 0, .int (-1), .int (-1), .int 0, .int 3, .int 0, .int 0, .int 0, .int 0]))), (r1, (.inr (4, [.int (nI 1), .int 0, .int (-1), .int (-1), .int 0, .int 3, .int 0, .int 0, .int 0, .int 0]))), (r2, (.inr (4, [.int (nI 2), .int 0, .int (-1), .int (-1), .int 0, .int 3, .int 0, .int 0, .int 0, .int 0]))), (f0, (.inr (2, [.int (nI 0), .ref l0, .ref r0, .ref t0, .int 0, .int 0, .int 0]))), (l0, (.inr (0, [.int 0, .ref (ly_a y 6), .int 0]))), (t0, (.inr (3, [.int 0, .int 0, .int 0]))), (f1, (.inr (2, [.int (nI 1), .ref l1, .ref r0, .ref t1, .int 0, .int 0, .int 0]))), (l1, (.inr (0, [.int 0, .ref (ly_a y 6), .int 0]))), (t1, (.inr (3, [.int 0, .int 0, .int 0]))), (f2, (.inr (2, [.int (nI 2), .ref l2, .ref r0, .ref t2, .int 0, .int 0, .int 0]))), (l2, (.inr (0, [.int 0, .ref (ly_a y 6), .int 0]))), (t2, (.inr (3, [.int 0, .int 0, .int 0]))), (f3, (.inr (2, [.int (nI 3), .ref l3, .ref r0, .ref t3, .int 0, .int 0, .int 0]))), (l3, (.inr (0, [.int 0, .ref (ly_a y 6), .int 0]))), (t3, (.inr (3, [.int 0, .int 0, .int 0]))), (f4, (.inr (2, [.int (nI 4), .ref l4, .ref r0, .ref t4, .int 0, .int 0, .int 0]))), (l4, (.inr (0, [.int 0, .ref (ly_a y 6), .int 0]))), (t4, (.inr (3, [.int 0, .int 0, .int 0]))), (h0, (.inr (1, [.null, .null]))), (h1, (.inr (1, [.null, .null]))), (h2, (.inr (1, [.null, .null]))), (h3, (.inr (1, [.null, .null])))]) (hV1 : ∀ r, r < 3 → V 1 r = -1 ∧ V 2 r = -1 ∧ V 4 r = 3) (hV18 : ∀ h, h < 4 → V 18 h = -1 ∧ V 19 h = -1) (hV0 : ∀ i j, i ≠ 1 → i ≠ 2 → i ≠ 4 → i ≠ 18 → i ≠ 19 → V i j = 0) :
    xI 0 st_ru (fun _ => 0) (st_n [t0, t1, t2, t3, t4], fun _ => 0, fun _ => 0, fun _ => 0, fun _ => [], fun t => t ∈ [t0, t1, t2, t3, t4], fun _ _ => 0) (fun _ => none) (fun _ => none) [] (fun _ => 0) 0 0 V 0 := by
  have D : ∀ (i j a : Nat), ([q0, ra, fa, ha, r0, r1, r2, f0, l0, t0, f1, l1, t1, f2, l2, t2, f3, l3, t3, f4, l4, t4, h0, h1, h2, h3] : List Nat)[i]? = some a → ([q0, ra, fa, ha, r0, r1, r2, f0, l0, t0, f1, l1, t1, f2, l2, t2, f3, l3, t3, f4, l4, t4, h0, h1, h2, h3] : List Nat)[j]? = some a → i = j := fun i j a h1 h2 => x_idx hc.2.1 h1 h2
  have D9 : ∀ j k, j < 5 → k < 5 → st_n [t0, t1, t2, t3, t4] j = st_n [t0, t1, t2, t3, t4] k → j = k := by
    have E : ∀ j, j < 5 → ([q0, ra, fa, ha, r0, r1, r2, f0, l0, t0, f1, l1, t1, f2, l2, t2, f3, l3, t3, f4, l4, t4, h0, h1, h2, h3] : List Nat)[9 + 3 * j]? = some (st_n [t0, t1, t2, t3, t4] j) := fun j hj => by rcases (show j = 0 ∨ j = 1 ∨ j = 2 ∨ j = 3 ∨ j = 4 by omega) with rfl | rfl | rfl | rfl | rfl <;> rfl
    intro j k hj hk e
    have := D (9 + 3 * j) (9 + 3 * k) _ (E j hj) (by rw [e]; exact E k hk)
    omega
  have z : ∀ i j, i ≠ 1 ∧ i ≠ 2 ∧ i ≠ 4 ∧ i ≠ 18 ∧ i ≠ 19 → V i j = 0 := fun i j h => hV0 i j h.1 h.2.1 h.2.2.1 h.2.2.2.1 h.2.2.2.2
  refine ⟨⟨rfl, rfl, fun r hr => ⟨z 0 r (by decide), (hV1 r hr).1, (hV1 r hr).2.1, z 3 r (by decide), (hV1 r hr).2.2, z 5 r (by decide), z 6 r (by decide), z 7 r (by decide), z 8 r (by decide)⟩, fun f hf => ⟨z 9 f (by decide), z 10 f (by decide), z 11 f (by decide), z 12 f (by decide), z 13 f (by decide)⟩, fun k t hk => by simp at hk, fun h hh => Or.inl ⟨rfl, rfl, hV18 h hh⟩⟩, ⟨List.nodup_nil, Nat.le_refl 0, fun t ht => absurd ht List.not_mem_nil, fun f hf => ⟨?_, List.not_mem_nil⟩, D9, fun f hf => ⟨rfl, Nat.le_refl 0⟩, fun f hf => ⟨0, Nat.zero_le _, rfl⟩, fun t _ => Or.inl rfl, fun f hf => rfl⟩, ⟨0, Nat.zero_le _, rfl⟩, fun r hr => ?_, fun f hf => ⟨Nat.zero_lt_succ 2, ⟨0, Nat.zero_le _, rfl⟩, Or.inl rfl⟩, fun j hj => Or.inl (z 17 j (by decide))⟩
  · rcases (show f = 0 ∨ f = 1 ∨ f = 2 ∨ f = 3 ∨ f = 4 by omega) with rfl | rfl | rfl | rfl | rfl <;> simp [st_n]
  · exact ⟨⟨(by decide : ¬ (0 : Int32) < 0), (by decide : (0 : Int32) ≤ 10000)⟩, ⟨(by decide : ¬ (-1 : Int32) < -1), (by decide : (-1 : Int32) ≤ 6)⟩, ⟨(by decide : ¬ (-1 : Int32) < -1), (by decide : (-1 : Int32) ≤ 29)⟩, ⟨(by decide : ¬ (0 : Int32) < 0), (by decide : (0 : Int32) ≤ 100)⟩, ⟨(by decide : ¬ (3 : Int32) < 0), (by decide : (3 : Int32) ≤ 10)⟩, ⟨(by decide : ¬ (0 : Int32) < 0), (by decide : (0 : Int32) ≤ 1000)⟩, Or.inl rfl, Or.inl rfl, Or.inl rfl⟩
