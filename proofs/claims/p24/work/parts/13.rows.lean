/-! rows over 'rp': reading and writing the fields and rows of the class and of the reference -/
def rp_u2 (f : Nat → Nat → Int32) (a b : Nat) (v : Int32) : Nat → Nat → Int32 := fun i j => if i = a ∧ j = b then v else f i j
theorem rp_u2s (f : Nat → Nat → Int32) (a b : Nat) (v : Int32) : rp_u2 f a b v a b = v := by simp [rp_u2]
theorem rp_u2n (f : Nat → Nat → Int32) {a b i j : Nat} (v : Int32) (h : ¬ (i = a ∧ j = b)) : rp_u2 f a b v i j = f i j := by simp [rp_u2, h]
theorem rp_nz {v : Int32} (h : v = 0 ∨ v = 1) : narrow .boolean (.int v) = .int v ∧ fits .boolean (.int v) = true ∧ vp_nar .boolean v = v := by
  rcases h with rfl | rfl <;> exact ⟨by decide, by decide, by decide⟩
theorem rp_nq {o : Option Nat} {C : String} : narrow (.object C) (va_rf o) = va_rf o ∧ fits (.object C) (va_rf o) = true := by cases o <;> exact ⟨rfl, rfl⟩
section RPW
variable {p : Program} {l : Launch} {e : Env} {R : Room} {s : State} {m : MethodId} {args : Array Value} {below : List Frame} {meth : Method} {c : Code} {H : Heap} {locs : List Loc} {cells slots : Nat} {Q : State → Prop}
variable {cc : ByteArray} {pc : Nat} {ls : Array Slot} {rest : List Value} {A : Nat → Prop} {G : gk_G} {y : ly_T} {nL : Nat} {own : String}
variable {td : Int32} {ru : Nat → Nat → Int32} {fr lv : Nat → Nat} {lt et tl : Nat → Int32} {hf hp : Nat → Option Nat} {ol : Nat → List Nat} {PS : Nat → Prop} {pf : Nat → Nat → Int32}
theorem tr_11 (hK : gk_K p s m c args cc RX4 nL y A) (hP : gk_P (ly_D y) A G H) (hR : rp y G td ru fr lv lt et tl hf hp ol PS pf) (hdg : decode cc pc = .ok (.getfield 11, 3)) (kk : W p l e R s m args below meth c H locs cells slots Q (F0 m (pc + 3) ls (.ref (ly_a y 1) :: rest))) : W p l e R s m args below meth c H locs cells slots Q (F0 m pc ls (.ref (ly_a y 0) :: rest)) :=
  gk_get hK.1 hK.2.2.1.1 hP (k := 0) (hR.1) rfl inlX4 (by decide) q_1_12 (fun _ h => h) rfl hdg kk
theorem tr_17 (hK : gk_K p s m c args cc RX4 nL y A) (hP : gk_P (ly_D y) A G H) (hR : rp y G td ru fr lv lt et tl hf hp ol PS pf) (hdg : decode cc pc = .ok (.getfield 17, 3)) (kk : W p l e R s m args below meth c H locs cells slots Q (F0 m (pc + 3) ls (.ref (ly_a y 2) :: rest))) : W p l e R s m args below meth c H locs cells slots Q (F0 m pc ls (.ref (ly_a y 0) :: rest)) :=
  gk_get hK.1 hK.2.2.1.1 hP (k := 1) (hR.1) rfl inlX4 (by decide) q_1_14 (fun _ h => h) rfl hdg kk
theorem tr_23 (hK : gk_K p s m c args cc RX4 nL y A) (hP : gk_P (ly_D y) A G H) (hR : rp y G td ru fr lv lt et tl hf hp ol PS pf) (hdg : decode cc pc = .ok (.getfield 23, 3)) (kk : W p l e R s m args below meth c H locs cells slots Q (F0 m (pc + 3) ls (.ref (ly_a y 3) :: rest))) : W p l e R s m args below meth c H locs cells slots Q (F0 m pc ls (.ref (ly_a y 0) :: rest)) :=
  gk_get hK.1 hK.2.2.1.1 hP (k := 2) (hR.1) rfl inlX4 (by decide) q_1_16 (fun _ h => h) rfl hdg kk
theorem tr_109 (hK : gk_K p s m c args cc RX4 nL y A) (hP : gk_P (ly_D y) A G H) (hR : rp y G td ru fr lv lt et tl hf hp ol PS pf) (hdg : decode cc pc = .ok (.getfield 109, 3)) (kk : W p l e R s m args below meth c H locs cells slots Q (F0 m (pc + 3) ls (.int td :: rest))) : W p l e R s m args below meth c H locs cells slots Q (F0 m pc ls (.ref (ly_a y 0) :: rest)) :=
  gk_get hK.1 hK.2.2.1.1 hP (k := 3) (hR.1) rfl inlX4 (by decide) q_3_22 (fun _ h => h) rfl hdg kk
theorem tw_109 (hK : gk_K p s m c args cc RX4 nL y A) (hP : gk_P (ly_D y) A G H) (hS : va_S A s.heap H locs) (hR : rp y G td ru fr lv lt et tl hf hp ol PS pf) {v : Int32} (hdg : decode cc pc = .ok (.putfield 109, 3))
    (kk : ∀ (H1 : Heap) (locs1 : List Loc) (G1 : gk_G), gk_P (ly_D y) A G1 H1 → va_S A s.heap H1 locs1 → rp y G1 v ru fr lv lt et tl hf hp ol PS pf → W p l e R s m args below meth c H1 locs1 cells slots Q (F0 m (pc + 3) ls rest)) : W p l e R s m args below meth c H locs cells slots Q (F0 m pc ls (.int v :: .ref (ly_a y 0) :: rest)) := by
  obtain ⟨hA, hB, hRr, hF, hH, hL, hSs, hO, hM⟩ := hR
  have hG := hA
  have hR := hRr
  have hSp := hS
  refine gk_put hK.1 hK.2.2.1.1 hP hS (k := 3) hG rfl inlX4 tyX4 tyX4_ok nmX4 (by decide) q_3_22 (fun _ h => h) rfl rfl rfl (Nat.lt_of_lt_of_le (Nat.lt_succ_self 3) (Nat.le_of_ble_eq_true rfl)) hdg (fun H1 locs1 P1 S1 => kk H1 locs1 _ P1 S1 ?_)
  have hS := hSs
  exact ⟨(by show gk_up _ _ _ _ = _; rw [gk_us]; rfl), rpB_keep hB (rp_off_of hG (by show 5 ≠ 14; decide)), rpR_keep hR (rp_off_of hG (by show 5 ≠ 4; decide)), rpF_keep hF (rp_off_of hG (by show 5 ≠ 2; decide)), rpH_keep hH (rp_off_of hG (by show 5 ≠ 1; decide)), rpL_keep hL (rp_off_of hG (by show 5 ≠ 0; decide)) (rp_off_of hG (by show 5 ≠ 14; decide)), rpS_keep hS (rp_off_of hG (by show 5 ≠ 3; decide)), trivial, trivial⟩
theorem tr_163 (hK : gk_K p s m c args cc RX4 nL y A) (hP : gk_P (ly_D y) A G H) (hR : rp y G td ru fr lv lt et tl hf hp ol PS pf) {f : Nat} (hf5 : f < 5) (hdg : decode cc pc = .ok (.getfield 163, 3)) (kk : W p l e R s m args below meth c H locs cells slots Q (F0 m (pc + 3) ls (.int (nI f) :: rest))) : W p l e R s m args below meth c H locs cells slots Q (F0 m pc ls (.ref (ly_f y 1 f) :: rest)) :=
  gk_get hK.1 hK.2.2.1.1 hP (k := 0) ((hR.2.2.2.1 f hf5).2) rfl inlX1 (by decide) q_10_19 (fun _ h => h) rfl hdg kk
theorem tr_137 (hK : gk_K p s m c args cc RX4 nL y A) (hP : gk_P (ly_D y) A G H) (hR : rp y G td ru fr lv lt et tl hf hp ol PS pf) {f : Nat} (hf5 : f < 5) (hdg : decode cc pc = .ok (.getfield 137, 3)) (kk : W p l e R s m args below meth c H locs cells slots Q (F0 m (pc + 3) ls (.ref (ly_f y 3 f) :: rest))) : W p l e R s m args below meth c H locs cells slots Q (F0 m pc ls (.ref (ly_f y 1 f) :: rest)) :=
  gk_get hK.1 hK.2.2.1.1 hP (k := 1) ((hR.2.2.2.1 f hf5).2) rfl inlX1 (by decide) q_5_9 (fun _ h => h) rfl hdg kk
theorem tr_75 (hK : gk_K p s m c args cc RX4 nL y A) (hP : gk_P (ly_D y) A G H) (hR : rp y G td ru fr lv lt et tl hf hp ol PS pf) {f : Nat} (hf5 : f < 5) (hdg : decode cc pc = .ok (.getfield 75, 3)) (kk : W p l e R s m args below meth c H locs cells slots Q (F0 m (pc + 3) ls (.ref (ly_f y 0 (fr f)) :: rest))) : W p l e R s m args below meth c H locs cells slots Q (F0 m pc ls (.ref (ly_f y 1 f) :: rest)) :=
  gk_get hK.1 hK.2.2.1.1 hP (k := 2) ((hR.2.2.2.1 f hf5).2) rfl inlX1 (by decide) q_4_7 (fun _ h => h) rfl hdg kk
theorem tr_90 (hK : gk_K p s m c args cc RX4 nL y A) (hP : gk_P (ly_D y) A G H) (hR : rp y G td ru fr lv lt et tl hf hp ol PS pf) {f : Nat} (hf5 : f < 5) (hdg : decode cc pc = .ok (.getfield 90, 3)) (kk : W p l e R s m args below meth c H locs cells slots Q (F0 m (pc + 3) ls (.ref (lv f) :: rest))) : W p l e R s m args below meth c H locs cells slots Q (F0 m pc ls (.ref (ly_f y 1 f) :: rest)) :=
  gk_get hK.1 hK.2.2.1.1 hP (k := 3) ((hR.2.2.2.1 f hf5).2) rfl inlX1 (by decide) q_4_8 (fun _ h => h) rfl hdg kk
theorem tr_130 (hK : gk_K p s m c args cc RX4 nL y A) (hP : gk_P (ly_D y) A G H) (hR : rp y G td ru fr lv lt et tl hf hp ol PS pf) {f : Nat} (hf5 : f < 5) (hdg : decode cc pc = .ok (.getfield 130, 3)) (kk : W p l e R s m args below meth c H locs cells slots Q (F0 m (pc + 3) ls (.int (lt f) :: rest))) : W p l e R s m args below meth c H locs cells slots Q (F0 m pc ls (.ref (ly_f y 1 f) :: rest)) :=
  gk_get hK.1 hK.2.2.1.1 hP (k := 4) ((hR.2.2.2.1 f hf5).2) rfl inlX1 (by decide) q_4_12 (fun _ h => h) rfl hdg kk
theorem tr_198 (hK : gk_K p s m c args cc RX4 nL y A) (hP : gk_P (ly_D y) A G H) (hR : rp y G td ru fr lv lt et tl hf hp ol PS pf) {f : Nat} (hf5 : f < 5) (hdg : decode cc pc = .ok (.getfield 198, 3)) (kk : W p l e R s m args below meth c H locs cells slots Q (F0 m (pc + 3) ls (.int (et f) :: rest))) : W p l e R s m args below meth c H locs cells slots Q (F0 m pc ls (.ref (ly_f y 1 f) :: rest)) :=
  gk_get hK.1 hK.2.2.1.1 hP (k := 5) ((hR.2.2.2.1 f hf5).2) rfl inlX1 (by decide) q_4_17 (fun _ h => h) rfl hdg kk
theorem tr_160 (hK : gk_K p s m c args cc RX4 nL y A) (hP : gk_P (ly_D y) A G H) (hR : rp y G td ru fr lv lt et tl hf hp ol PS pf) {f : Nat} (hf5 : f < 5) (hdg : decode cc pc = .ok (.getfield 160, 3)) (kk : W p l e R s m args below meth c H locs cells slots Q (F0 m (pc + 3) ls (.int (tl f) :: rest))) : W p l e R s m args below meth c H locs cells slots Q (F0 m pc ls (.ref (ly_f y 1 f) :: rest)) :=
  gk_get hK.1 hK.2.2.1.1 hP (k := 6) ((hR.2.2.2.1 f hf5).2) rfl inlX1 (by decide) q_9_9 (fun _ h => h) rfl hdg kk
theorem tw_75 (hK : gk_K p s m c args cc RX4 nL y A) (hP : gk_P (ly_D y) A G H) (hS : va_S A s.heap H locs) (hR : rp y G td ru fr lv lt et tl hf hp ol PS pf) {f : Nat} (hf5 : f < 5) {r : Nat} (hr3 : r < 3) (hdg : decode cc pc = .ok (.putfield 75, 3))
    (kk : ∀ (H1 : Heap) (locs1 : List Loc) (G1 : gk_G), gk_P (ly_D y) A G1 H1 → va_S A s.heap H1 locs1 → rp y G1 td ru (va_up fr f r) lv lt et tl hf hp ol PS pf → W p l e R s m args below meth c H1 locs1 cells slots Q (F0 m (pc + 3) ls rest)) : W p l e R s m args below meth c H locs cells slots Q (F0 m pc ls (.ref (ly_f y 0 r) :: .ref (ly_f y 1 f) :: rest)) := by
  obtain ⟨hA, hB, hRr, hF, hH, hL, hSs, hO, hM⟩ := hR
  have hG := (hF f hf5).2
  have hR := hRr
  have hSp := hS
  refine gk_put hK.1 hK.2.2.1.1 hP hS (k := 2) hG rfl inlX1 tyX1 tyX1_ok nmX1 (by decide) q_4_7 (fun _ h => h) rfl rfl rfl (Nat.lt_of_lt_of_le (Nat.lt_succ_self 2) (Nat.le_of_ble_eq_true rfl)) hdg (fun H1 locs1 P1 S1 => kk H1 locs1 _ P1 S1 ?_)
  have hS := hSs
  exact ⟨rpA_keep hA (rp_off_of hG (by show 2 ≠ 5; decide)), rpB_keep hB (rp_off_of hG (by show 2 ≠ 14; decide)), rpR_keep hR (rp_off_of hG (by show 2 ≠ 4; decide)), (rpF_put hF hf5 (by rw [va_up_self]; exact hr3) (by simp only [rp_eF, va_up_self]; rfl) (fun k hk => ⟨va_up_ne _ _ hk, rfl, rfl, rfl, rfl⟩)), rpH_keep hH (rp_off_of hG (by show 2 ≠ 1; decide)), rpL_keep hL (rp_off_of hG (by show 2 ≠ 0; decide)) (rp_off_of hG (by show 2 ≠ 14; decide)), rpS_keep hS (rp_off_of hG (by show 2 ≠ 3; decide)), trivial, trivial⟩
theorem tw_90 (hK : gk_K p s m c args cc RX4 nL y A) (hP : gk_P (ly_D y) A G H) (hS : va_S A s.heap H locs) (hR : rp y G td ru fr lv lt et tl hf hp ol PS pf) {f : Nat} (hf5 : f < 5) {t : Nat} (hdg : decode cc pc = .ok (.putfield 90, 3))
    (kk : ∀ (H1 : Heap) (locs1 : List Loc) (G1 : gk_G), gk_P (ly_D y) A G1 H1 → va_S A s.heap H1 locs1 → rp y G1 td ru fr (va_up lv f t) lt et tl hf hp ol PS pf → W p l e R s m args below meth c H1 locs1 cells slots Q (F0 m (pc + 3) ls rest)) : W p l e R s m args below meth c H locs cells slots Q (F0 m pc ls (.ref t :: .ref (ly_f y 1 f) :: rest)) := by
  obtain ⟨hA, hB, hRr, hF, hH, hL, hSs, hO, hM⟩ := hR
  have hG := (hF f hf5).2
  have hR := hRr
  have hSp := hS
  refine gk_put hK.1 hK.2.2.1.1 hP hS (k := 3) hG rfl inlX1 tyX1 tyX1_ok nmX1 (by decide) q_4_8 (fun _ h => h) rfl rfl rfl (Nat.lt_of_lt_of_le (Nat.lt_succ_self 3) (Nat.le_of_ble_eq_true rfl)) hdg (fun H1 locs1 P1 S1 => kk H1 locs1 _ P1 S1 ?_)
  have hS := hSs
  exact ⟨rpA_keep hA (rp_off_of hG (by show 2 ≠ 5; decide)), rpB_keep hB (rp_off_of hG (by show 2 ≠ 14; decide)), rpR_keep hR (rp_off_of hG (by show 2 ≠ 4; decide)), (rpF_put hF hf5 (hF f hf5).1 (by simp only [rp_eF, va_up_self]; rfl) (fun k hk => ⟨rfl, va_up_ne _ _ hk, rfl, rfl, rfl⟩)), rpH_keep hH (rp_off_of hG (by show 2 ≠ 1; decide)), rpL_keep hL (rp_off_of hG (by show 2 ≠ 0; decide)) (rp_off_of hG (by show 2 ≠ 14; decide)), rpS_keep hS (rp_off_of hG (by show 2 ≠ 3; decide)), trivial, trivial⟩
theorem tw_130 (hK : gk_K p s m c args cc RX4 nL y A) (hP : gk_P (ly_D y) A G H) (hS : va_S A s.heap H locs) (hR : rp y G td ru fr lv lt et tl hf hp ol PS pf) {f : Nat} (hf5 : f < 5) {v : Int32} (hdg : decode cc pc = .ok (.putfield 130, 3))
    (kk : ∀ (H1 : Heap) (locs1 : List Loc) (G1 : gk_G), gk_P (ly_D y) A G1 H1 → va_S A s.heap H1 locs1 → rp y G1 td ru fr lv (va_up lt f v) et tl hf hp ol PS pf → W p l e R s m args below meth c H1 locs1 cells slots Q (F0 m (pc + 3) ls rest)) : W p l e R s m args below meth c H locs cells slots Q (F0 m pc ls (.int v :: .ref (ly_f y 1 f) :: rest)) := by
  obtain ⟨hA, hB, hRr, hF, hH, hL, hSs, hO, hM⟩ := hR
  have hG := (hF f hf5).2
  have hR := hRr
  have hSp := hS
  refine gk_put hK.1 hK.2.2.1.1 hP hS (k := 4) hG rfl inlX1 tyX1 tyX1_ok nmX1 (by decide) q_4_12 (fun _ h => h) rfl rfl rfl (Nat.lt_of_lt_of_le (Nat.lt_succ_self 4) (Nat.le_of_ble_eq_true rfl)) hdg (fun H1 locs1 P1 S1 => kk H1 locs1 _ P1 S1 ?_)
  have hS := hSs
  exact ⟨rpA_keep hA (rp_off_of hG (by show 2 ≠ 5; decide)), rpB_keep hB (rp_off_of hG (by show 2 ≠ 14; decide)), rpR_keep hR (rp_off_of hG (by show 2 ≠ 4; decide)), (rpF_put hF hf5 (hF f hf5).1 (by simp only [rp_eF, va_up_self]; rfl) (fun k hk => ⟨rfl, rfl, va_up_ne _ _ hk, rfl, rfl⟩)), rpH_keep hH (rp_off_of hG (by show 2 ≠ 1; decide)), rpL_keep hL (rp_off_of hG (by show 2 ≠ 0; decide)) (rp_off_of hG (by show 2 ≠ 14; decide)), rpS_keep hS (rp_off_of hG (by show 2 ≠ 3; decide)), trivial, trivial⟩
theorem tw_198 (hK : gk_K p s m c args cc RX4 nL y A) (hP : gk_P (ly_D y) A G H) (hS : va_S A s.heap H locs) (hR : rp y G td ru fr lv lt et tl hf hp ol PS pf) {f : Nat} (hf5 : f < 5) {v : Int32} (hb : v = 0 ∨ v = 1) (hdg : decode cc pc = .ok (.putfield 198, 3))
    (kk : ∀ (H1 : Heap) (locs1 : List Loc) (G1 : gk_G), gk_P (ly_D y) A G1 H1 → va_S A s.heap H1 locs1 → rp y G1 td ru fr lv lt (va_up et f v) tl hf hp ol PS pf → W p l e R s m args below meth c H1 locs1 cells slots Q (F0 m (pc + 3) ls rest)) : W p l e R s m args below meth c H locs cells slots Q (F0 m pc ls (.int v :: .ref (ly_f y 1 f) :: rest)) := by
  obtain ⟨hA, hB, hRr, hF, hH, hL, hSs, hO, hM⟩ := hR
  have hG := (hF f hf5).2
  have hR := hRr
  have hSp := hS
  refine gk_put hK.1 hK.2.2.1.1 hP hS (k := 5) hG rfl inlX1 tyX1 tyX1_ok nmX1 (by decide) q_4_17 (fun _ h => h) rfl (rp_nz hb).1 (rp_nz hb).2.1 (Nat.lt_of_lt_of_le (Nat.lt_succ_self 5) (Nat.le_of_ble_eq_true rfl)) hdg (fun H1 locs1 P1 S1 => kk H1 locs1 _ P1 S1 ?_)
  have hS := hSs
  exact ⟨rpA_keep hA (rp_off_of hG (by show 2 ≠ 5; decide)), rpB_keep hB (rp_off_of hG (by show 2 ≠ 14; decide)), rpR_keep hR (rp_off_of hG (by show 2 ≠ 4; decide)), (rpF_put hF hf5 (hF f hf5).1 (by simp only [rp_eF, va_up_self]; rfl) (fun k hk => ⟨rfl, rfl, rfl, va_up_ne _ _ hk, rfl⟩)), rpH_keep hH (rp_off_of hG (by show 2 ≠ 1; decide)), rpL_keep hL (rp_off_of hG (by show 2 ≠ 0; decide)) (rp_off_of hG (by show 2 ≠ 14; decide)), rpS_keep hS (rp_off_of hG (by show 2 ≠ 3; decide)), trivial, trivial⟩
theorem tw_160 (hK : gk_K p s m c args cc RX4 nL y A) (hP : gk_P (ly_D y) A G H) (hS : va_S A s.heap H locs) (hR : rp y G td ru fr lv lt et tl hf hp ol PS pf) {f : Nat} (hf5 : f < 5) {v : Int32} (hdg : decode cc pc = .ok (.putfield 160, 3))
    (kk : ∀ (H1 : Heap) (locs1 : List Loc) (G1 : gk_G), gk_P (ly_D y) A G1 H1 → va_S A s.heap H1 locs1 → rp y G1 td ru fr lv lt et (va_up tl f v) hf hp ol PS pf → W p l e R s m args below meth c H1 locs1 cells slots Q (F0 m (pc + 3) ls rest)) : W p l e R s m args below meth c H locs cells slots Q (F0 m pc ls (.int v :: .ref (ly_f y 1 f) :: rest)) := by
  obtain ⟨hA, hB, hRr, hF, hH, hL, hSs, hO, hM⟩ := hR
  have hG := (hF f hf5).2
  have hR := hRr
  have hSp := hS
  refine gk_put hK.1 hK.2.2.1.1 hP hS (k := 6) hG rfl inlX1 tyX1 tyX1_ok nmX1 (by decide) q_9_9 (fun _ h => h) rfl rfl rfl (Nat.lt_of_lt_of_le (Nat.lt_succ_self 6) (Nat.le_of_ble_eq_true rfl)) hdg (fun H1 locs1 P1 S1 => kk H1 locs1 _ P1 S1 ?_)
  have hS := hSs
  exact ⟨rpA_keep hA (rp_off_of hG (by show 2 ≠ 5; decide)), rpB_keep hB (rp_off_of hG (by show 2 ≠ 14; decide)), rpR_keep hR (rp_off_of hG (by show 2 ≠ 4; decide)), (rpF_put hF hf5 (hF f hf5).1 (by simp only [rp_eF, va_up_self]; rfl) (fun k hk => ⟨rfl, rfl, rfl, rfl, va_up_ne _ _ hk⟩)), rpH_keep hH (rp_off_of hG (by show 2 ≠ 1; decide)), rpL_keep hL (rp_off_of hG (by show 2 ≠ 0; decide)) (rp_off_of hG (by show 2 ≠ 14; decide)), rpS_keep hS (rp_off_of hG (by show 2 ≠ 3; decide)), trivial, trivial⟩
theorem tr_79 (hK : gk_K p s m c args cc RX4 nL y A) (hP : gk_P (ly_D y) A G H) (hR : rp y G td ru fr lv lt et tl hf hp ol PS pf) {r : Nat} (hr3 : r < 3) (hdg : decode cc pc = .ok (.getfield 79, 3)) (kk : W p l e R s m args below meth c H locs cells slots Q (F0 m (pc + 3) ls (.int (nI r) :: rest))) : W p l e R s m args below meth c H locs cells slots Q (F0 m pc ls (.ref (ly_f y 0 r) :: rest)) :=
  gk_get hK.1 hK.2.2.1.1 hP (k := 0) (hR.2.2.1 r hr3) rfl inlX3 (by decide) q_13_20 (fun _ h => h) rfl hdg kk
theorem tr_42 (hK : gk_K p s m c args cc RX4 nL y A) (hP : gk_P (ly_D y) A G H) (hR : rp y G td ru fr lv lt et tl hf hp ol PS pf) {r : Nat} (hr3 : r < 3) (hdg : decode cc pc = .ok (.getfield 42, 3)) (kk : W p l e R s m args below meth c H locs cells slots Q (F0 m (pc + 3) ls (.int (ru r 1) :: rest))) : W p l e R s m args below meth c H locs cells slots Q (F0 m pc ls (.ref (ly_f y 0 r) :: rest)) :=
  gk_get hK.1 hK.2.2.1.1 hP (k := 1) (hR.2.2.1 r hr3) rfl inlX3 (by decide) q_4_10 (fun _ h => h) rfl hdg kk
theorem tw_42 (hK : gk_K p s m c args cc RX4 nL y A) (hP : gk_P (ly_D y) A G H) (hS : va_S A s.heap H locs) (hR : rp y G td ru fr lv lt et tl hf hp ol PS pf) {r : Nat} (hr3 : r < 3) {v : Int32} (hdg : decode cc pc = .ok (.putfield 42, 3))
    (kk : ∀ (H1 : Heap) (locs1 : List Loc) (G1 : gk_G), gk_P (ly_D y) A G1 H1 → va_S A s.heap H1 locs1 → rp y G1 td (rp_u2 ru r 1 v) fr lv lt et tl hf hp ol PS pf → W p l e R s m args below meth c H1 locs1 cells slots Q (F0 m (pc + 3) ls rest)) : W p l e R s m args below meth c H locs cells slots Q (F0 m pc ls (.int v :: .ref (ly_f y 0 r) :: rest)) := by
  obtain ⟨hA, hB, hRr, hF, hH, hL, hSs, hO, hM⟩ := hR
  have hG := hRr r hr3
  have hR := hRr
  have hSp := hS
  refine gk_put hK.1 hK.2.2.1.1 hP hS (k := 1) hG rfl inlX3 tyX3 tyX3_ok nmX3 (by decide) q_4_10 (fun _ h => h) rfl rfl rfl (Nat.lt_of_lt_of_le (Nat.lt_succ_self 1) (Nat.le_of_ble_eq_true rfl)) hdg (fun H1 locs1 P1 S1 => kk H1 locs1 _ P1 S1 ?_)
  have hS := hSs
  exact ⟨rpA_keep hA (rp_off_of hG (by show 4 ≠ 5; decide)), rpB_keep hB (rp_off_of hG (by show 4 ≠ 14; decide)), (rpR_put hR hr3 (by simp [rp_eR, rp_u2]) (fun k hk => by funext j; simp [rp_u2, hk])), rpF_keep hF (rp_off_of hG (by show 4 ≠ 2; decide)), rpH_keep hH (rp_off_of hG (by show 4 ≠ 1; decide)), rpL_keep hL (rp_off_of hG (by show 4 ≠ 0; decide)) (rp_off_of hG (by show 4 ≠ 14; decide)), rpS_keep hS (rp_off_of hG (by show 4 ≠ 3; decide)), trivial, trivial⟩
theorem tr_46 (hK : gk_K p s m c args cc RX4 nL y A) (hP : gk_P (ly_D y) A G H) (hR : rp y G td ru fr lv lt et tl hf hp ol PS pf) {r : Nat} (hr3 : r < 3) (hdg : decode cc pc = .ok (.getfield 46, 3)) (kk : W p l e R s m args below meth c H locs cells slots Q (F0 m (pc + 3) ls (.int (ru r 2) :: rest))) : W p l e R s m args below meth c H locs cells slots Q (F0 m pc ls (.ref (ly_f y 0 r) :: rest)) :=
  gk_get hK.1 hK.2.2.1.1 hP (k := 2) (hR.2.2.1 r hr3) rfl inlX3 (by decide) q_4_11 (fun _ h => h) rfl hdg kk
theorem tw_46 (hK : gk_K p s m c args cc RX4 nL y A) (hP : gk_P (ly_D y) A G H) (hS : va_S A s.heap H locs) (hR : rp y G td ru fr lv lt et tl hf hp ol PS pf) {r : Nat} (hr3 : r < 3) {v : Int32} (hdg : decode cc pc = .ok (.putfield 46, 3))
    (kk : ∀ (H1 : Heap) (locs1 : List Loc) (G1 : gk_G), gk_P (ly_D y) A G1 H1 → va_S A s.heap H1 locs1 → rp y G1 td (rp_u2 ru r 2 v) fr lv lt et tl hf hp ol PS pf → W p l e R s m args below meth c H1 locs1 cells slots Q (F0 m (pc + 3) ls rest)) : W p l e R s m args below meth c H locs cells slots Q (F0 m pc ls (.int v :: .ref (ly_f y 0 r) :: rest)) := by
  obtain ⟨hA, hB, hRr, hF, hH, hL, hSs, hO, hM⟩ := hR
  have hG := hRr r hr3
  have hR := hRr
  have hSp := hS
  refine gk_put hK.1 hK.2.2.1.1 hP hS (k := 2) hG rfl inlX3 tyX3 tyX3_ok nmX3 (by decide) q_4_11 (fun _ h => h) rfl rfl rfl (Nat.lt_of_lt_of_le (Nat.lt_succ_self 2) (Nat.le_of_ble_eq_true rfl)) hdg (fun H1 locs1 P1 S1 => kk H1 locs1 _ P1 S1 ?_)
  have hS := hSs
  exact ⟨rpA_keep hA (rp_off_of hG (by show 4 ≠ 5; decide)), rpB_keep hB (rp_off_of hG (by show 4 ≠ 14; decide)), (rpR_put hR hr3 (by simp [rp_eR, rp_u2]) (fun k hk => by funext j; simp [rp_u2, hk])), rpF_keep hF (rp_off_of hG (by show 4 ≠ 2; decide)), rpH_keep hH (rp_off_of hG (by show 4 ≠ 1; decide)), rpL_keep hL (rp_off_of hG (by show 4 ≠ 0; decide)) (rp_off_of hG (by show 4 ≠ 14; decide)), rpS_keep hS (rp_off_of hG (by show 4 ≠ 3; decide)), trivial, trivial⟩
theorem tr_49 (hK : gk_K p s m c args cc RX4 nL y A) (hP : gk_P (ly_D y) A G H) (hR : rp y G td ru fr lv lt et tl hf hp ol PS pf) {r : Nat} (hr3 : r < 3) (hdg : decode cc pc = .ok (.getfield 49, 3)) (kk : W p l e R s m args below meth c H locs cells slots Q (F0 m (pc + 3) ls (.int (ru r 3) :: rest))) : W p l e R s m args below meth c H locs cells slots Q (F0 m pc ls (.ref (ly_f y 0 r) :: rest)) :=
  gk_get hK.1 hK.2.2.1.1 hP (k := 3) (hR.2.2.1 r hr3) rfl inlX3 (by decide) q_4_13 (fun _ h => h) rfl hdg kk
theorem tw_49 (hK : gk_K p s m c args cc RX4 nL y A) (hP : gk_P (ly_D y) A G H) (hS : va_S A s.heap H locs) (hR : rp y G td ru fr lv lt et tl hf hp ol PS pf) {r : Nat} (hr3 : r < 3) {v : Int32} (hdg : decode cc pc = .ok (.putfield 49, 3))
    (kk : ∀ (H1 : Heap) (locs1 : List Loc) (G1 : gk_G), gk_P (ly_D y) A G1 H1 → va_S A s.heap H1 locs1 → rp y G1 td (rp_u2 ru r 3 v) fr lv lt et tl hf hp ol PS pf → W p l e R s m args below meth c H1 locs1 cells slots Q (F0 m (pc + 3) ls rest)) : W p l e R s m args below meth c H locs cells slots Q (F0 m pc ls (.int v :: .ref (ly_f y 0 r) :: rest)) := by
  obtain ⟨hA, hB, hRr, hF, hH, hL, hSs, hO, hM⟩ := hR
  have hG := hRr r hr3
  have hR := hRr
  have hSp := hS
  refine gk_put hK.1 hK.2.2.1.1 hP hS (k := 3) hG rfl inlX3 tyX3 tyX3_ok nmX3 (by decide) q_4_13 (fun _ h => h) rfl rfl rfl (Nat.lt_of_lt_of_le (Nat.lt_succ_self 3) (Nat.le_of_ble_eq_true rfl)) hdg (fun H1 locs1 P1 S1 => kk H1 locs1 _ P1 S1 ?_)
  have hS := hSs
  exact ⟨rpA_keep hA (rp_off_of hG (by show 4 ≠ 5; decide)), rpB_keep hB (rp_off_of hG (by show 4 ≠ 14; decide)), (rpR_put hR hr3 (by simp [rp_eR, rp_u2]) (fun k hk => by funext j; simp [rp_u2, hk])), rpF_keep hF (rp_off_of hG (by show 4 ≠ 2; decide)), rpH_keep hH (rp_off_of hG (by show 4 ≠ 1; decide)), rpL_keep hL (rp_off_of hG (by show 4 ≠ 0; decide)) (rp_off_of hG (by show 4 ≠ 14; decide)), rpS_keep hS (rp_off_of hG (by show 4 ≠ 3; decide)), trivial, trivial⟩
theorem tr_52 (hK : gk_K p s m c args cc RX4 nL y A) (hP : gk_P (ly_D y) A G H) (hR : rp y G td ru fr lv lt et tl hf hp ol PS pf) {r : Nat} (hr3 : r < 3) (hdg : decode cc pc = .ok (.getfield 52, 3)) (kk : W p l e R s m args below meth c H locs cells slots Q (F0 m (pc + 3) ls (.int (ru r 4) :: rest))) : W p l e R s m args below meth c H locs cells slots Q (F0 m pc ls (.ref (ly_f y 0 r) :: rest)) :=
  gk_get hK.1 hK.2.2.1.1 hP (k := 4) (hR.2.2.1 r hr3) rfl inlX3 (by decide) q_4_18 (fun _ h => h) rfl hdg kk
theorem tw_52 (hK : gk_K p s m c args cc RX4 nL y A) (hP : gk_P (ly_D y) A G H) (hS : va_S A s.heap H locs) (hR : rp y G td ru fr lv lt et tl hf hp ol PS pf) {r : Nat} (hr3 : r < 3) {v : Int32} (hdg : decode cc pc = .ok (.putfield 52, 3))
    (kk : ∀ (H1 : Heap) (locs1 : List Loc) (G1 : gk_G), gk_P (ly_D y) A G1 H1 → va_S A s.heap H1 locs1 → rp y G1 td (rp_u2 ru r 4 v) fr lv lt et tl hf hp ol PS pf → W p l e R s m args below meth c H1 locs1 cells slots Q (F0 m (pc + 3) ls rest)) : W p l e R s m args below meth c H locs cells slots Q (F0 m pc ls (.int v :: .ref (ly_f y 0 r) :: rest)) := by
  obtain ⟨hA, hB, hRr, hF, hH, hL, hSs, hO, hM⟩ := hR
  have hG := hRr r hr3
  have hR := hRr
  have hSp := hS
  refine gk_put hK.1 hK.2.2.1.1 hP hS (k := 4) hG rfl inlX3 tyX3 tyX3_ok nmX3 (by decide) q_4_18 (fun _ h => h) rfl rfl rfl (Nat.lt_of_lt_of_le (Nat.lt_succ_self 4) (Nat.le_of_ble_eq_true rfl)) hdg (fun H1 locs1 P1 S1 => kk H1 locs1 _ P1 S1 ?_)
  have hS := hSs
  exact ⟨rpA_keep hA (rp_off_of hG (by show 4 ≠ 5; decide)), rpB_keep hB (rp_off_of hG (by show 4 ≠ 14; decide)), (rpR_put hR hr3 (by simp [rp_eR, rp_u2]) (fun k hk => by funext j; simp [rp_u2, hk])), rpF_keep hF (rp_off_of hG (by show 4 ≠ 2; decide)), rpH_keep hH (rp_off_of hG (by show 4 ≠ 1; decide)), rpL_keep hL (rp_off_of hG (by show 4 ≠ 0; decide)) (rp_off_of hG (by show 4 ≠ 14; decide)), rpS_keep hS (rp_off_of hG (by show 4 ≠ 3; decide)), trivial, trivial⟩
theorem tr_55 (hK : gk_K p s m c args cc RX4 nL y A) (hP : gk_P (ly_D y) A G H) (hR : rp y G td ru fr lv lt et tl hf hp ol PS pf) {r : Nat} (hr3 : r < 3) (hdg : decode cc pc = .ok (.getfield 55, 3)) (kk : W p l e R s m args below meth c H locs cells slots Q (F0 m (pc + 3) ls (.int (ru r 5) :: rest))) : W p l e R s m args below meth c H locs cells slots Q (F0 m pc ls (.ref (ly_f y 0 r) :: rest)) :=
  gk_get hK.1 hK.2.2.1.1 hP (k := 5) (hR.2.2.1 r hr3) rfl inlX3 (by decide) q_9_15 (fun _ h => h) rfl hdg kk
theorem tw_55 (hK : gk_K p s m c args cc RX4 nL y A) (hP : gk_P (ly_D y) A G H) (hS : va_S A s.heap H locs) (hR : rp y G td ru fr lv lt et tl hf hp ol PS pf) {r : Nat} (hr3 : r < 3) {v : Int32} (hdg : decode cc pc = .ok (.putfield 55, 3))
    (kk : ∀ (H1 : Heap) (locs1 : List Loc) (G1 : gk_G), gk_P (ly_D y) A G1 H1 → va_S A s.heap H1 locs1 → rp y G1 td (rp_u2 ru r 5 v) fr lv lt et tl hf hp ol PS pf → W p l e R s m args below meth c H1 locs1 cells slots Q (F0 m (pc + 3) ls rest)) : W p l e R s m args below meth c H locs cells slots Q (F0 m pc ls (.int v :: .ref (ly_f y 0 r) :: rest)) := by
  obtain ⟨hA, hB, hRr, hF, hH, hL, hSs, hO, hM⟩ := hR
  have hG := hRr r hr3
  have hR := hRr
  have hSp := hS
  refine gk_put hK.1 hK.2.2.1.1 hP hS (k := 5) hG rfl inlX3 tyX3 tyX3_ok nmX3 (by decide) q_9_15 (fun _ h => h) rfl rfl rfl (Nat.lt_of_lt_of_le (Nat.lt_succ_self 5) (Nat.le_of_ble_eq_true rfl)) hdg (fun H1 locs1 P1 S1 => kk H1 locs1 _ P1 S1 ?_)
  have hS := hSs
  exact ⟨rpA_keep hA (rp_off_of hG (by show 4 ≠ 5; decide)), rpB_keep hB (rp_off_of hG (by show 4 ≠ 14; decide)), (rpR_put hR hr3 (by simp [rp_eR, rp_u2]) (fun k hk => by funext j; simp [rp_u2, hk])), rpF_keep hF (rp_off_of hG (by show 4 ≠ 2; decide)), rpH_keep hH (rp_off_of hG (by show 4 ≠ 1; decide)), rpL_keep hL (rp_off_of hG (by show 4 ≠ 0; decide)) (rp_off_of hG (by show 4 ≠ 14; decide)), rpS_keep hS (rp_off_of hG (by show 4 ≠ 3; decide)), trivial, trivial⟩
theorem tr_58 (hK : gk_K p s m c args cc RX4 nL y A) (hP : gk_P (ly_D y) A G H) (hR : rp y G td ru fr lv lt et tl hf hp ol PS pf) {r : Nat} (hr3 : r < 3) (hdg : decode cc pc = .ok (.getfield 58, 3)) (kk : W p l e R s m args below meth c H locs cells slots Q (F0 m (pc + 3) ls (.int (ru r 6) :: rest))) : W p l e R s m args below meth c H locs cells slots Q (F0 m pc ls (.ref (ly_f y 0 r) :: rest)) :=
  gk_get hK.1 hK.2.2.1.1 hP (k := 6) (hR.2.2.1 r hr3) rfl inlX3 (by decide) q_9_14 (fun _ h => h) rfl hdg kk
theorem tw_58 (hK : gk_K p s m c args cc RX4 nL y A) (hP : gk_P (ly_D y) A G H) (hS : va_S A s.heap H locs) (hR : rp y G td ru fr lv lt et tl hf hp ol PS pf) {r : Nat} (hr3 : r < 3) {v : Int32} (hdg : decode cc pc = .ok (.putfield 58, 3))
    (kk : ∀ (H1 : Heap) (locs1 : List Loc) (G1 : gk_G), gk_P (ly_D y) A G1 H1 → va_S A s.heap H1 locs1 → rp y G1 td (rp_u2 ru r 6 v) fr lv lt et tl hf hp ol PS pf → W p l e R s m args below meth c H1 locs1 cells slots Q (F0 m (pc + 3) ls rest)) : W p l e R s m args below meth c H locs cells slots Q (F0 m pc ls (.int v :: .ref (ly_f y 0 r) :: rest)) := by
  obtain ⟨hA, hB, hRr, hF, hH, hL, hSs, hO, hM⟩ := hR
  have hG := hRr r hr3
  have hR := hRr
  have hSp := hS
  refine gk_put hK.1 hK.2.2.1.1 hP hS (k := 6) hG rfl inlX3 tyX3 tyX3_ok nmX3 (by decide) q_9_14 (fun _ h => h) rfl rfl rfl (Nat.lt_of_lt_of_le (Nat.lt_succ_self 6) (Nat.le_of_ble_eq_true rfl)) hdg (fun H1 locs1 P1 S1 => kk H1 locs1 _ P1 S1 ?_)
  have hS := hSs
  exact ⟨rpA_keep hA (rp_off_of hG (by show 4 ≠ 5; decide)), rpB_keep hB (rp_off_of hG (by show 4 ≠ 14; decide)), (rpR_put hR hr3 (by simp [rp_eR, rp_u2]) (fun k hk => by funext j; simp [rp_u2, hk])), rpF_keep hF (rp_off_of hG (by show 4 ≠ 2; decide)), rpH_keep hH (rp_off_of hG (by show 4 ≠ 1; decide)), rpL_keep hL (rp_off_of hG (by show 4 ≠ 0; decide)) (rp_off_of hG (by show 4 ≠ 14; decide)), rpS_keep hS (rp_off_of hG (by show 4 ≠ 3; decide)), trivial, trivial⟩
theorem tr_61 (hK : gk_K p s m c args cc RX4 nL y A) (hP : gk_P (ly_D y) A G H) (hR : rp y G td ru fr lv lt et tl hf hp ol PS pf) {r : Nat} (hr3 : r < 3) (hdg : decode cc pc = .ok (.getfield 61, 3)) (kk : W p l e R s m args below meth c H locs cells slots Q (F0 m (pc + 3) ls (.int (ru r 7) :: rest))) : W p l e R s m args below meth c H locs cells slots Q (F0 m pc ls (.ref (ly_f y 0 r) :: rest)) :=
  gk_get hK.1 hK.2.2.1.1 hP (k := 7) (hR.2.2.1 r hr3) rfl inlX3 (by decide) q_5_12 (fun _ h => h) rfl hdg kk
theorem tw_61 (hK : gk_K p s m c args cc RX4 nL y A) (hP : gk_P (ly_D y) A G H) (hS : va_S A s.heap H locs) (hR : rp y G td ru fr lv lt et tl hf hp ol PS pf) {r : Nat} (hr3 : r < 3) {v : Int32} (hb : v = 0 ∨ v = 1) (hdg : decode cc pc = .ok (.putfield 61, 3))
    (kk : ∀ (H1 : Heap) (locs1 : List Loc) (G1 : gk_G), gk_P (ly_D y) A G1 H1 → va_S A s.heap H1 locs1 → rp y G1 td (rp_u2 ru r 7 v) fr lv lt et tl hf hp ol PS pf → W p l e R s m args below meth c H1 locs1 cells slots Q (F0 m (pc + 3) ls rest)) : W p l e R s m args below meth c H locs cells slots Q (F0 m pc ls (.int v :: .ref (ly_f y 0 r) :: rest)) := by
  obtain ⟨hA, hB, hRr, hF, hH, hL, hSs, hO, hM⟩ := hR
  have hG := hRr r hr3
  have hR := hRr
  have hSp := hS
  refine gk_put hK.1 hK.2.2.1.1 hP hS (k := 7) hG rfl inlX3 tyX3 tyX3_ok nmX3 (by decide) q_5_12 (fun _ h => h) rfl (rp_nz hb).1 (rp_nz hb).2.1 (Nat.lt_of_lt_of_le (Nat.lt_succ_self 7) (Nat.le_of_ble_eq_true rfl)) hdg (fun H1 locs1 P1 S1 => kk H1 locs1 _ P1 S1 ?_)
  have hS := hSs
  exact ⟨rpA_keep hA (rp_off_of hG (by show 4 ≠ 5; decide)), rpB_keep hB (rp_off_of hG (by show 4 ≠ 14; decide)), (rpR_put hR hr3 (by simp [rp_eR, rp_u2]) (fun k hk => by funext j; simp [rp_u2, hk])), rpF_keep hF (rp_off_of hG (by show 4 ≠ 2; decide)), rpH_keep hH (rp_off_of hG (by show 4 ≠ 1; decide)), rpL_keep hL (rp_off_of hG (by show 4 ≠ 0; decide)) (rp_off_of hG (by show 4 ≠ 14; decide)), rpS_keep hS (rp_off_of hG (by show 4 ≠ 3; decide)), trivial, trivial⟩
theorem tr_65 (hK : gk_K p s m c args cc RX4 nL y A) (hP : gk_P (ly_D y) A G H) (hR : rp y G td ru fr lv lt et tl hf hp ol PS pf) {r : Nat} (hr3 : r < 3) (hdg : decode cc pc = .ok (.getfield 65, 3)) (kk : W p l e R s m args below meth c H locs cells slots Q (F0 m (pc + 3) ls (.int (ru r 8) :: rest))) : W p l e R s m args below meth c H locs cells slots Q (F0 m pc ls (.ref (ly_f y 0 r) :: rest)) :=
  gk_get hK.1 hK.2.2.1.1 hP (k := 8) (hR.2.2.1 r hr3) rfl inlX3 (by decide) q_11_12 (fun _ h => h) rfl hdg kk
theorem tw_65 (hK : gk_K p s m c args cc RX4 nL y A) (hP : gk_P (ly_D y) A G H) (hS : va_S A s.heap H locs) (hR : rp y G td ru fr lv lt et tl hf hp ol PS pf) {r : Nat} (hr3 : r < 3) {v : Int32} (hb : v = 0 ∨ v = 1) (hdg : decode cc pc = .ok (.putfield 65, 3))
    (kk : ∀ (H1 : Heap) (locs1 : List Loc) (G1 : gk_G), gk_P (ly_D y) A G1 H1 → va_S A s.heap H1 locs1 → rp y G1 td (rp_u2 ru r 8 v) fr lv lt et tl hf hp ol PS pf → W p l e R s m args below meth c H1 locs1 cells slots Q (F0 m (pc + 3) ls rest)) : W p l e R s m args below meth c H locs cells slots Q (F0 m pc ls (.int v :: .ref (ly_f y 0 r) :: rest)) := by
  obtain ⟨hA, hB, hRr, hF, hH, hL, hSs, hO, hM⟩ := hR
  have hG := hRr r hr3
  have hR := hRr
  have hSp := hS
  refine gk_put hK.1 hK.2.2.1.1 hP hS (k := 8) hG rfl inlX3 tyX3 tyX3_ok nmX3 (by decide) q_11_12 (fun _ h => h) rfl (rp_nz hb).1 (rp_nz hb).2.1 (Nat.lt_of_lt_of_le (Nat.lt_succ_self 8) (Nat.le_of_ble_eq_true rfl)) hdg (fun H1 locs1 P1 S1 => kk H1 locs1 _ P1 S1 ?_)
  have hS := hSs
  exact ⟨rpA_keep hA (rp_off_of hG (by show 4 ≠ 5; decide)), rpB_keep hB (rp_off_of hG (by show 4 ≠ 14; decide)), (rpR_put hR hr3 (by simp [rp_eR, rp_u2]) (fun k hk => by funext j; simp [rp_u2, hk])), rpF_keep hF (rp_off_of hG (by show 4 ≠ 2; decide)), rpH_keep hH (rp_off_of hG (by show 4 ≠ 1; decide)), rpL_keep hL (rp_off_of hG (by show 4 ≠ 0; decide)) (rp_off_of hG (by show 4 ≠ 14; decide)), rpS_keep hS (rp_off_of hG (by show 4 ≠ 3; decide)), trivial, trivial⟩
theorem tr_68 (hK : gk_K p s m c args cc RX4 nL y A) (hP : gk_P (ly_D y) A G H) (hR : rp y G td ru fr lv lt et tl hf hp ol PS pf) {r : Nat} (hr3 : r < 3) (hdg : decode cc pc = .ok (.getfield 68, 3)) (kk : W p l e R s m args below meth c H locs cells slots Q (F0 m (pc + 3) ls (.int (ru r 9) :: rest))) : W p l e R s m args below meth c H locs cells slots Q (F0 m pc ls (.ref (ly_f y 0 r) :: rest)) :=
  gk_get hK.1 hK.2.2.1.1 hP (k := 9) (hR.2.2.1 r hr3) rfl inlX3 (by decide) q_4_3 (fun _ h => h) rfl hdg kk
theorem tw_68 (hK : gk_K p s m c args cc RX4 nL y A) (hP : gk_P (ly_D y) A G H) (hS : va_S A s.heap H locs) (hR : rp y G td ru fr lv lt et tl hf hp ol PS pf) {r : Nat} (hr3 : r < 3) {v : Int32} (hb : v = 0 ∨ v = 1) (hdg : decode cc pc = .ok (.putfield 68, 3))
    (kk : ∀ (H1 : Heap) (locs1 : List Loc) (G1 : gk_G), gk_P (ly_D y) A G1 H1 → va_S A s.heap H1 locs1 → rp y G1 td (rp_u2 ru r 9 v) fr lv lt et tl hf hp ol PS pf → W p l e R s m args below meth c H1 locs1 cells slots Q (F0 m (pc + 3) ls rest)) : W p l e R s m args below meth c H locs cells slots Q (F0 m pc ls (.int v :: .ref (ly_f y 0 r) :: rest)) := by
  obtain ⟨hA, hB, hRr, hF, hH, hL, hSs, hO, hM⟩ := hR
  have hG := hRr r hr3
  have hR := hRr
  have hSp := hS
  refine gk_put hK.1 hK.2.2.1.1 hP hS (k := 9) hG rfl inlX3 tyX3 tyX3_ok nmX3 (by decide) q_4_3 (fun _ h => h) rfl (rp_nz hb).1 (rp_nz hb).2.1 (Nat.lt_of_lt_of_le (Nat.lt_succ_self 9) (Nat.le_of_ble_eq_true rfl)) hdg (fun H1 locs1 P1 S1 => kk H1 locs1 _ P1 S1 ?_)
  have hS := hSs
  exact ⟨rpA_keep hA (rp_off_of hG (by show 4 ≠ 5; decide)), rpB_keep hB (rp_off_of hG (by show 4 ≠ 14; decide)), (rpR_put hR hr3 (by simp [rp_eR, rp_u2]) (fun k hk => by funext j; simp [rp_u2, hk])), rpF_keep hF (rp_off_of hG (by show 4 ≠ 2; decide)), rpH_keep hH (rp_off_of hG (by show 4 ≠ 1; decide)), rpL_keep hL (rp_off_of hG (by show 4 ≠ 0; decide)) (rp_off_of hG (by show 4 ≠ 14; decide)), rpS_keep hS (rp_off_of hG (by show 4 ≠ 3; decide)), trivial, trivial⟩
theorem tr_86 (hK : gk_K p s m c args cc RX4 nL y A) (hP : gk_P (ly_D y) A G H) (hR : rp y G td ru fr lv lt et tl hf hp ol PS pf) {h : Nat} (hh4 : h < 4) (hdg : decode cc pc = .ok (.getfield 86, 3)) (kk : W p l e R s m args below meth c H locs cells slots Q (F0 m (pc + 3) ls (va_rf ((hf h).map (ly_f y 1)) :: rest))) : W p l e R s m args below meth c H locs cells slots Q (F0 m pc ls (.ref (ly_f y 2 h) :: rest)) :=
  gk_get hK.1 hK.2.2.1.1 hP (k := 0) ((hR.2.2.2.2.1.1 h hh4).2) rfl inlX0 (by decide) q_10_9 (fun _ h => h) rfl hdg kk
theorem tr_94 (hK : gk_K p s m c args cc RX4 nL y A) (hP : gk_P (ly_D y) A G H) (hR : rp y G td ru fr lv lt et tl hf hp ol PS pf) {h : Nat} (hh4 : h < 4) (hdg : decode cc pc = .ok (.getfield 94, 3)) (kk : W p l e R s m args below meth c H locs cells slots Q (F0 m (pc + 3) ls (va_rf (hp h) :: rest))) : W p l e R s m args below meth c H locs cells slots Q (F0 m pc ls (.ref (ly_f y 2 h) :: rest)) :=
  gk_get hK.1 hK.2.2.1.1 hP (k := 1) ((hR.2.2.2.2.1.1 h hh4).2) rfl inlX0 (by decide) q_9_4 (fun _ h => h) rfl hdg kk
theorem tw_86 (hK : gk_K p s m c args cc RX4 nL y A) (hP : gk_P (ly_D y) A G H) (hS : va_S A s.heap H locs) (hR : rp y G td ru fr lv lt et tl hf hp ol PS pf) {h : Nat} (hh4 : h < 4) (o : Option Nat) (ho : ∀ f, o = some f → f < 5) (hdg : decode cc pc = .ok (.putfield 86, 3))
    (kk : ∀ (H1 : Heap) (locs1 : List Loc) (G1 : gk_G), gk_P (ly_D y) A G1 H1 → va_S A s.heap H1 locs1 → rp y G1 td ru fr lv lt et tl (va_up hf h o) hp ol PS pf → W p l e R s m args below meth c H1 locs1 cells slots Q (F0 m (pc + 3) ls rest)) : W p l e R s m args below meth c H locs cells slots Q (F0 m pc ls (va_rf (o.map (ly_f y 1)) :: .ref (ly_f y 2 h) :: rest)) := by
  obtain ⟨hA, hB, hRr, hF, hH, hL, hSs, hO, hM⟩ := hR
  have hG := (hH.1 h hh4).2
  have hR := hRr
  have hSp := hS
  refine gk_put hK.1 hK.2.2.1.1 hP hS (k := 0) hG rfl inlX0 tyX0 tyX0_ok nmX0 (by decide) q_10_9 (fun _ h => h) rfl rp_nq.1 rp_nq.2 (Nat.lt_of_lt_of_le (Nat.lt_succ_self 0) (Nat.le_of_ble_eq_true rfl)) hdg (fun H1 locs1 P1 S1 => kk H1 locs1 _ P1 S1 ?_)
  have hS := hSs
  exact ⟨rpA_keep hA (rp_off_of hG (by show 1 ≠ 5; decide)), rpB_keep hB (rp_off_of hG (by show 1 ≠ 14; decide)), rpR_keep hR (rp_off_of hG (by show 1 ≠ 4; decide)), rpF_keep hF (rp_off_of hG (by show 1 ≠ 2; decide)), (rpH_put hH hh4 (by rw [va_up_self]; exact ho) (by simp only [rp_eH, va_up_self]; rfl) (fun k hk => ⟨va_up_ne _ _ hk, rfl⟩)), rpL_keep hL (rp_off_of hG (by show 1 ≠ 0; decide)) (rp_off_of hG (by show 1 ≠ 14; decide)), rpS_keep hS (rp_off_of hG (by show 1 ≠ 3; decide)), trivial, trivial⟩
theorem tw_94 (hK : gk_K p s m c args cc RX4 nL y A) (hP : gk_P (ly_D y) A G H) (hS : va_S A s.heap H locs) (hR : rp y G td ru fr lv lt et tl hf hp ol PS pf) {h : Nat} (hh4 : h < 4) (o : Option Nat) (hdg : decode cc pc = .ok (.putfield 94, 3))
    (kk : ∀ (H1 : Heap) (locs1 : List Loc) (G1 : gk_G), gk_P (ly_D y) A G1 H1 → va_S A s.heap H1 locs1 → rp y G1 td ru fr lv lt et tl hf (va_up hp h o) ol PS pf → W p l e R s m args below meth c H1 locs1 cells slots Q (F0 m (pc + 3) ls rest)) : W p l e R s m args below meth c H locs cells slots Q (F0 m pc ls (va_rf o :: .ref (ly_f y 2 h) :: rest)) := by
  obtain ⟨hA, hB, hRr, hF, hH, hL, hSs, hO, hM⟩ := hR
  have hG := (hH.1 h hh4).2
  have hR := hRr
  have hSp := hS
  refine gk_put hK.1 hK.2.2.1.1 hP hS (k := 1) hG rfl inlX0 tyX0 tyX0_ok nmX0 (by decide) q_9_4 (fun _ h => h) rfl rp_nq.1 rp_nq.2 (Nat.lt_of_lt_of_le (Nat.lt_succ_self 1) (Nat.le_of_ble_eq_true rfl)) hdg (fun H1 locs1 P1 S1 => kk H1 locs1 _ P1 S1 ?_)
  have hS := hSs
  exact ⟨rpA_keep hA (rp_off_of hG (by show 1 ≠ 5; decide)), rpB_keep hB (rp_off_of hG (by show 1 ≠ 14; decide)), rpR_keep hR (rp_off_of hG (by show 1 ≠ 4; decide)), rpF_keep hF (rp_off_of hG (by show 1 ≠ 2; decide)), (rpH_put hH hh4 (hH.1 h hh4).1 (by simp only [rp_eH, va_up_self]; rfl) (fun k hk => ⟨rfl, va_up_ne _ _ hk⟩)), rpL_keep hL (rp_off_of hG (by show 1 ≠ 0; decide)) (rp_off_of hG (by show 1 ≠ 14; decide)), rpS_keep hS (rp_off_of hG (by show 1 ≠ 3; decide)), trivial, trivial⟩
theorem tr_104 (hK : gk_K p s m c args cc RX4 nL y A) (hP : gk_P (ly_D y) A G H) (hR : rp y G td ru fr lv lt et tl hf hp ol PS pf) {t : Nat} (ht : PS t) (hdg : decode cc pc = .ok (.getfield 104, 3)) (kk : W p l e R s m args below meth c H locs cells slots Q (F0 m (pc + 3) ls (.int (pf 0 t) :: rest))) : W p l e R s m args below meth c H locs cells slots Q (F0 m pc ls (.ref t :: rest)) :=
  gk_get hK.1 hK.2.2.1.1 hP (k := 0) (hR.2.2.2.2.2.2.1 t ht) rfl inlX2 (by decide) q_4_9 (fun _ h => h) rfl hdg kk
theorem tw_104 (hK : gk_K p s m c args cc RX4 nL y A) (hP : gk_P (ly_D y) A G H) (hS : va_S A s.heap H locs) (hR : rp y G td ru fr lv lt et tl hf hp ol PS pf) {t : Nat} (ht : PS t) {v : Int32} (hdg : decode cc pc = .ok (.putfield 104, 3))
    (kk : ∀ (H1 : Heap) (locs1 : List Loc) (G1 : gk_G), gk_P (ly_D y) A G1 H1 → va_S A s.heap H1 locs1 → rp y G1 td ru fr lv lt et tl hf hp ol PS (rp_u2 pf 0 t v) → W p l e R s m args below meth c H1 locs1 cells slots Q (F0 m (pc + 3) ls rest)) : W p l e R s m args below meth c H locs cells slots Q (F0 m pc ls (.int v :: .ref t :: rest)) := by
  obtain ⟨hA, hB, hRr, hF, hH, hL, hSs, hO, hM⟩ := hR
  have hG := hSs t ht
  have hR := hRr
  have hSp := hS
  refine gk_put hK.1 hK.2.2.1.1 hP hS (k := 0) hG rfl inlX2 tyX2 tyX2_ok nmX2 (by decide) q_4_9 (fun _ h => h) rfl rfl rfl (Nat.lt_of_lt_of_le (Nat.lt_succ_self 0) (Nat.le_of_ble_eq_true rfl)) hdg (fun H1 locs1 P1 S1 => kk H1 locs1 _ P1 S1 ?_)
  have hS := hSs
  exact ⟨rpA_keep hA (rp_off_of hG (by show 3 ≠ 5; decide)), rpB_keep hB (rp_off_of hG (by show 3 ≠ 14; decide)), rpR_keep hR (rp_off_of hG (by show 3 ≠ 4; decide)), rpF_keep hF (rp_off_of hG (by show 3 ≠ 2; decide)), rpH_keep hH (rp_off_of hG (by show 3 ≠ 1; decide)), rpL_keep hL (rp_off_of hG (by show 3 ≠ 0; decide)) (rp_off_of hG (by show 3 ≠ 14; decide)), (rpS_put hS (by simp [rp_eS, rp_u2]) (fun k j hj => by simp [rp_u2, hj])), trivial, trivial⟩
theorem tr_150 (hK : gk_K p s m c args cc RX4 nL y A) (hP : gk_P (ly_D y) A G H) (hR : rp y G td ru fr lv lt et tl hf hp ol PS pf) {t : Nat} (ht : PS t) (hdg : decode cc pc = .ok (.getfield 150, 3)) (kk : W p l e R s m args below meth c H locs cells slots Q (F0 m (pc + 3) ls (.int (pf 1 t) :: rest))) : W p l e R s m args below meth c H locs cells slots Q (F0 m pc ls (.ref t :: rest)) :=
  gk_get hK.1 hK.2.2.1.1 hP (k := 1) (hR.2.2.2.2.2.2.1 t ht) rfl inlX2 (by decide) q_5_10 (fun _ h => h) rfl hdg kk
theorem tw_150 (hK : gk_K p s m c args cc RX4 nL y A) (hP : gk_P (ly_D y) A G H) (hS : va_S A s.heap H locs) (hR : rp y G td ru fr lv lt et tl hf hp ol PS pf) {t : Nat} (ht : PS t) {v : Int32} (hdg : decode cc pc = .ok (.putfield 150, 3))
    (kk : ∀ (H1 : Heap) (locs1 : List Loc) (G1 : gk_G), gk_P (ly_D y) A G1 H1 → va_S A s.heap H1 locs1 → rp y G1 td ru fr lv lt et tl hf hp ol PS (rp_u2 pf 1 t v) → W p l e R s m args below meth c H1 locs1 cells slots Q (F0 m (pc + 3) ls rest)) : W p l e R s m args below meth c H locs cells slots Q (F0 m pc ls (.int v :: .ref t :: rest)) := by
  obtain ⟨hA, hB, hRr, hF, hH, hL, hSs, hO, hM⟩ := hR
  have hG := hSs t ht
  have hR := hRr
  have hSp := hS
  refine gk_put hK.1 hK.2.2.1.1 hP hS (k := 1) hG rfl inlX2 tyX2 tyX2_ok nmX2 (by decide) q_5_10 (fun _ h => h) rfl rfl rfl (Nat.lt_of_lt_of_le (Nat.lt_succ_self 1) (Nat.le_of_ble_eq_true rfl)) hdg (fun H1 locs1 P1 S1 => kk H1 locs1 _ P1 S1 ?_)
  have hS := hSs
  exact ⟨rpA_keep hA (rp_off_of hG (by show 3 ≠ 5; decide)), rpB_keep hB (rp_off_of hG (by show 3 ≠ 14; decide)), rpR_keep hR (rp_off_of hG (by show 3 ≠ 4; decide)), rpF_keep hF (rp_off_of hG (by show 3 ≠ 2; decide)), rpH_keep hH (rp_off_of hG (by show 3 ≠ 1; decide)), rpL_keep hL (rp_off_of hG (by show 3 ≠ 0; decide)) (rp_off_of hG (by show 3 ≠ 14; decide)), (rpS_put hS (by simp [rp_eS, rp_u2]) (fun k j hj => by simp [rp_u2, hj])), trivial, trivial⟩
theorem tr_157 (hK : gk_K p s m c args cc RX4 nL y A) (hP : gk_P (ly_D y) A G H) (hR : rp y G td ru fr lv lt et tl hf hp ol PS pf) {t : Nat} (ht : PS t) (hdg : decode cc pc = .ok (.getfield 157, 3)) (kk : W p l e R s m args below meth c H locs cells slots Q (F0 m (pc + 3) ls (.int (pf 2 t) :: rest))) : W p l e R s m args below meth c H locs cells slots Q (F0 m pc ls (.ref t :: rest)) :=
  gk_get hK.1 hK.2.2.1.1 hP (k := 2) (hR.2.2.2.2.2.2.1 t ht) rfl inlX2 (by decide) q_8_7 (fun _ h => h) rfl hdg kk
theorem tw_157 (hK : gk_K p s m c args cc RX4 nL y A) (hP : gk_P (ly_D y) A G H) (hS : va_S A s.heap H locs) (hR : rp y G td ru fr lv lt et tl hf hp ol PS pf) {t : Nat} (ht : PS t) {v : Int32} (hb : v = 0 ∨ v = 1) (hdg : decode cc pc = .ok (.putfield 157, 3))
    (kk : ∀ (H1 : Heap) (locs1 : List Loc) (G1 : gk_G), gk_P (ly_D y) A G1 H1 → va_S A s.heap H1 locs1 → rp y G1 td ru fr lv lt et tl hf hp ol PS (rp_u2 pf 2 t v) → W p l e R s m args below meth c H1 locs1 cells slots Q (F0 m (pc + 3) ls rest)) : W p l e R s m args below meth c H locs cells slots Q (F0 m pc ls (.int v :: .ref t :: rest)) := by
  obtain ⟨hA, hB, hRr, hF, hH, hL, hSs, hO, hM⟩ := hR
  have hG := hSs t ht
  have hR := hRr
  have hSp := hS
  refine gk_put hK.1 hK.2.2.1.1 hP hS (k := 2) hG rfl inlX2 tyX2 tyX2_ok nmX2 (by decide) q_8_7 (fun _ h => h) rfl (rp_nz hb).1 (rp_nz hb).2.1 (Nat.lt_of_lt_of_le (Nat.lt_succ_self 2) (Nat.le_of_ble_eq_true rfl)) hdg (fun H1 locs1 P1 S1 => kk H1 locs1 _ P1 S1 ?_)
  have hS := hSs
  exact ⟨rpA_keep hA (rp_off_of hG (by show 3 ≠ 5; decide)), rpB_keep hB (rp_off_of hG (by show 3 ≠ 14; decide)), rpR_keep hR (rp_off_of hG (by show 3 ≠ 4; decide)), rpF_keep hF (rp_off_of hG (by show 3 ≠ 2; decide)), rpH_keep hH (rp_off_of hG (by show 3 ≠ 1; decide)), rpL_keep hL (rp_off_of hG (by show 3 ≠ 0; decide)) (rp_off_of hG (by show 3 ≠ 14; decide)), (rpS_put hS (by simp [rp_eS, rp_u2]) (fun k j hj => by simp [rp_u2, hj])), trivial, trivial⟩
theorem ta_rules (hK : gk_K p s m c args cc own nL y A) (hP : gk_P (ly_D y) A G H) (hR : rp y G td ru fr lv lt et tl hf hp ol PS pf) {i : Nat} (hi : i < 3) (hdg : decode cc pc = .ok (.aaload, 1)) (kk : W p l e R s m args below meth c H locs cells slots Q (F0 m (pc + 1) ls (.ref (ly_f y 0 i) :: rest))) : W p l e R s m args below meth c H locs cells slots Q (F0 m pc ls (.int (nI i) :: .ref (ly_a y 1) :: rest)) := by
  obtain ⟨g, h1, h2⟩ := hR.2.1.1
  refine gk_aald hK.1 hK.2.2.1.1 hP 3 (C := RX3) h1 rfl (vp_in_nI hi (by decide)) hdg ?_
  rw [nI_clamp (Nat.lt_trans hi (by decide)), h2 i hi]
  exact kk
theorem ta_files (hK : gk_K p s m c args cc own nL y A) (hP : gk_P (ly_D y) A G H) (hR : rp y G td ru fr lv lt et tl hf hp ol PS pf) {i : Nat} (hi : i < 5) (hdg : decode cc pc = .ok (.aaload, 1)) (kk : W p l e R s m args below meth c H locs cells slots Q (F0 m (pc + 1) ls (.ref (ly_f y 1 i) :: rest))) : W p l e R s m args below meth c H locs cells slots Q (F0 m pc ls (.int (nI i) :: .ref (ly_a y 2) :: rest)) := by
  obtain ⟨g, h1, h2⟩ := hR.2.1.2.1
  refine gk_aald hK.1 hK.2.2.1.1 hP 4 (C := RX1) h1 rfl (vp_in_nI hi (by decide)) hdg ?_
  rw [nI_clamp (Nat.lt_trans hi (by decide)), h2 i hi]
  exact kk
theorem ta_holders (hK : gk_K p s m c args cc own nL y A) (hP : gk_P (ly_D y) A G H) (hR : rp y G td ru fr lv lt et tl hf hp ol PS pf) {i : Nat} (hi : i < 4) (hdg : decode cc pc = .ok (.aaload, 1)) (kk : W p l e R s m args below meth c H locs cells slots Q (F0 m (pc + 1) ls (.ref (ly_f y 2 i) :: rest))) : W p l e R s m args below meth c H locs cells slots Q (F0 m pc ls (.int (nI i) :: .ref (ly_a y 3) :: rest)) := by
  obtain ⟨g, h1, h2⟩ := hR.2.1.2.2
  refine gk_aald hK.1 hK.2.2.1.1 hP 5 (C := RX0) h1 rfl (vp_in_nI hi (by decide)) hdg ?_
  rw [nI_clamp (Nat.lt_trans hi (by decide)), h2 i hi]
  exact kk
end RPW
