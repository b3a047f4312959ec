/-! the class: the turn of a file -/
theorem gk_obj {p : Program} {l : Launch} {e : Env} {R : Room} {s : State} {m : MethodId} {args : Array Value} {below : List Frame} {meth : Method} {c : Code} {H : Heap} {locs : List Loc} {cells slots : Nat} {Q : State → Prop} {cc : ByteArray} {pc nL idx a : Nat} {ls : Array Slot} {rest : List Value} {A : Nat → Prop} {own : String} {y : ly_T}
    (hK : gk_K p s m c args cc own nL y A) (hl : Cond.methodLink own idx objectInit ∈ wsL_law) (hsz : ls.size = nL) (hR : 1 ≤ R.frames ∧ 20 ≤ R.locals) (hW : (rest.map fun v => v.category).sum ≤ 8) (hdg : decode cc pc = .ok (.invokespecial idx, 3))
    (kk : W p l e R s m args below meth c H locs cells slots Q (F0 m (pc + 3) ls rest)) : W p l e R s m args below meth c H locs cells slots Q (F0 m pc ls (.ref a :: rest)) :=
  W.objInit hK.1.1 hK.1.2.1 hK.1.2.2.1 (hK.1.2.2.2 _ hl) (hK.1.2.2.2 _ q_1_9) (hK.1.2.2.2 _ q_1_10) rfl (hsz.trans hK.2.1.symm) rfl hdg hR.1 (by have : (F0 m pc ls (.ref a :: rest)).monitorRoom = 0 := rfl; omega) kk
theorem rp_newp {y : ly_T} {G : gk_G} {td : Int32} {ru : Nat → Nat → Int32} {fr lv : Nat → Nat} {lt et tl : Nat → Int32} {hf hp : Nat → Option Nat} {ol : Nat → List Nat} {PS : Nat → Prop} {pf : Nat → Nat → Int32} {q : Nat} (hR : rp y G td ru fr lv lt et tl hf hp ol PS pf) (hn : G q = none) : rp y (gk_up G q (.inr (3, [.int 0, .int 0, .int 0]))) td ru fr lv lt et tl hf hp ol (fun t => PS t ∨ t = q) (fun i t => if t = q then 0 else pf i t) := by
  obtain ⟨hA, hB, hRr, hF, hH, hL, hS, hO, hM⟩ := hR
  refine ⟨rpA_keep hA (rp_off_n hn), rpB_keep hB (rp_off_n hn), rpR_keep hRr (rp_off_n hn), rpF_keep hF (rp_off_n hn), rpH_keep hH (rp_off_n hn), rpL_keep hL (rp_off_n hn) (rp_off_n hn), fun t ht => ?_, trivial, trivial⟩
  by_cases hq : t = q
  · subst hq
    rw [gk_us]
    simp [rp_eS]
  · rw [gk_un _ _ hq, hS t (ht.resolve_right hq)]
    simp [rp_eS, hq]
set_option maxHeartbeats 4000000 in
set_option maxRecDepth 100000 in
theorem c_X2_init (l : Launch) {y : ly_T} {A : Nat → Prop} {G : gk_G} {q : Nat} : gk_M0 l yX2_init (Cond.code yX2_init cX2_init 1 none) 1 20 0 0 y A [.ref q] G (fun v G1 => v = none ∧ G1 = G) := by
  refine gk_of0 (cc := cX2_init) (maxL := 1) (ret := none) (own := RX2) (by decide +kernel) rfl rfl (Nat.le_of_ble_eq_true rfl) ?_
  intro p e s m below meth c ls hK hret hlk _ hP hS hl
  have hl : lv_has ls 1 [(0, .ref q)] := hl
  refine lv_aload_n hK.1.1 hK.1.2.1 dX2_init_0 rfl (lv_at hl 0 rfl) ?_
  refine gk_obj hK q_3_14 hl.1 ⟨(Nat.le_of_ble_eq_true rfl), (Nat.le_of_ble_eq_true rfl)⟩ (Nat.le_of_ble_eq_true rfl) dX2_init_1 ?_
  exact gk_vret0 hK.1 hret hlk hP hS (Nat.le_of_ble_eq_true rfl) (Nat.le_of_ble_eq_true rfl) dX2_init_4 ⟨rfl, rfl⟩
/-- the parts' fields behind a turn of f on the day td; q is the new live part -/
def t_tpf (td : Int32) (ru : Nat → Nat → Int32) (fr lv : Nat → Nat) (hp : Nat → Option Nat) (ol : Nat → List Nat) (pf : Nat → Nat → Int32) (f q : Nat) : Nat → Nat → Int32 := if ru (fr f) 7 = 0 then (fun i t => if t = q then 0 else rp_u2 pf 1 (lv f) td i t) else t_sq hp (fun i t => if t = q then 0 else rp_u2 pf 1 (lv f) td i t) (ol f)
/-- which old parts go at a turn of f -/
def t_tgo (td : Int32) (ru : Nat → Nat → Int32) (fr lv : Nat → Nat) (hp : Nat → Option Nat) (ol : Nat → List Nat) (pf : Nat → Nat → Int32) (f q : Nat) : Nat → Nat → Bool := t_goF td (t_tpf td ru fr lv hp ol pf f q) hp (ru (fr f) 4) (ru (fr f) 5) (ru (fr f) 6)
def t_tth (td : Int32) (ru : Nat → Nat → Int32) (fr lv : Nat → Nat) (hp : Nat → Option Nat) (ol : Nat → List Nat) (pf : Nat → Nat → Int32) (f q : Nat) : List Nat := t_th (t_tgo td ru fr lv hp ol pf f q) (ol f ++ [lv f]).length (ol f ++ [lv f])
def t_tkp (td : Int32) (ru : Nat → Nat → Int32) (fr lv : Nat → Nat) (hp : Nat → Option Nat) (ol : Nat → List Nat) (pf : Nat → Nat → Int32) (f q : Nat) : List Nat := t_kp (t_tgo td ru fr lv hp ol pf f q) (ol f ++ [lv f]).length (ol f ++ [lv f])
set_option maxHeartbeats 4000000 in
set_option maxRecDepth 100000 in
theorem c_X4_turnToday (l : Launch) {y : ly_T} {A : Nat → Prop} {G : gk_G} {td : Int32} {ru : Nat → Nat → Int32} {fr lv : Nat → Nat} {lt et tl : Nat → Int32} {hf hp : Nat → Option Nat} {ol : Nat → List Nat} {PS : Nat → Prop} {pf : Nat → Nat → Int32} {f : Nat}  (hR : rp y G td ru fr lv lt et tl hf hp ol PS pf) (hf5 : f < 5) (hLl : ∀ f, f < 5 → PS (lv f)) (hin : ∀ q ∈ ol f, PS q) (hlen : (ol f).length < 512) : gk_M0 l yX4_turnToday (Cond.code yX4_turnToday cX4_turnToday 3 (some .int)) 7 240 2 1503 y A [.ref (ly_a y 0), .ref (ly_f y 1 f)] G (fun v G1 => ∃ q, ¬ PS q ∧ v = some (.int (nI (t_tth td ru fr lv hp ol pf f q).length)) ∧ rp y G1 td ru fr (va_up lv f q) (va_up lt f td) (va_up et f 1) (va_up tl f (t_sum (t_tpf td ru fr lv hp ol pf f q) (tl f) (t_tth td ru fr lv hp ol pf f q))) hf hp (va_up ol f (t_tkp td ru fr lv hp ol pf f q)) (fun t => PS t ∨ t = q) (t_tpf td ru fr lv hp ol pf f q)) := by
  refine gk_of0 (cc := cX4_turnToday) (maxL := 3) (ret := (some .int)) (own := RX4) (by decide +kernel) rfl rfl (Nat.le_of_ble_eq_true rfl) ?_
  intro p e s m below meth c ls hK hret hlk _ hP hS hl
  have hl : lv_has ls 3 [(0, .ref (ly_a y 0)), (1, .ref (ly_f y 1 f))] := hl
  refine lv_aload_n hK.1.1 hK.1.2.1 dX4_turnToday_0 rfl (lv_at hl 1 rfl) ?_
  refine tr_137 hK hP hR hf5 dX4_turnToday_1 ?_
  refine gk_callV0 (n := 0) (As := []) (rest := []) hK (c_list_size l hR hf5) (gk_gV q_5_13 q_5_14 q_5_15 q_2_13 q_5_16) ⟨rfl, by decide +kernel, by decide +kernel, by decide +kernel⟩ ⟨(Nat.le_of_ble_eq_true rfl), (Nat.le_of_ble_eq_true rfl)⟩ hP hS (rp_recvL hK.2.2.1 hP hR hf5) rfl hl.1 rfl (Nat.le_of_ble_eq_true rfl) dX4_turnToday_4 ⟨(Nat.le_of_ble_eq_true rfl), (Nat.le_of_ble_eq_true rfl)⟩ (fun v G1 H locs hw hP hS => ?_)
  obtain ⟨rfl, hG9⟩ := hw
  rw [hG9] at hP
  refine W.eq (g2 := F0 m 7 ls [.int (nI (ol f).length)]) rfl ?_
  refine lv_sipush (v := 512) hK.1.1 hK.1.2.1 dX4_turnToday_7 (by decide) ?_
  refine lv_icmp_lt (tgt := 15) hK.1.1 hK.1.2.1 dX4_turnToday_10 (by decide) (fun _ => ?_) (fun c => absurd (nI_lt (show (ol f).length < 512 by omega) (by decide)) c)
  refine lv_aload_n hK.1.1 hK.1.2.1 dX4_turnToday_15 rfl (lv_at hl 1 rfl) ?_
  refine tr_90 hK hP hR hf5 dX4_turnToday_16 ?_
  refine lv_astore_n (lv' := [(2, .ref (lv f)), (0, .ref (ly_a y 0)), (1, .ref (ly_f y 1 f))]) hK.1.1 hK.1.2.1 dX4_turnToday_19 rfl hl (by decide) rfl (fun ls hl => ?_)
  refine lv_aload_n hK.1.1 hK.1.2.1 dX4_turnToday_20 rfl (lv_at hl 0 rfl) ?_
  refine lv_aload_n hK.1.1 hK.1.2.1 dX4_turnToday_21 rfl (lv_at hl 1 rfl) ?_
  refine tr_109 hK hP hR dX4_turnToday_22 ?_
  refine tw_150 hK hP hS hR (hLl f hf5) dX4_turnToday_25 (fun H locs G hP hS hR => ?_)
  refine lv_aload_n hK.1.1 hK.1.2.1 dX4_turnToday_28 rfl (lv_at hl 2 rfl) ?_
  refine tr_137 hK hP hR hf5 dX4_turnToday_29 ?_
  refine lv_aload_n hK.1.1 hK.1.2.1 dX4_turnToday_32 rfl (lv_at hl 0 rfl) ?_
  refine gk_callV0 (n := 1) (As := [.ref (lv f)]) (rest := []) hK (c_list_add l hR hf5 hin (hLl f hf5) (by omega)) (gk_gV q_5_18 q_5_19 q_5_20 q_2_13 q_5_21) ⟨rfl, by decide +kernel, by decide +kernel, by decide +kernel⟩ ⟨(Nat.le_of_ble_eq_true rfl), (Nat.le_of_ble_eq_true rfl)⟩ hP hS (rp_recvL hK.2.2.1 hP hR hf5) rfl hl.1 rfl (Nat.le_of_ble_eq_true rfl) dX4_turnToday_33 ⟨(Nat.le_of_ble_eq_true rfl), (Nat.le_of_ble_eq_true rfl)⟩ (fun v G1 H locs hw hP hS => ?_)
  obtain ⟨rfl, hR⟩ := hw
  refine W.eq (g2 := F0 m 36 ls [.int 1]) rfl ?_
  refine lv_pop hK.1.1 hK.1.2.1 dX4_turnToday_36 rfl ?_
  refine lv_aload_n hK.1.1 hK.1.2.1 dX4_turnToday_37 rfl (lv_at hl 2 rfl) ?_
  refine gk_new hK.1 hK.2.2.1.1 hP hS hK.2.2.2 (ci := 3) (C := RX2) (T := TX2) (N := 3) rfl inlX2 tyX2 tyX2_ok q_5_11 q_2_16 q_2_17 (fs := [.int 0, .int 0, .int 0]) (by decide +kernel) (Nat.le_of_ble_eq_true rfl) (Nat.le_of_ble_eq_true rfl) dX4_turnToday_38 (fun q H hn hP hS => ?_)
  have hq9 : ¬ PS q := fun h => by have h8 := hR.2.2.2.2.2.2.1 q h; rw [hn] at h8; cases h8
  have hR := rp_newp hR hn
  refine lv_dup hK.1.1 hK.1.2.1 dX4_turnToday_41 rfl ?_
  refine gk_callIN (n := 0) (As := []) (rest := [.ref q, .ref (ly_f y 1 f)]) hK (c_X2_init l) q_3_13 q_2_17 hK.2.2.1.2.2.1.2.2.1.1 q_3_12 rfl ⟨by decide +kernel, by decide +kernel, by decide +kernel⟩ ⟨(Nat.le_of_ble_eq_true rfl), (Nat.le_of_ble_eq_true rfl)⟩ hP hS rfl hl.1 rfl (Nat.le_of_ble_eq_true rfl) dX4_turnToday_42 ⟨(Nat.le_of_ble_eq_true rfl), (Nat.le_of_ble_eq_true rfl)⟩ (fun v G1 H locs hw hP hS => ?_)
  obtain ⟨rfl, hG9⟩ := hw
  rw [hG9] at hP
  refine W.eq (g2 := F0 m 45 ls [.ref q, .ref (ly_f y 1 f)]) rfl ?_
  refine tw_90 hK hP hS hR hf5 dX4_turnToday_45 (fun H locs G hP hS hR => ?_)
  refine lv_aload_n hK.1.1 hK.1.2.1 dX4_turnToday_48 rfl (lv_at hl 1 rfl) ?_
  refine lv_aload_n hK.1.1 hK.1.2.1 dX4_turnToday_49 rfl (lv_at hl 2 rfl) ?_
  refine gk_callV0 (n := 1) (As := [.ref (ly_f y 1 f)]) (rest := []) hK (c_X4_markTurnedToday l hR (f := f) hf5) (gk_gV q_7_22 q_7_23 q_8_0 q_1_2 q_8_1) ⟨rfl, by decide +kernel, by decide +kernel, by decide +kernel⟩ ⟨(Nat.le_of_ble_eq_true rfl), (Nat.le_of_ble_eq_true rfl)⟩ hP hS (gk_recv hK.2.2.1.1 hP hR.1 rfl) rfl hl.1 rfl (Nat.le_of_ble_eq_true rfl) dX4_turnToday_50 ⟨(Nat.le_of_ble_eq_true rfl), (Nat.le_of_ble_eq_true rfl)⟩ (fun v G1 H locs hw hP hS => ?_)
  obtain ⟨rfl, hR⟩ := hw
  refine W.eq (g2 := F0 m 53 ls []) rfl ?_
  have hin2 : ∀ z ∈ (va_up ol f (ol f ++ [lv f])) f, PS z ∨ z = q := by
    rw [va_up_self]
    intro z hz
    rcases List.mem_append.mp hz with hz | hz
    · exact Or.inl (hin z hz)
    · rw [List.mem_singleton.mp hz]; exact Or.inl (hLl f hf5)
  refine lv_aload_n hK.1.1 hK.1.2.1 dX4_turnToday_53 rfl (lv_at hl 2 rfl) ?_
  refine tr_75 hK hP hR hf5 dX4_turnToday_54 ?_
  refine tr_61 hK hP hR (hR.2.2.2.1 f hf5).1 dX4_turnToday_57 ?_
  refine lv_if_eq (tgt := 71) hK.1.1 hK.1.2.1 dX4_turnToday_60 (by decide) (fun c60_1 => ?_) (fun c60_1 => ?_)
  · have hsq : ru (fr f) 7 = 0 := c60_1
    rw [← show t_tpf td ru fr lv hp ol pf f q = (fun i t => if t = q then 0 else rp_u2 pf 1 (lv f) td i t) from if_pos hsq] at hR
    refine lv_aload_n hK.1.1 hK.1.2.1 dX4_turnToday_71 rfl (lv_at hl 1 rfl) ?_
    refine lv_aload_n hK.1.1 hK.1.2.1 dX4_turnToday_72 rfl (lv_at hl 2 rfl) ?_
    refine gk_callV0 (n := 1) (As := [.ref (ly_f y 1 f)]) (rest := []) hK (c_X4_throwOldParts l hR hf5 (by rw [va_up_self]; simp; omega) hin2) (gk_gV q_9_5 q_9_6 q_9_7 q_1_2 q_9_8) ⟨rfl, by decide +kernel, by decide +kernel, by decide +kernel⟩ ⟨(Nat.le_of_ble_eq_true rfl), (Nat.le_of_ble_eq_true rfl)⟩ hP hS (gk_recv hK.2.2.1.1 hP hR.1 rfl) rfl hl.1 rfl (Nat.le_of_ble_eq_true rfl) dX4_turnToday_73 ⟨(Nat.le_of_ble_eq_true rfl), (Nat.le_of_ble_eq_true rfl)⟩ (fun v G1 H locs hw hP hS => ?_)
    obtain ⟨rfl, hR⟩ := hw
    rw [va_up_self, va_up_up] at hR
    rw [va_up_self]
    refine W.eq (g2 := F0 m 76 ls [.int (nI (t_tth td ru fr lv hp ol pf f q).length)]) rfl ?_
    exact gk_iret0 hK.1 hret hlk hP hS (Nat.le_of_ble_eq_true rfl) (Nat.le_of_ble_eq_true rfl) dX4_turnToday_76 ⟨q, hq9, rfl, hR⟩
  · have hsq : ¬ ru (fr f) 7 = 0 := c60_1
    refine lv_aload_n hK.1.1 hK.1.2.1 dX4_turnToday_63 rfl (lv_at hl 1 rfl) ?_
    refine lv_aload_n hK.1.1 hK.1.2.1 dX4_turnToday_64 rfl (lv_at hl 2 rfl) ?_
    refine tr_137 hK hP hR hf5 dX4_turnToday_65 ?_
    refine gk_callV0 (n := 1) (As := [.ref (ly_f y 3 f)]) (rest := []) hK (c_X4_squeezeOldParts l hR hf5 (n := (ol f).length) (by rw [va_up_self]; simp) (by omega) hin2) (gk_gV q_8_2 q_8_3 q_8_4 q_1_2 q_8_5) ⟨rfl, by decide +kernel, by decide +kernel, by decide +kernel⟩ ⟨(Nat.le_of_ble_eq_true rfl), (Nat.le_of_ble_eq_true rfl)⟩ hP hS (gk_recv hK.2.2.1.1 hP hR.1 rfl) rfl hl.1 rfl (Nat.le_of_ble_eq_true rfl) dX4_turnToday_68 ⟨(Nat.le_of_ble_eq_true rfl), (Nat.le_of_ble_eq_true rfl)⟩ (fun v G1 H locs hw hP hS => ?_)
    obtain ⟨rfl, hR⟩ := hw
    rw [va_up_self, List.take_left] at hR
    rw [← show t_tpf td ru fr lv hp ol pf f q = t_sq hp (fun i t => if t = q then 0 else rp_u2 pf 1 (lv f) td i t) (ol f) from if_neg hsq] at hR
    refine W.eq (g2 := F0 m 71 ls []) rfl ?_
    refine lv_aload_n hK.1.1 hK.1.2.1 dX4_turnToday_71 rfl (lv_at hl 1 rfl) ?_
    refine lv_aload_n hK.1.1 hK.1.2.1 dX4_turnToday_72 rfl (lv_at hl 2 rfl) ?_
    refine gk_callV0 (n := 1) (As := [.ref (ly_f y 1 f)]) (rest := []) hK (c_X4_throwOldParts l hR hf5 (by rw [va_up_self]; simp; omega) hin2) (gk_gV q_9_5 q_9_6 q_9_7 q_1_2 q_9_8) ⟨rfl, by decide +kernel, by decide +kernel, by decide +kernel⟩ ⟨(Nat.le_of_ble_eq_true rfl), (Nat.le_of_ble_eq_true rfl)⟩ hP hS (gk_recv hK.2.2.1.1 hP hR.1 rfl) rfl hl.1 rfl (Nat.le_of_ble_eq_true rfl) dX4_turnToday_73 ⟨(Nat.le_of_ble_eq_true rfl), (Nat.le_of_ble_eq_true rfl)⟩ (fun v G1 H locs hw hP hS => ?_)
    obtain ⟨rfl, hR⟩ := hw
    rw [va_up_self, va_up_up] at hR
    rw [va_up_self]
    refine W.eq (g2 := F0 m 76 ls [.int (nI (t_tth td ru fr lv hp ol pf f q).length)]) rfl ?_
    exact gk_iret0 hK.1 hret hlk hP hS (Nat.le_of_ble_eq_true rfl) (Nat.le_of_ble_eq_true rfl) dX4_turnToday_76 ⟨q, hq9, rfl, hR⟩
