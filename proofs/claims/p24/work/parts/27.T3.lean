/-! the class: what is held, squeezed, thrown away -/
theorem va_up_up {α : Type} (f : Nat → α) (k : Nat) (a b : α) : va_up (va_up f k a) k b = va_up f k b := by
  funext j
  simp only [va_up]
  split <;> rfl
theorem rp_recvL {y : ly_T} {s : State} {A : Nat → Prop} {H : Heap} {G : gk_G} {td : Int32} {ru : Nat → Nat → Int32} {fr lv : Nat → Nat} {lt et tl : Nat → Int32} {hf hp : Nat → Option Nat} {ol : Nat → List Nat} {PS : Nat → Prop} {pf : Nat → Nat → Int32} (hV : gk_V y A s) (hP : gk_P (ly_D y) A G H) (hR : rp y G td ru fr lv lt et tl hf hp ol PS pf) {f : Nat} (hf5 : f < 5) : ∃ cell : Cell, H[ly_f y 3 f]? = some cell ∧ cell.vm.isStatics = false ∧ s.vm.findClass RJx4a65c = some cell.cls := by
  obtain ⟨⟨ea, mc, h1, h2⟩, h3⟩ := hR.2.2.2.2.2.1
  exact gk_recv hV.1 hP (h1 f hf5).1 rfl
theorem rp_rinj {y : ly_T} {G : gk_G} {ru : Nat → Nat → Int32} (h : rpR y G ru) {a b : Nat} (ha : a < 3) (hb : b < 3) (he : ly_f y 0 a = ly_f y 0 b) : a = b := by
  have h1 := h a ha
  rw [he, h b hb] at h1
  simp only [rp_eR, Option.some.injEq, Sum.inr.injEq, Prod.mk.injEq, List.cons.injEq, Value.int.injEq, true_and] at h1
  exact ((nI_eq (by omega) (by omega)).mp h1.1).symm
/-- held by a holder -/
def t_held (hp : Nat → Option Nat) (t : Nat) : Bool := decide (hp 0 = some t ∨ hp 1 = some t ∨ hp 2 = some t ∨ hp 3 = some t)
/-- must go: the day, the day of its turn, the rule's least age, keep and greatest age; held; how many there are -/
def t_go (td d le kp gr : Int32) (held : Bool) (th : Int32) : Bool := !(decide (td - d < le)) && !held && (decide (kp < th) || (decide (¬ gr = 0) && decide (gr < td - d)))
/-- those of l that are not held are squeezed -/
def t_sq (hp : Nat → Option Nat) (pf : Nat → Nat → Int32) (l : List Nat) : Nat → Nat → Int32 := fun i t => if i = 2 ∧ t ∈ l ∧ t_held hp t = false then 1 else pf i t
theorem t_sq0 (hp : Nat → Option Nat) (pf : Nat → Nat → Int32) : t_sq hp pf [] = pf := by
  funext i t
  simp [t_sq]
theorem t_sq_h {hp : Nat → Option Nat} {pf : Nat → Nat → Int32} {l : List Nat} {k t : Nat} (hk : l[k]? = some t) (hh : t_held hp t = true) : t_sq hp pf (l.take (k + 1)) = t_sq hp pf (l.take k) := by
  funext i q
  have : l.take (k + 1) = l.take k ++ [t] := by rw [List.take_add_one, hk]; rfl
  simp only [t_sq, this, List.mem_append, List.mem_singleton]
  by_cases hq : q = t
  · subst hq; simp [hh]
  · simp [hq]
theorem t_sq_u {hp : Nat → Option Nat} {pf : Nat → Nat → Int32} {l : List Nat} {k t : Nat} (hk : l[k]? = some t) (hh : t_held hp t = false) : t_sq hp pf (l.take (k + 1)) = rp_u2 (t_sq hp pf (l.take k)) 2 t 1 := by
  funext i q
  have : l.take (k + 1) = l.take k ++ [t] := by rw [List.take_add_one, hk]; rfl
  simp only [t_sq, this, List.mem_append, List.mem_singleton, rp_u2]
  by_cases hq : q = t
  · subst hq
    by_cases hi : i = 2
    · subst hi; simp [hh]
    · simp [hi]
  · simp [hq]
/-- what stays and what goes of a list, when there are m of them -/
def t_kp (go : Nat → Nat → Bool) : Nat → List Nat → List Nat
  | _, [] => []
  | m, t :: r => if go t m = true then t_kp go (m - 1) r else t :: t_kp go m r
def t_th (go : Nat → Nat → Bool) : Nat → List Nat → List Nat
  | _, [] => []
  | m, t :: r => if go t m = true then t :: t_th go (m - 1) r else t_th go m r
def t_sum (pf : Nat → Nat → Int32) : Int32 → List Nat → Int32
  | x, [] => x
  | x, t :: r => t_sum pf (x + pf 0 t) r
def t_goF (td : Int32) (pf : Nat → Nat → Int32) (hp : Nat → Option Nat) (le kp gr : Int32) : Nat → Nat → Bool := fun t m => t_go td (pf 1 t) le kp gr (t_held hp t) (nI m)
theorem gl_mid (l r : List Nat) (t : Nat) : (l ++ t :: r)[l.length]? = some t := by simp
theorem gl_erase (l r : List Nat) (t : Nat) : (l ++ t :: r).eraseIdx l.length = l ++ r := by simp [List.eraseIdx_append]
set_option maxHeartbeats 4000000 in
set_option maxRecDepth 100000 in
theorem c_X4_isHeld (l : Launch) {y : ly_T} {A : Nat → Prop} {G : gk_G} {td : Int32} {ru : Nat → Nat → Int32} {fr lv : Nat → Nat} {lt et tl : Nat → Int32} {hf hp : Nat → Option Nat} {ol : Nat → List Nat} {PS : Nat → Prop} {pf : Nat → Nat → Int32} {t : Nat}  (hR : rp y G td ru fr lv lt et tl hf hp ol PS pf) : gk_M0 l yX4_isHeld (Cond.code yX4_isHeld cX4_isHeld 3 (some .boolean)) 0 0 0 0 y A [.ref (ly_a y 0), .ref t] G (fun v G1 => v = some (.int (rg_b (t_held hp t))) ∧ G1 = G) := by
  refine gk_of0 (cc := cX4_isHeld) (maxL := 3) (ret := (some .boolean)) (own := RX4) (by decide +kernel) rfl rfl (Nat.le_of_ble_eq_true rfl) ?_
  intro p e s m below meth c ls hK hret hlk _ hP hS hl
  have hl : lv_has ls 3 [(0, .ref (ly_a y 0)), (1, .ref t)] := hl
  refine lv_iconst (v := 0) hK.1.1 hK.1.2.1 dX4_isHeld_0 (by decide) ?_
  refine lv_istore_n (lv' := [(2, .int 0), (0, .ref (ly_a y 0)), (1, .ref t)]) hK.1.1 hK.1.2.1 dX4_isHeld_1 rfl hl (by decide) rfl (fun ls hl => ?_)
  refine lv_iload_n hK.1.1 hK.1.2.1 dX4_isHeld_2 rfl (lv_at hl 0 rfl) ?_
  refine lv_iconst (v := 4) hK.1.1 hK.1.2.1 dX4_isHeld_3 (by decide) ?_
  refine lv_icmp_ge (tgt := 28) hK.1.1 hK.1.2.1 dX4_isHeld_4 (by decide) (fun c => absurd c (by decide)) (fun _ => ?_)
  refine lv_aload_n hK.1.1 hK.1.2.1 dX4_isHeld_7 rfl (lv_at hl 1 rfl) ?_
  refine tr_23 hK hP hR dX4_isHeld_8 ?_
  refine lv_iload_n hK.1.1 hK.1.2.1 dX4_isHeld_11 rfl (lv_at hl 0 rfl) ?_
  refine ta_holders hK hP hR (i := 0) (by decide) dX4_isHeld_12 ?_
  refine tr_94 hK hP hR (by decide) dX4_isHeld_13 ?_
  refine lv_aload_n hK.1.1 hK.1.2.1 dX4_isHeld_16 rfl (lv_at hl 2 rfl) ?_
  refine lv_acmp_ne (rx := hp 0) (ry := some t) (tgt := 22) hK.1.1 hK.1.2.1 dX4_isHeld_17 (by decide) (fun c17_1 => ?_) (fun c17_1 => ?_)
  · refine lv_iinc (v := 1) (lv' := [(2, .int 1), (0, .ref (ly_a y 0)), (1, .ref t)]) hK.1.1 hK.1.2.1 dX4_isHeld_22 hl (k := 0) rfl (by decide) (by decide) rfl (fun ls hl => ?_)
    refine lv_goto (tgt := 2) hK.1.1 hK.1.2.1 dX4_isHeld_25 (by decide) ?_
    refine lv_iload_n hK.1.1 hK.1.2.1 dX4_isHeld_2 rfl (lv_at hl 0 rfl) ?_
    refine lv_iconst (v := 4) hK.1.1 hK.1.2.1 dX4_isHeld_3 (by decide) ?_
    refine lv_icmp_ge (tgt := 28) hK.1.1 hK.1.2.1 dX4_isHeld_4 (by decide) (fun c => absurd c (by decide)) (fun _ => ?_)
    refine lv_aload_n hK.1.1 hK.1.2.1 dX4_isHeld_7 rfl (lv_at hl 1 rfl) ?_
    refine tr_23 hK hP hR dX4_isHeld_8 ?_
    refine lv_iload_n hK.1.1 hK.1.2.1 dX4_isHeld_11 rfl (lv_at hl 0 rfl) ?_
    refine ta_holders hK hP hR (i := 1) (by decide) dX4_isHeld_12 ?_
    refine tr_94 hK hP hR (by decide) dX4_isHeld_13 ?_
    refine lv_aload_n hK.1.1 hK.1.2.1 dX4_isHeld_16 rfl (lv_at hl 2 rfl) ?_
    refine lv_acmp_ne (rx := hp 1) (ry := some t) (tgt := 22) hK.1.1 hK.1.2.1 dX4_isHeld_17 (by decide) (fun c17_2 => ?_) (fun c17_2 => ?_)
    · refine lv_iinc (v := 2) (lv' := [(2, .int 2), (0, .ref (ly_a y 0)), (1, .ref t)]) hK.1.1 hK.1.2.1 dX4_isHeld_22 hl (k := 0) rfl (by decide) (by decide) rfl (fun ls hl => ?_)
      refine lv_goto (tgt := 2) hK.1.1 hK.1.2.1 dX4_isHeld_25 (by decide) ?_
      refine lv_iload_n hK.1.1 hK.1.2.1 dX4_isHeld_2 rfl (lv_at hl 0 rfl) ?_
      refine lv_iconst (v := 4) hK.1.1 hK.1.2.1 dX4_isHeld_3 (by decide) ?_
      refine lv_icmp_ge (tgt := 28) hK.1.1 hK.1.2.1 dX4_isHeld_4 (by decide) (fun c => absurd c (by decide)) (fun _ => ?_)
      refine lv_aload_n hK.1.1 hK.1.2.1 dX4_isHeld_7 rfl (lv_at hl 1 rfl) ?_
      refine tr_23 hK hP hR dX4_isHeld_8 ?_
      refine lv_iload_n hK.1.1 hK.1.2.1 dX4_isHeld_11 rfl (lv_at hl 0 rfl) ?_
      refine ta_holders hK hP hR (i := 2) (by decide) dX4_isHeld_12 ?_
      refine tr_94 hK hP hR (by decide) dX4_isHeld_13 ?_
      refine lv_aload_n hK.1.1 hK.1.2.1 dX4_isHeld_16 rfl (lv_at hl 2 rfl) ?_
      refine lv_acmp_ne (rx := hp 2) (ry := some t) (tgt := 22) hK.1.1 hK.1.2.1 dX4_isHeld_17 (by decide) (fun c17_3 => ?_) (fun c17_3 => ?_)
      · refine lv_iinc (v := 3) (lv' := [(2, .int 3), (0, .ref (ly_a y 0)), (1, .ref t)]) hK.1.1 hK.1.2.1 dX4_isHeld_22 hl (k := 0) rfl (by decide) (by decide) rfl (fun ls hl => ?_)
        refine lv_goto (tgt := 2) hK.1.1 hK.1.2.1 dX4_isHeld_25 (by decide) ?_
        refine lv_iload_n hK.1.1 hK.1.2.1 dX4_isHeld_2 rfl (lv_at hl 0 rfl) ?_
        refine lv_iconst (v := 4) hK.1.1 hK.1.2.1 dX4_isHeld_3 (by decide) ?_
        refine lv_icmp_ge (tgt := 28) hK.1.1 hK.1.2.1 dX4_isHeld_4 (by decide) (fun c => absurd c (by decide)) (fun _ => ?_)
        refine lv_aload_n hK.1.1 hK.1.2.1 dX4_isHeld_7 rfl (lv_at hl 1 rfl) ?_
        refine tr_23 hK hP hR dX4_isHeld_8 ?_
        refine lv_iload_n hK.1.1 hK.1.2.1 dX4_isHeld_11 rfl (lv_at hl 0 rfl) ?_
        refine ta_holders hK hP hR (i := 3) (by decide) dX4_isHeld_12 ?_
        refine tr_94 hK hP hR (by decide) dX4_isHeld_13 ?_
        refine lv_aload_n hK.1.1 hK.1.2.1 dX4_isHeld_16 rfl (lv_at hl 2 rfl) ?_
        refine lv_acmp_ne (rx := hp 3) (ry := some t) (tgt := 22) hK.1.1 hK.1.2.1 dX4_isHeld_17 (by decide) (fun c17_4 => ?_) (fun c17_4 => ?_)
        · refine lv_iinc (v := 4) (lv' := [(2, .int 4), (0, .ref (ly_a y 0)), (1, .ref t)]) hK.1.1 hK.1.2.1 dX4_isHeld_22 hl (k := 0) rfl (by decide) (by decide) rfl (fun ls hl => ?_)
          refine lv_goto (tgt := 2) hK.1.1 hK.1.2.1 dX4_isHeld_25 (by decide) ?_
          refine lv_iload_n hK.1.1 hK.1.2.1 dX4_isHeld_2 rfl (lv_at hl 0 rfl) ?_
          refine lv_iconst (v := 4) hK.1.1 hK.1.2.1 dX4_isHeld_3 (by decide) ?_
          refine lv_icmp_ge (tgt := 28) hK.1.1 hK.1.2.1 dX4_isHeld_4 (by decide) (fun _ => ?_) (fun c => absurd (by decide) c)
          refine lv_iconst (v := 0) hK.1.1 hK.1.2.1 dX4_isHeld_28 (by decide) ?_
          exact gk_zret0 hK.1 hret (by first | decide | exact (rp_nz (by first | assumption | (simp; done))).1) hlk hP hS (Nat.le_of_ble_eq_true rfl) (Nat.le_of_ble_eq_true rfl) dX4_isHeld_29 ⟨by simp [t_held, rg_b, c17_1, c17_2, c17_3, c17_4], rfl⟩
        · refine lv_iconst (v := 1) hK.1.1 hK.1.2.1 dX4_isHeld_20 (by decide) ?_
          exact gk_zret0 hK.1 hret (by first | decide | exact (rp_nz (by first | assumption | (simp; done))).1) hlk hP hS (Nat.le_of_ble_eq_true rfl) (Nat.le_of_ble_eq_true rfl) dX4_isHeld_21 ⟨by simp [t_held, rg_b, c17_1, c17_2, c17_3, c17_4], rfl⟩
      · refine lv_iconst (v := 1) hK.1.1 hK.1.2.1 dX4_isHeld_20 (by decide) ?_
        exact gk_zret0 hK.1 hret (by first | decide | exact (rp_nz (by first | assumption | (simp; done))).1) hlk hP hS (Nat.le_of_ble_eq_true rfl) (Nat.le_of_ble_eq_true rfl) dX4_isHeld_21 ⟨by simp [t_held, rg_b, c17_1, c17_2, c17_3], rfl⟩
    · refine lv_iconst (v := 1) hK.1.1 hK.1.2.1 dX4_isHeld_20 (by decide) ?_
      exact gk_zret0 hK.1 hret (by first | decide | exact (rp_nz (by first | assumption | (simp; done))).1) hlk hP hS (Nat.le_of_ble_eq_true rfl) (Nat.le_of_ble_eq_true rfl) dX4_isHeld_21 ⟨by simp [t_held, rg_b, c17_1, c17_2], rfl⟩
  · refine lv_iconst (v := 1) hK.1.1 hK.1.2.1 dX4_isHeld_20 (by decide) ?_
    exact gk_zret0 hK.1 hret (by first | decide | exact (rp_nz (by first | assumption | (simp; done))).1) hlk hP hS (Nat.le_of_ble_eq_true rfl) (Nat.le_of_ble_eq_true rfl) dX4_isHeld_21 ⟨by simp [t_held, rg_b, c17_1], rfl⟩
set_option maxHeartbeats 4000000 in
set_option maxRecDepth 100000 in
theorem c_X4_mustGo (l : Launch) {y : ly_T} {A : Nat → Prop} {G : gk_G} {td : Int32} {ru : Nat → Nat → Int32} {fr lv : Nat → Nat} {lt et tl : Nat → Int32} {hf hp : Nat → Option Nat} {ol : Nat → List Nat} {PS : Nat → Prop} {pf : Nat → Nat → Int32} {t r : Nat} {th : Int32}  (hR : rp y G td ru fr lv lt et tl hf hp ol PS pf) (hr3 : r < 3) (ht : PS t) : gk_M0 l yX4_mustGo (Cond.code yX4_mustGo cX4_mustGo 6 (some .boolean)) 1 30 0 0 y A [.ref (ly_a y 0), .ref t, .ref (ly_f y 0 r), .int th] G (fun v G1 => v = some (.int (rg_b (t_go td (pf 1 t) (ru r 4) (ru r 5) (ru r 6) (t_held hp t) th))) ∧ G1 = G) := by
  refine gk_of0 (cc := cX4_mustGo) (maxL := 6) (ret := (some .boolean)) (own := RX4) (by decide +kernel) rfl rfl (Nat.le_of_ble_eq_true rfl) ?_
  intro p e s m below meth c ls hK hret hlk _ hP hS hl
  have hl : lv_has ls 6 [(0, .ref (ly_a y 0)), (1, .ref t), (2, .ref (ly_f y 0 r)), (3, .int th)] := hl
  refine lv_aload_n hK.1.1 hK.1.2.1 dX4_mustGo_0 rfl (lv_at hl 0 rfl) ?_
  refine tr_109 hK hP hR dX4_mustGo_1 ?_
  refine lv_aload_n hK.1.1 hK.1.2.1 dX4_mustGo_4 rfl (lv_at hl 1 rfl) ?_
  refine tr_150 hK hP hR ht dX4_mustGo_5 ?_
  refine lv_isub hK.1.1 hK.1.2.1 dX4_mustGo_8 ?_
  refine lv_istore (lv' := [(4, .int (td - (pf 1 t))), (0, .ref (ly_a y 0)), (1, .ref t), (2, .ref (ly_f y 0 r)), (3, .int th)]) hK.1.1 hK.1.2.1 dX4_mustGo_9 hl (by decide) rfl (fun ls hl => ?_)
  refine lv_iload hK.1.1 hK.1.2.1 dX4_mustGo_11 (lv_at hl 0 rfl) ?_
  refine lv_aload_n hK.1.1 hK.1.2.1 dX4_mustGo_13 rfl (lv_at hl 3 rfl) ?_
  refine tr_52 hK hP hR hr3 dX4_mustGo_14 ?_
  refine lv_icmp_lt (tgt := 28) hK.1.1 hK.1.2.1 dX4_mustGo_17 (by decide) (fun c17_1 => ?_) (fun c17_1 => ?_)
  · refine lv_iconst (v := 0) hK.1.1 hK.1.2.1 dX4_mustGo_28 (by decide) ?_
    exact gk_zret0 hK.1 hret (by first | decide | exact (rp_nz (by first | assumption | (simp; done))).1) hlk hP hS (Nat.le_of_ble_eq_true rfl) (Nat.le_of_ble_eq_true rfl) dX4_mustGo_29 ⟨by (try simp only [rg_b0, rg_b1, Bool.not_eq_false, Bool.not_eq_true] at c17_1); simp [t_go, rg_b, c17_1]; try simp only [Int32.not_le, Int32.not_lt] at c17_1; try simp [*], rfl⟩
  · refine lv_aload_n hK.1.1 hK.1.2.1 dX4_mustGo_20 rfl (lv_at hl 1 rfl) ?_
    refine lv_aload_n hK.1.1 hK.1.2.1 dX4_mustGo_21 rfl (lv_at hl 2 rfl) ?_
    refine gk_callV0 (n := 1) (As := [.ref t]) (rest := []) hK (c_X4_isHeld l hR (t := t)) (gk_gV q_9_0 q_9_1 q_9_2 q_1_2 q_9_3) ⟨rfl, by decide +kernel, by decide +kernel, by decide +kernel⟩ ⟨(Nat.le_of_ble_eq_true rfl), (Nat.le_of_ble_eq_true rfl)⟩ hP hS (gk_recv hK.2.2.1.1 hP hR.1 rfl) rfl hl.1 rfl (Nat.le_of_ble_eq_true rfl) dX4_mustGo_22 ⟨(Nat.le_of_ble_eq_true rfl), (Nat.le_of_ble_eq_true rfl)⟩ (fun v G1 H locs hw hP hS => ?_)
    obtain ⟨rfl, hG9⟩ := hw
    rw [hG9] at hP
    refine W.eq (g2 := F0 m 25 ls [.int (rg_b (t_held hp t))]) rfl ?_
    refine lv_if_eq (tgt := 30) hK.1.1 hK.1.2.1 dX4_mustGo_25 (by decide) (fun c25_2 => ?_) (fun c25_2 => ?_)
    · refine lv_aload_n hK.1.1 hK.1.2.1 dX4_mustGo_30 rfl (lv_at hl 3 rfl) ?_
      refine tr_58 hK hP hR hr3 dX4_mustGo_31 ?_
      refine lv_if_eq (tgt := 50) hK.1.1 hK.1.2.1 dX4_mustGo_34 (by decide) (fun c34_3 => ?_) (fun c34_3 => ?_)
      · refine lv_iconst (v := 0) hK.1.1 hK.1.2.1 dX4_mustGo_50 (by decide) ?_
        refine lv_istore (lv' := [(5, .int 0), (4, .int (td - (pf 1 t))), (0, .ref (ly_a y 0)), (1, .ref t), (2, .ref (ly_f y 0 r)), (3, .int th)]) hK.1.1 hK.1.2.1 dX4_mustGo_51 hl (by decide) rfl (fun ls hl => ?_)
        refine lv_iload_n hK.1.1 hK.1.2.1 dX4_mustGo_53 rfl (lv_at hl 5 rfl) ?_
        refine lv_aload_n hK.1.1 hK.1.2.1 dX4_mustGo_54 rfl (lv_at hl 4 rfl) ?_
        refine tr_55 hK hP hR hr3 dX4_mustGo_55 ?_
        refine lv_icmp_gt (tgt := 66) hK.1.1 hK.1.2.1 dX4_mustGo_58 (by decide) (fun c58_4 => ?_) (fun c58_4 => ?_)
        · refine lv_iconst (v := 1) hK.1.1 hK.1.2.1 dX4_mustGo_66 (by decide) ?_
          refine lv_goto (tgt := 71) hK.1.1 hK.1.2.1 dX4_mustGo_67 (by decide) ?_
          exact gk_zret0 hK.1 hret (by first | decide | exact (rp_nz (by first | assumption | (simp; done))).1) hlk hP hS (Nat.le_of_ble_eq_true rfl) (Nat.le_of_ble_eq_true rfl) dX4_mustGo_71 ⟨by (try simp only [rg_b0, rg_b1, Bool.not_eq_false, Bool.not_eq_true] at c17_1 c25_2 c34_3 c58_4); simp [t_go, rg_b, c17_1, c25_2, c34_3, c58_4]; try simp only [Int32.not_le, Int32.not_lt] at c17_1 c25_2 c34_3 c58_4; try simp [*], rfl⟩
        · refine lv_iload hK.1.1 hK.1.2.1 dX4_mustGo_61 (lv_at hl 0 rfl) ?_
          refine lv_if_eq (tgt := 70) hK.1.1 hK.1.2.1 dX4_mustGo_63 (by decide) (fun _ => ?_) (fun c => absurd c (by decide))
          refine lv_iconst (v := 0) hK.1.1 hK.1.2.1 dX4_mustGo_70 (by decide) ?_
          exact gk_zret0 hK.1 hret (by first | decide | exact (rp_nz (by first | assumption | (simp; done))).1) hlk hP hS (Nat.le_of_ble_eq_true rfl) (Nat.le_of_ble_eq_true rfl) dX4_mustGo_71 ⟨by (try simp only [rg_b0, rg_b1, Bool.not_eq_false, Bool.not_eq_true] at c17_1 c25_2 c34_3 c58_4); simp [t_go, rg_b, c17_1, c25_2, c34_3, c58_4]; try simp only [Int32.not_le, Int32.not_lt] at c17_1 c25_2 c34_3 c58_4; try simp [*], rfl⟩
      · refine lv_iload hK.1.1 hK.1.2.1 dX4_mustGo_37 (lv_at hl 0 rfl) ?_
        refine lv_aload_n hK.1.1 hK.1.2.1 dX4_mustGo_39 rfl (lv_at hl 3 rfl) ?_
        refine tr_58 hK hP hR hr3 dX4_mustGo_40 ?_
        refine lv_icmp_le (tgt := 50) hK.1.1 hK.1.2.1 dX4_mustGo_43 (by decide) (fun c43_5 => ?_) (fun c43_5 => ?_)
        · refine lv_iconst (v := 0) hK.1.1 hK.1.2.1 dX4_mustGo_50 (by decide) ?_
          refine lv_istore (lv' := [(5, .int 0), (4, .int (td - (pf 1 t))), (0, .ref (ly_a y 0)), (1, .ref t), (2, .ref (ly_f y 0 r)), (3, .int th)]) hK.1.1 hK.1.2.1 dX4_mustGo_51 hl (by decide) rfl (fun ls hl => ?_)
          refine lv_iload_n hK.1.1 hK.1.2.1 dX4_mustGo_53 rfl (lv_at hl 5 rfl) ?_
          refine lv_aload_n hK.1.1 hK.1.2.1 dX4_mustGo_54 rfl (lv_at hl 4 rfl) ?_
          refine tr_55 hK hP hR hr3 dX4_mustGo_55 ?_
          refine lv_icmp_gt (tgt := 66) hK.1.1 hK.1.2.1 dX4_mustGo_58 (by decide) (fun c58_6 => ?_) (fun c58_6 => ?_)
          · refine lv_iconst (v := 1) hK.1.1 hK.1.2.1 dX4_mustGo_66 (by decide) ?_
            refine lv_goto (tgt := 71) hK.1.1 hK.1.2.1 dX4_mustGo_67 (by decide) ?_
            exact gk_zret0 hK.1 hret (by first | decide | exact (rp_nz (by first | assumption | (simp; done))).1) hlk hP hS (Nat.le_of_ble_eq_true rfl) (Nat.le_of_ble_eq_true rfl) dX4_mustGo_71 ⟨by (try simp only [rg_b0, rg_b1, Bool.not_eq_false, Bool.not_eq_true] at c17_1 c25_2 c34_3 c43_5 c58_6); simp [t_go, rg_b, c17_1, c25_2, c34_3, c43_5, c58_6]; try simp only [Int32.not_le, Int32.not_lt] at c17_1 c25_2 c34_3 c43_5 c58_6; try simp [*], rfl⟩
          · refine lv_iload hK.1.1 hK.1.2.1 dX4_mustGo_61 (lv_at hl 0 rfl) ?_
            refine lv_if_eq (tgt := 70) hK.1.1 hK.1.2.1 dX4_mustGo_63 (by decide) (fun _ => ?_) (fun c => absurd c (by decide))
            refine lv_iconst (v := 0) hK.1.1 hK.1.2.1 dX4_mustGo_70 (by decide) ?_
            exact gk_zret0 hK.1 hret (by first | decide | exact (rp_nz (by first | assumption | (simp; done))).1) hlk hP hS (Nat.le_of_ble_eq_true rfl) (Nat.le_of_ble_eq_true rfl) dX4_mustGo_71 ⟨by (try simp only [rg_b0, rg_b1, Bool.not_eq_false, Bool.not_eq_true] at c17_1 c25_2 c34_3 c43_5 c58_6); simp [t_go, rg_b, c17_1, c25_2, c34_3, c43_5, c58_6]; try simp only [Int32.not_le, Int32.not_lt] at c17_1 c25_2 c34_3 c43_5 c58_6; try simp [*], rfl⟩
        · refine lv_iconst (v := 1) hK.1.1 hK.1.2.1 dX4_mustGo_46 (by decide) ?_
          refine lv_goto (tgt := 51) hK.1.1 hK.1.2.1 dX4_mustGo_47 (by decide) ?_
          refine lv_istore (lv' := [(5, .int 1), (4, .int (td - (pf 1 t))), (0, .ref (ly_a y 0)), (1, .ref t), (2, .ref (ly_f y 0 r)), (3, .int th)]) hK.1.1 hK.1.2.1 dX4_mustGo_51 hl (by decide) rfl (fun ls hl => ?_)
          refine lv_iload_n hK.1.1 hK.1.2.1 dX4_mustGo_53 rfl (lv_at hl 5 rfl) ?_
          refine lv_aload_n hK.1.1 hK.1.2.1 dX4_mustGo_54 rfl (lv_at hl 4 rfl) ?_
          refine tr_55 hK hP hR hr3 dX4_mustGo_55 ?_
          refine lv_icmp_gt (tgt := 66) hK.1.1 hK.1.2.1 dX4_mustGo_58 (by decide) (fun c58_7 => ?_) (fun c58_7 => ?_)
          · refine lv_iconst (v := 1) hK.1.1 hK.1.2.1 dX4_mustGo_66 (by decide) ?_
            refine lv_goto (tgt := 71) hK.1.1 hK.1.2.1 dX4_mustGo_67 (by decide) ?_
            exact gk_zret0 hK.1 hret (by first | decide | exact (rp_nz (by first | assumption | (simp; done))).1) hlk hP hS (Nat.le_of_ble_eq_true rfl) (Nat.le_of_ble_eq_true rfl) dX4_mustGo_71 ⟨by (try simp only [rg_b0, rg_b1, Bool.not_eq_false, Bool.not_eq_true] at c17_1 c25_2 c34_3 c43_5 c58_7); simp [t_go, rg_b, c17_1, c25_2, c34_3, c43_5, c58_7]; try simp only [Int32.not_le, Int32.not_lt] at c17_1 c25_2 c34_3 c43_5 c58_7; try simp [*], rfl⟩
          · refine lv_iload hK.1.1 hK.1.2.1 dX4_mustGo_61 (lv_at hl 0 rfl) ?_
            refine lv_if_eq (tgt := 70) hK.1.1 hK.1.2.1 dX4_mustGo_63 (by decide) (fun c => absurd c (by decide)) (fun _ => ?_)
            refine lv_iconst (v := 1) hK.1.1 hK.1.2.1 dX4_mustGo_66 (by decide) ?_
            refine lv_goto (tgt := 71) hK.1.1 hK.1.2.1 dX4_mustGo_67 (by decide) ?_
            exact gk_zret0 hK.1 hret (by first | decide | exact (rp_nz (by first | assumption | (simp; done))).1) hlk hP hS (Nat.le_of_ble_eq_true rfl) (Nat.le_of_ble_eq_true rfl) dX4_mustGo_71 ⟨by (try simp only [rg_b0, rg_b1, Bool.not_eq_false, Bool.not_eq_true] at c17_1 c25_2 c34_3 c43_5 c58_7); simp [t_go, rg_b, c17_1, c25_2, c34_3, c43_5, c58_7]; try simp only [Int32.not_le, Int32.not_lt] at c17_1 c25_2 c34_3 c43_5 c58_7; try simp [*], rfl⟩
    · refine lv_iconst (v := 0) hK.1.1 hK.1.2.1 dX4_mustGo_28 (by decide) ?_
      exact gk_zret0 hK.1 hret (by first | decide | exact (rp_nz (by first | assumption | (simp; done))).1) hlk hP hS (Nat.le_of_ble_eq_true rfl) (Nat.le_of_ble_eq_true rfl) dX4_mustGo_29 ⟨by (try simp only [rg_b0, rg_b1, Bool.not_eq_false, Bool.not_eq_true] at c17_1 c25_2); simp [t_go, rg_b, c17_1, c25_2]; try simp only [Int32.not_le, Int32.not_lt] at c17_1 c25_2; try simp [*], rfl⟩
set_option maxHeartbeats 4000000 in
set_option maxRecDepth 100000 in
theorem c_X4_squeezeOldParts (l : Launch) {y : ly_T} {A : Nat → Prop} {G : gk_G} {td : Int32} {ru : Nat → Nat → Int32} {fr lv : Nat → Nat} {lt et tl : Nat → Int32} {hf hp : Nat → Option Nat} {ol : Nat → List Nat} {PS : Nat → Prop} {pf : Nat → Nat → Int32} {f n : Nat}  (hR : rp y G td ru fr lv lt et tl hf hp ol PS pf) (hf5 : f < 5) (hn : (ol f).length = n + 1) (hn9 : n ≤ 1000) (hin : ∀ q ∈ ol f, PS q) : gk_M0 l yX4_squeezeOldParts (Cond.code yX4_squeezeOldParts cX4_squeezeOldParts 4 none) 3 90 0 0 y A [.ref (ly_a y 0), .ref (ly_f y 3 f)] G (fun v G1 => v = none ∧ rp y G1 td ru fr lv lt et tl hf hp ol PS (t_sq hp pf ((ol f).take n))) := by
  refine gk_of0 (cc := cX4_squeezeOldParts) (maxL := 4) (ret := none) (own := RX4) (by decide +kernel) rfl rfl (Nat.le_of_ble_eq_true rfl) ?_
  intro p e s m below meth c ls hK hret hlk _ hP hS hl
  have hl : lv_has ls 4 [(0, .ref (ly_a y 0)), (1, .ref (ly_f y 3 f))] := hl
  refine lv_iconst (v := 0) hK.1.1 hK.1.2.1 dX4_squeezeOldParts_0 (by decide) ?_
  refine lv_istore_n (lv' := [(2, .int 0), (0, .ref (ly_a y 0)), (1, .ref (ly_f y 3 f))]) hK.1.1 hK.1.2.1 dX4_squeezeOldParts_1 rfl hl (by decide) rfl (fun ls hl => ?_)
  have loop : ∀ (dd : Nat) (k : Nat) (ls : Array Slot) (H : Heap) (locs : List Loc) (G : gk_G), n - k = dd → (k ≤ n) → gk_P (ly_D y) A G H → va_S A s.heap H locs → rp y G td ru fr lv lt et tl hf hp ol PS (t_sq hp pf ((ol f).take k)) → lv_has ls 4 [(2, .int (nI k)), (0, .ref (ly_a y 0)), (1, .ref (ly_f y 3 f))] → W p l e { frames := 3, cells := 0, slots := 0, locals := 90 } s m [.ref (ly_a y 0), .ref (ly_f y 3 f)].toArray below meth c H locs 0 0 (MQ below (gk_Q y A (fun v G1 => v = none ∧ rp y G1 td ru fr lv lt et tl hf hp ol PS (t_sq hp pf ((ol f).take n)))) [.ref (ly_a y 0), .ref (ly_f y 3 f)].toArray s 0 0 A) (F0 m 2 ls []) := by
    intro dd
    induction dd using Nat.strongRecOn with
    | _ dd ih =>
    intro k ls H locs G hdd hk hP hS hR hl
    refine lv_iload_n hK.1.1 hK.1.2.1 dX4_squeezeOldParts_2 rfl (lv_at hl 0 rfl) ?_
    refine lv_aload_n hK.1.1 hK.1.2.1 dX4_squeezeOldParts_3 rfl (lv_at hl 2 rfl) ?_
    refine gk_callV0 (n := 0) (As := []) (rest := [.int (nI k)]) hK (c_list_size l hR hf5) (gk_gV q_5_13 q_5_14 q_5_15 q_2_13 q_5_16) ⟨rfl, by decide +kernel, by decide +kernel, by decide +kernel⟩ ⟨(Nat.le_of_ble_eq_true rfl), (Nat.le_of_ble_eq_true rfl)⟩ hP hS (rp_recvL hK.2.2.1 hP hR hf5) rfl hl.1 rfl (Nat.le_of_ble_eq_true rfl) dX4_squeezeOldParts_4 ⟨(Nat.le_of_ble_eq_true rfl), (Nat.le_of_ble_eq_true rfl)⟩ (fun v G1 H locs hw hP hS => ?_)
    obtain ⟨rfl, hG9⟩ := hw
    rw [hG9] at hP
    refine W.eq (g2 := F0 m 7 ls [.int (nI (ol f).length), .int (nI k)]) rfl ?_
    refine lv_iconst (v := 1) hK.1.1 hK.1.2.1 dX4_squeezeOldParts_7 (by decide) ?_
    refine lv_isub hK.1.1 hK.1.2.1 dX4_squeezeOldParts_8 ?_
    rw [hn, nI_pred]
    refine lv_icmp_ge (tgt := 40) hK.1.1 hK.1.2.1 dX4_squeezeOldParts_9 (by decide) (fun c9_1 => ?_) (fun c9_1 => ?_)
    · have hkn : k = n := Nat.le_antisymm hk ((nI_leI (by omega) (by omega)).mp c9_1)
      subst hkn
      exact gk_vret0 hK.1 hret hlk hP hS (Nat.le_of_ble_eq_true rfl) (Nat.le_of_ble_eq_true rfl) dX4_squeezeOldParts_40 ⟨rfl, hR⟩
    · have hkn : k < n := Nat.lt_of_not_le (fun h => c9_1 (nI_le h (by omega)))
      obtain ⟨t, htk⟩ : ∃ t, (ol f)[k]? = some t := ⟨_, List.getElem?_eq_getElem (by omega)⟩
      have htP : PS t := hin t (List.mem_of_getElem? htk)
      refine lv_aload_n hK.1.1 hK.1.2.1 dX4_squeezeOldParts_12 rfl (lv_at hl 2 rfl) ?_
      refine lv_iload_n hK.1.1 hK.1.2.1 dX4_squeezeOldParts_13 rfl (lv_at hl 0 rfl) ?_
      refine gk_callV0 (n := 1) (As := [.int (nI k)]) (rest := []) hK (c_list_get l hR hf5 htk) (gk_gV q_8_8 q_8_9 q_8_10 q_2_13 q_8_11) ⟨rfl, by decide +kernel, by decide +kernel, by decide +kernel⟩ ⟨(Nat.le_of_ble_eq_true rfl), (Nat.le_of_ble_eq_true rfl)⟩ hP hS (rp_recvL hK.2.2.1 hP hR hf5) rfl hl.1 rfl (Nat.le_of_ble_eq_true rfl) dX4_squeezeOldParts_14 ⟨(Nat.le_of_ble_eq_true rfl), (Nat.le_of_ble_eq_true rfl)⟩ (fun v G1 H locs hw hP hS => ?_)
      obtain ⟨rfl, hG9⟩ := hw
      rw [hG9] at hP
      refine W.eq (g2 := F0 m 17 ls [.ref t]) rfl ?_
      refine gk_cast hK.1 hK.2.2.1.1 hP (hR.2.2.2.2.2.2.1 t htP) rfl q_5_11 dX4_squeezeOldParts_17 ?_
      refine lv_astore_n (lv' := [(3, .ref t), (2, .int (nI k)), (0, .ref (ly_a y 0)), (1, .ref (ly_f y 3 f))]) hK.1.1 hK.1.2.1 dX4_squeezeOldParts_20 rfl hl (by decide) rfl (fun ls hl => ?_)
      refine lv_aload_n hK.1.1 hK.1.2.1 dX4_squeezeOldParts_21 rfl (lv_at hl 2 rfl) ?_
      refine lv_aload_n hK.1.1 hK.1.2.1 dX4_squeezeOldParts_22 rfl (lv_at hl 0 rfl) ?_
      refine gk_callV0 (n := 1) (As := [.ref t]) (rest := []) hK (c_X4_isHeld l hR (t := t)) (gk_gV q_9_0 q_9_1 q_9_2 q_1_2 q_9_3) ⟨rfl, by decide +kernel, by decide +kernel, by decide +kernel⟩ ⟨(Nat.le_of_ble_eq_true rfl), (Nat.le_of_ble_eq_true rfl)⟩ hP hS (gk_recv hK.2.2.1.1 hP hR.1 rfl) rfl hl.1 rfl (Nat.le_of_ble_eq_true rfl) dX4_squeezeOldParts_23 ⟨(Nat.le_of_ble_eq_true rfl), (Nat.le_of_ble_eq_true rfl)⟩ (fun v G1 H locs hw hP hS => ?_)
      obtain ⟨rfl, hG9⟩ := hw
      rw [hG9] at hP
      refine W.eq (g2 := F0 m 26 ls [.int (rg_b (t_held hp t))]) rfl ?_
      refine lv_if_ne (tgt := 34) hK.1.1 hK.1.2.1 dX4_squeezeOldParts_26 (by decide) (fun c26_2 => ?_) (fun c26_2 => ?_)
      · refine lv_iinc (v := nI (k + 1)) (lv' := [(2, .int (nI (k + 1))), (3, .ref t), (0, .ref (ly_a y 0)), (1, .ref (ly_f y 3 f))]) hK.1.1 hK.1.2.1 dX4_squeezeOldParts_34 hl (k := 1) rfl (nI_1 k) (by decide) rfl (fun ls hl => ?_)
        refine lv_goto (tgt := 2) hK.1.1 hK.1.2.1 dX4_squeezeOldParts_37 (by decide) ?_
        exact ih (n - (k + 1)) (by omega)  (k + 1) ls _ _ _ rfl (by omega) hP hS (by rw [t_sq_h htk (by cases hz : t_held hp t <;> simp_all [rg_b])]; exact hR) (lv_sub hl [0, 2, 3] rfl)
      · refine lv_aload_n hK.1.1 hK.1.2.1 dX4_squeezeOldParts_29 rfl (lv_at hl 0 rfl) ?_
        refine lv_iconst (v := 1) hK.1.1 hK.1.2.1 dX4_squeezeOldParts_30 (by decide) ?_
        refine tw_157 hK hP hS hR htP (by decide) dX4_squeezeOldParts_31 (fun H locs G hP hS hR => ?_)
        refine lv_iinc (v := nI (k + 1)) (lv' := [(2, .int (nI (k + 1))), (3, .ref t), (0, .ref (ly_a y 0)), (1, .ref (ly_f y 3 f))]) hK.1.1 hK.1.2.1 dX4_squeezeOldParts_34 hl (k := 1) rfl (nI_1 k) (by decide) rfl (fun ls hl => ?_)
        refine lv_goto (tgt := 2) hK.1.1 hK.1.2.1 dX4_squeezeOldParts_37 (by decide) ?_
        exact ih (n - (k + 1)) (by omega)  (k + 1) ls _ _ _ rfl (by omega) hP hS (by rw [t_sq_u htk (by cases hz : t_held hp t <;> simp_all [rg_b])]; exact hR) (lv_sub hl [0, 2, 3] rfl)
  exact loop _ 0 ls _ _ _ rfl (by omega) hP hS (by rw [List.take_zero, t_sq0]; exact hR) (lv_sub hl [0, 1, 2] rfl)
theorem gl_upsame {α : Type} (f : Nat → α) (k : Nat) : va_up f k (f k) = f := by
  funext j
  simp only [va_up]
  split
  · rename_i h; rw [h]
  · rfl
set_option maxHeartbeats 4000000 in
set_option maxRecDepth 100000 in
theorem c_X4_throwOldParts (l : Launch) {y : ly_T} {A : Nat → Prop} {G : gk_G} {td : Int32} {ru : Nat → Nat → Int32} {fr lv : Nat → Nat} {lt et tl : Nat → Int32} {hf hp : Nat → Option Nat} {ol : Nat → List Nat} {PS : Nat → Prop} {pf : Nat → Nat → Int32} {f : Nat}  (hR : rp y G td ru fr lv lt et tl hf hp ol PS pf) (hf5 : f < 5) (hn9 : (ol f).length ≤ 1000) (hin : ∀ q ∈ ol f, PS q) : gk_M0 l yX4_throwOldParts (Cond.code yX4_throwOldParts cX4_throwOldParts 7 (some .int)) 3 120 0 0 y A [.ref (ly_a y 0), .ref (ly_f y 1 f)] G (fun v G1 => v = some (.int (nI (t_th (t_goF td pf hp (ru (fr f) 4) (ru (fr f) 5) (ru (fr f) 6)) (ol f).length (ol f)).length)) ∧ rp y G1 td ru fr lv lt et (va_up tl f (t_sum pf (tl f) (t_th (t_goF td pf hp (ru (fr f) 4) (ru (fr f) 5) (ru (fr f) 6)) (ol f).length (ol f)))) hf hp (va_up ol f (t_kp (t_goF td pf hp (ru (fr f) 4) (ru (fr f) 5) (ru (fr f) 6)) (ol f).length (ol f))) PS pf) := by
  refine gk_of0 (cc := cX4_throwOldParts) (maxL := 7) (ret := (some .int)) (own := RX4) (by decide +kernel) rfl rfl (Nat.le_of_ble_eq_true rfl) ?_
  intro p e s m below meth c ls hK hret hlk _ hP hS hl
  have hl : lv_has ls 7 [(0, .ref (ly_a y 0)), (1, .ref (ly_f y 1 f))] := hl
  refine lv_aload_n hK.1.1 hK.1.2.1 dX4_throwOldParts_0 rfl (lv_at hl 1 rfl) ?_
  refine tr_137 hK hP hR hf5 dX4_throwOldParts_1 ?_
  refine lv_astore_n (lv' := [(2, .ref (ly_f y 3 f)), (0, .ref (ly_a y 0)), (1, .ref (ly_f y 1 f))]) hK.1.1 hK.1.2.1 dX4_throwOldParts_4 rfl hl (by decide) rfl (fun ls hl => ?_)
  refine lv_aload_n hK.1.1 hK.1.2.1 dX4_throwOldParts_5 rfl (lv_at hl 0 rfl) ?_
  refine gk_callV0 (n := 0) (As := []) (rest := []) hK (c_list_size l hR hf5) (gk_gV q_5_13 q_5_14 q_5_15 q_2_13 q_5_16) ⟨rfl, by decide +kernel, by decide +kernel, by decide +kernel⟩ ⟨(Nat.le_of_ble_eq_true rfl), (Nat.le_of_ble_eq_true rfl)⟩ hP hS (rp_recvL hK.2.2.1 hP hR hf5) rfl hl.1 rfl (Nat.le_of_ble_eq_true rfl) dX4_throwOldParts_6 ⟨(Nat.le_of_ble_eq_true rfl), (Nat.le_of_ble_eq_true rfl)⟩ (fun v G1 H locs hw hP hS => ?_)
  obtain ⟨rfl, hG9⟩ := hw
  rw [hG9] at hP
  refine W.eq (g2 := F0 m 9 ls [.int (nI (ol f).length)]) rfl ?_
  refine lv_istore_n (lv' := [(3, .int (nI (ol f).length)), (2, .ref (ly_f y 3 f)), (0, .ref (ly_a y 0)), (1, .ref (ly_f y 1 f))]) hK.1.1 hK.1.2.1 dX4_throwOldParts_9 rfl hl (by decide) rfl (fun ls hl => ?_)
  refine lv_iconst (v := 0) hK.1.1 hK.1.2.1 dX4_throwOldParts_10 (by decide) ?_
  refine lv_istore (lv' := [(4, .int 0), (3, .int (nI (ol f).length)), (2, .ref (ly_f y 3 f)), (0, .ref (ly_a y 0)), (1, .ref (ly_f y 1 f))]) hK.1.1 hK.1.2.1 dX4_throwOldParts_11 hl (by decide) rfl (fun ls hl => ?_)
  refine lv_iconst (v := 0) hK.1.1 hK.1.2.1 dX4_throwOldParts_13 (by decide) ?_
  refine lv_istore (lv' := [(5, .int 0), (4, .int 0), (3, .int (nI (ol f).length)), (2, .ref (ly_f y 3 f)), (0, .ref (ly_a y 0)), (1, .ref (ly_f y 1 f))]) hK.1.1 hK.1.2.1 dX4_throwOldParts_14 hl (by decide) rfl (fun ls hl => ?_)
  have loop : ∀ (dd : Nat) (rest kept : List Nat) (gone : Nat) (x : Int32) (ls : Array Slot) (H : Heap) (locs : List Loc) (G : gk_G), rest.length = dd → (kept.length + gone + rest.length = (ol f).length) → (t_kp (t_goF td pf hp (ru (fr f) 4) (ru (fr f) 5) (ru (fr f) 6)) (ol f).length (ol f) = kept ++ t_kp (t_goF td pf hp (ru (fr f) 4) (ru (fr f) 5) (ru (fr f) 6)) ((ol f).length - gone) rest) → ((t_th (t_goF td pf hp (ru (fr f) 4) (ru (fr f) 5) (ru (fr f) 6)) (ol f).length (ol f)).length = gone + (t_th (t_goF td pf hp (ru (fr f) 4) (ru (fr f) 5) (ru (fr f) 6)) ((ol f).length - gone) rest).length) → (t_sum pf (tl f) (t_th (t_goF td pf hp (ru (fr f) 4) (ru (fr f) 5) (ru (fr f) 6)) (ol f).length (ol f)) = t_sum pf x (t_th (t_goF td pf hp (ru (fr f) 4) (ru (fr f) 5) (ru (fr f) 6)) ((ol f).length - gone) rest)) → (∀ q ∈ kept ++ rest, PS q) → gk_P (ly_D y) A G H → va_S A s.heap H locs → rp y G td ru fr lv lt et (va_up tl f x) hf hp (va_up ol f (kept ++ rest)) PS pf → lv_has ls 7 [(5, .int (nI (kept.length + gone))), (4, .int (nI gone)), (3, .int (nI (ol f).length)), (2, .ref (ly_f y 3 f)), (0, .ref (ly_a y 0)), (1, .ref (ly_f y 1 f))] → W p l e { frames := 3, cells := 0, slots := 0, locals := 120 } s m [.ref (ly_a y 0), .ref (ly_f y 1 f)].toArray below meth c H locs 0 0 (MQ below (gk_Q y A (fun v G1 => v = some (.int (nI (t_th (t_goF td pf hp (ru (fr f) 4) (ru (fr f) 5) (ru (fr f) 6)) (ol f).length (ol f)).length)) ∧ rp y G1 td ru fr lv lt et (va_up tl f (t_sum pf (tl f) (t_th (t_goF td pf hp (ru (fr f) 4) (ru (fr f) 5) (ru (fr f) 6)) (ol f).length (ol f)))) hf hp (va_up ol f (t_kp (t_goF td pf hp (ru (fr f) 4) (ru (fr f) 5) (ru (fr f) 6)) (ol f).length (ol f))) PS pf)) [.ref (ly_a y 0), .ref (ly_f y 1 f)].toArray s 0 0 A) (F0 m 16 ls []) := by
    intro dd
    induction dd using Nat.strongRecOn with
    | _ dd ih =>
    intro rest kept gone x ls H locs G hdd hlen h1 h2 h3 hinr hP hS hR hl
    have hl9 : (ol f).length ≤ 1000 := hn9
    rcases rest with _ | ⟨t, rest⟩
    · refine lv_iload hK.1.1 hK.1.2.1 dX4_throwOldParts_16 (lv_at hl 0 rfl) ?_
      refine lv_iload_n hK.1.1 hK.1.2.1 dX4_throwOldParts_18 rfl (lv_at hl 2 rfl) ?_
      refine lv_icmp_ge (tgt := 86) hK.1.1 hK.1.2.1 dX4_throwOldParts_19 (by decide) (fun _ => ?_) (fun c => absurd (nI_le (by simp only [List.length_nil] at hlen; omega) (by omega)) c)
      refine lv_iload hK.1.1 hK.1.2.1 dX4_throwOldParts_86 (lv_at hl 1 rfl) ?_
      exact gk_iret0 hK.1 hret hlk hP hS (Nat.le_of_ble_eq_true rfl) (Nat.le_of_ble_eq_true rfl) dX4_throwOldParts_88 ⟨by rw [h2]; rfl, by rw [h1, h3]; exact hR⟩
    · have htP : PS t := hinr t (by simp)
      refine lv_iload hK.1.1 hK.1.2.1 dX4_throwOldParts_16 (lv_at hl 0 rfl) ?_
      refine lv_iload_n hK.1.1 hK.1.2.1 dX4_throwOldParts_18 rfl (lv_at hl 2 rfl) ?_
      refine lv_icmp_ge (tgt := 86) hK.1.1 hK.1.2.1 dX4_throwOldParts_19 (by decide) (fun c => absurd ((nI_leI (by omega) (by simp only [List.length_cons] at hlen; omega)).mp c) (by simp only [List.length_cons] at hlen; omega)) (fun _ => ?_)
      refine lv_aload_n hK.1.1 hK.1.2.1 dX4_throwOldParts_22 rfl (lv_at hl 3 rfl) ?_
      refine lv_iload hK.1.1 hK.1.2.1 dX4_throwOldParts_23 (lv_at hl 0 rfl) ?_
      refine lv_iload hK.1.1 hK.1.2.1 dX4_throwOldParts_25 (lv_at hl 1 rfl) ?_
      refine lv_isub hK.1.1 hK.1.2.1 dX4_throwOldParts_27 ?_
      rw [pk_sub (Nat.le_add_left _ _), Nat.add_sub_cancel]
      refine gk_callV0 (n := 1) (As := [.int (nI kept.length)]) (rest := []) hK (c_list_get l hR hf5 (by rw [va_up_self]; exact gl_mid _ _ _)) (gk_gV q_8_8 q_8_9 q_8_10 q_2_13 q_8_11) ⟨rfl, by decide +kernel, by decide +kernel, by decide +kernel⟩ ⟨(Nat.le_of_ble_eq_true rfl), (Nat.le_of_ble_eq_true rfl)⟩ hP hS (rp_recvL hK.2.2.1 hP hR hf5) rfl hl.1 rfl (Nat.le_of_ble_eq_true rfl) dX4_throwOldParts_28 ⟨(Nat.le_of_ble_eq_true rfl), (Nat.le_of_ble_eq_true rfl)⟩ (fun v G1 H locs hw hP hS => ?_)
      obtain ⟨rfl, hG9⟩ := hw
      rw [hG9] at hP
      refine W.eq (g2 := F0 m 31 ls [.ref t]) rfl ?_
      refine gk_cast hK.1 hK.2.2.1.1 hP (hR.2.2.2.2.2.2.1 t htP) rfl q_5_11 dX4_throwOldParts_31 ?_
      refine lv_astore (lv' := [(6, .ref t), (5, .int (nI (kept.length + gone))), (4, .int (nI gone)), (3, .int (nI (ol f).length)), (2, .ref (ly_f y 3 f)), (0, .ref (ly_a y 0)), (1, .ref (ly_f y 1 f))]) hK.1.1 hK.1.2.1 dX4_throwOldParts_34 hl (by decide) rfl (fun ls hl => ?_)
      refine lv_aload_n hK.1.1 hK.1.2.1 dX4_throwOldParts_36 rfl (lv_at hl 5 rfl) ?_
      refine lv_aload hK.1.1 hK.1.2.1 dX4_throwOldParts_37 (lv_at hl 0 rfl) ?_
      refine lv_aload_n hK.1.1 hK.1.2.1 dX4_throwOldParts_39 rfl (lv_at hl 6 rfl) ?_
      refine tr_75 hK hP hR hf5 dX4_throwOldParts_40 ?_
      refine lv_iload_n hK.1.1 hK.1.2.1 dX4_throwOldParts_43 rfl (lv_at hl 3 rfl) ?_
      refine lv_iload hK.1.1 hK.1.2.1 dX4_throwOldParts_44 (lv_at hl 2 rfl) ?_
      refine lv_isub hK.1.1 hK.1.2.1 dX4_throwOldParts_46 ?_
      rw [pk_sub (show gone ≤ (ol f).length by omega)]
      refine gk_callV0 (n := 3) (As := [.ref t, .ref (ly_f y 0 (fr f)), .int (nI ((ol f).length - gone))]) (rest := []) hK (c_X4_mustGo l hR (th := (nI ((ol f).length - gone))) (hR.2.2.2.1 f hf5).1 htP) (gk_gV q_9_10 q_9_11 q_9_12 q_1_2 q_9_13) ⟨rfl, by decide +kernel, by decide +kernel, by decide +kernel⟩ ⟨(Nat.le_of_ble_eq_true rfl), (Nat.le_of_ble_eq_true rfl)⟩ hP hS (gk_recv hK.2.2.1.1 hP hR.1 rfl) rfl hl.1 rfl (Nat.le_of_ble_eq_true rfl) dX4_throwOldParts_47 ⟨(Nat.le_of_ble_eq_true rfl), (Nat.le_of_ble_eq_true rfl)⟩ (fun v G1 H locs hw hP hS => ?_)
      obtain ⟨rfl, hG9⟩ := hw
      rw [hG9] at hP
      refine W.eq (g2 := F0 m 50 ls [.int (rg_b (t_go td (pf 1 t) (ru (fr f) 4) (ru (fr f) 5) (ru (fr f) 6) (t_held hp t) (nI ((ol f).length - gone))))]) rfl ?_
      refine lv_if_eq (tgt := 80) hK.1.1 hK.1.2.1 dX4_throwOldParts_50 (by decide) (fun c50_1 => ?_) (fun c50_1 => ?_)
      · have hgo : ¬ (t_goF td pf hp (ru (fr f) 4) (ru (fr f) 5) (ru (fr f) 6)) t ((ol f).length - gone) = true := fun hz => by have h8 := rg_b0.mp c50_1; exact absurd (hz.symm.trans h8) (by decide)
        refine lv_iinc (v := nI ((kept.length + gone) + 1)) (lv' := [(5, .int (nI ((kept.length + gone) + 1))), (6, .ref t), (4, .int (nI gone)), (3, .int (nI (ol f).length)), (2, .ref (ly_f y 3 f)), (0, .ref (ly_a y 0)), (1, .ref (ly_f y 1 f))]) hK.1.1 hK.1.2.1 dX4_throwOldParts_80 hl (k := 1) rfl (nI_1 (kept.length + gone)) (by decide) rfl (fun ls hl => ?_)
        have hl : lv_has ls 7 [(5, .int (nI ((kept ++ [t]).length + gone))), (6, .ref t), (4, .int (nI gone)), (3, .int (nI (ol f).length)), (2, .ref (ly_f y 3 f)), (0, .ref (ly_a y 0)), (1, .ref (ly_f y 1 f))] := by rw [show (kept ++ [t]).length + gone = kept.length + gone + 1 by simp; omega]; exact hl
        refine lv_goto (tgt := 16) hK.1.1 hK.1.2.1 dX4_throwOldParts_83 (by decide) ?_
        exact ih (rest.length) (by simp only [List.length_cons] at hdd; omega)  rest (kept ++ [t]) gone x ls _ _ _ rfl (by simp only [List.length_cons, List.length_append, List.length_nil] at hlen ⊢; omega) (by rw [h1]; simp only [t_kp, if_neg hgo, List.append_assoc, List.singleton_append]) (by rw [h2]; simp only [t_th, if_neg hgo]) (by rw [h3]; simp only [t_th, if_neg hgo]) (by rw [List.append_assoc]; exact hinr) hP hS (by rw [List.append_assoc]; exact hR) (lv_sub hl [0, 2, 3, 4, 5, 6] rfl)
      · have hgo : (t_goF td pf hp (ru (fr f) 4) (ru (fr f) 5) (ru (fr f) 6)) t ((ol f).length - gone) = true := by cases hz : (t_goF td pf hp (ru (fr f) 4) (ru (fr f) 5) (ru (fr f) 6)) t ((ol f).length - gone) with | true => rfl | false => exact absurd (rg_b0.mpr hz) c50_1
        refine lv_aload_n hK.1.1 hK.1.2.1 dX4_throwOldParts_53 rfl (lv_at hl 6 rfl) ?_
        refine lv_dup hK.1.1 hK.1.2.1 dX4_throwOldParts_54 rfl ?_
        refine tr_160 hK hP hR hf5 dX4_throwOldParts_55 ?_
        refine lv_aload hK.1.1 hK.1.2.1 dX4_throwOldParts_58 (lv_at hl 0 rfl) ?_
        refine tr_104 hK hP hR htP dX4_throwOldParts_60 ?_
        refine lv_iadd hK.1.1 hK.1.2.1 dX4_throwOldParts_63 ?_
        refine tw_160 hK hP hS hR hf5 dX4_throwOldParts_64 (fun H locs G hP hS hR => ?_)
        rw [va_up_up, va_up_self] at hR
        refine lv_aload_n hK.1.1 hK.1.2.1 dX4_throwOldParts_67 rfl (lv_at hl 4 rfl) ?_
        refine lv_iload hK.1.1 hK.1.2.1 dX4_throwOldParts_68 (lv_at hl 1 rfl) ?_
        refine lv_iload hK.1.1 hK.1.2.1 dX4_throwOldParts_70 (lv_at hl 2 rfl) ?_
        refine lv_isub hK.1.1 hK.1.2.1 dX4_throwOldParts_72 ?_
        rw [pk_sub (Nat.le_add_left _ _), Nat.add_sub_cancel]
        refine gk_callV0 (n := 1) (As := [.int (nI kept.length)]) (rest := []) hK (c_list_remove l hR hf5 (by rw [va_up_self]; exact hinr) (by rw [va_up_self]; exact gl_mid _ _ _)) (gk_gV q_9_16 q_9_17 q_9_18 q_2_13 q_9_19) ⟨rfl, by decide +kernel, by decide +kernel, by decide +kernel⟩ ⟨(Nat.le_of_ble_eq_true rfl), (Nat.le_of_ble_eq_true rfl)⟩ hP hS (rp_recvL hK.2.2.1 hP hR hf5) rfl hl.1 rfl (Nat.le_of_ble_eq_true rfl) dX4_throwOldParts_73 ⟨(Nat.le_of_ble_eq_true rfl), (Nat.le_of_ble_eq_true rfl)⟩ (fun v G1 H locs hw hP hS => ?_)
        obtain ⟨rfl, hR⟩ := hw
        refine W.eq (g2 := F0 m 76 ls [.ref t]) rfl ?_
        rw [va_up_up, va_up_self, gl_erase] at hR
        refine lv_pop hK.1.1 hK.1.2.1 dX4_throwOldParts_76 rfl ?_
        refine lv_iinc (v := nI (gone + 1)) (lv' := [(4, .int (nI (gone + 1))), (6, .ref t), (5, .int (nI (kept.length + gone))), (3, .int (nI (ol f).length)), (2, .ref (ly_f y 3 f)), (0, .ref (ly_a y 0)), (1, .ref (ly_f y 1 f))]) hK.1.1 hK.1.2.1 dX4_throwOldParts_77 hl (k := 2) rfl (nI_1 gone) (by decide) rfl (fun ls hl => ?_)
        refine lv_iinc (v := nI ((kept.length + gone) + 1)) (lv' := [(5, .int (nI ((kept.length + gone) + 1))), (4, .int (nI (gone + 1))), (6, .ref t), (3, .int (nI (ol f).length)), (2, .ref (ly_f y 3 f)), (0, .ref (ly_a y 0)), (1, .ref (ly_f y 1 f))]) hK.1.1 hK.1.2.1 dX4_throwOldParts_80 hl (k := 2) rfl (nI_1 (kept.length + gone)) (by decide) rfl (fun ls hl => ?_)
        have hl : lv_has ls 7 [(5, .int (nI (kept.length + (gone + 1)))), (4, .int (nI (gone + 1))), (6, .ref t), (3, .int (nI (ol f).length)), (2, .ref (ly_f y 3 f)), (0, .ref (ly_a y 0)), (1, .ref (ly_f y 1 f))] := by rw [Nat.add_assoc] at hl; exact hl
        refine lv_goto (tgt := 16) hK.1.1 hK.1.2.1 dX4_throwOldParts_83 (by decide) ?_
        exact ih (rest.length) (by simp only [List.length_cons] at hdd; omega)  rest kept (gone + 1) (x + pf 0 t) ls _ _ _ rfl (by simp only [List.length_cons] at hlen; omega) (by rw [h1]; simp only [t_kp, if_pos hgo]; rw [Nat.sub_sub]) (by rw [h2]; simp only [t_th, if_pos hgo, List.length_cons]; rw [Nat.sub_sub]; omega) (by rw [h3]; simp only [t_th, if_pos hgo, t_sum]; rw [Nat.sub_sub]) (fun q hq => hinr q (by simp only [List.mem_append, List.mem_cons] at hq ⊢; rcases hq with hq | hq; exact Or.inl hq; exact Or.inr (Or.inr hq))) hP hS hR (lv_sub hl [0, 1, 3, 4, 5, 6] rfl)
  exact loop _ (ol f) [] 0 (tl f) ls _ _ _ rfl (by simp) rfl (by simp) rfl hin hP hS (by rw [List.nil_append, gl_upsame, gl_upsame]; exact hR) (lv_sub hl [0, 1, 2, 3, 4, 5] rfl)
