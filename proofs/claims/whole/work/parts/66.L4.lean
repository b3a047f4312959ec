/-! the law's other cases -/
theorem lg_zt {B d : Bool} {x : Int32} (h : B = d) (hx : x = rg_b d) (hc : ¬ x = 0) : lg_z B = 1 := by
  cases B
  · subst h; exact absurd hx hc
  · rfl
theorem lg_zf {B d : Bool} {x : Int32} (h : B = d) (hx : x = rg_b d) (hc : x = 0) : lg_z B = 0 := by
  cases B
  · rfl
  · subst h; exact absurd (hx.symm.trans hc) (by decide)
section XK
variable {td : Int32} {ru : Nat → Nat → Int32} {fr : Nat → Nat} {S : ts_T} {hf hp : Nat → Option Nat} {row : List Nat} {fi : Nat → Nat} {md mq : Int32} {mv : Nat → Nat → Int32} {N : Nat}
theorem xI_wr (h : xI td ru fr S hf hp row fi md mq mv N) {a t : Nat} (ha : a < 4) (hat : hp a = some t) : (mv 19 a = -1 ∧ ∃ f, f < 5 ∧ mv 18 a = nI f ∧ t = S.1 f) ∨ ∃ k, k < row.length ∧ mv 19 a = nI k ∧ row[k]? = some t ∧ ¬ mv 18 a = -1 := by
  rcases h.1.2.2.2.2.2 a ha with ⟨-, p, -, -⟩ | ⟨f, f5, -, q, ⟨p, z⟩ | ⟨j, u, e1, -, p, z⟩⟩
  · rw [p] at hat; cases hat
  · exact Or.inl ⟨z, f, f5, q, Option.some.inj (hat.symm.trans p)⟩
  · obtain rfl : t = u := Option.some.inj (hat.symm.trans p)
    exact Or.inr ⟨j, (List.getElem?_eq_some_iff.mp e1).1, z, e1, by rw [q]; exact m_nIn (by omega)⟩
theorem xI_due (h : xI td ru fr S hf hp row fi md mq mv N) (hN : N < 512) {f e : Nat} {ml : Nat → Nat} (hf5 : f < 5) (hml : ∀ f, f < 5 → ml f ≤ 5000 ∧ S.2.1 f = nI (ml f)) (he : e ≤ 5300) : m_due mv f (fr f) (ml f) e = t_due (S.2.2.2.2.2.2 0 (S.1 f)) (ru (fr f) 1) (ru (fr f) 2) (ru (fr f) 3) (ru (fr f) 4) (S.2.2.1 f) (S.2.1 f) (nI e) :=
  x_due h.1.2.2.2.1 h.1.2.2.1 h.2.2 (h.2.1.2.2.2.2.2.2.1 f hf5) (by omega) hf5 (hml f hf5).2 (hml f hf5).1 he
theorem xI_next (h : xI td ru fr S hf hp row fi md mq mv N) (hN : N < 512) {f e : Nat} {ml : Nat → Nat} (hf5 : f < 5) (hml : ∀ f, f < 5 → ml f ≤ 5000 ∧ S.2.1 f = nI (ml f)) (he : e ≤ 5000) (htd : td = nI e) {x : Int32} {v : Option Value}
    (hT : (∃ a, a < 201 ∧ (∀ b, b < a → t_due (S.2.2.2.2.2.2 0 (S.1 f)) (ru (fr f) 1) (ru (fr f) 2) (ru (fr f) 3) (ru (fr f) 4) (S.2.2.1 f) (S.2.1 f) (td + nI b) = false) ∧ t_due (S.2.2.2.2.2.2 0 (S.1 f)) (ru (fr f) 1) (ru (fr f) 2) (ru (fr f) 3) (ru (fr f) 4) (S.2.2.1 f) (S.2.1 f) (td + nI a) = true ∧ x = td + nI a) ∨ ((∀ b, b < 201 → t_due (S.2.2.2.2.2.2 0 (S.1 f)) (ru (fr f) 1) (ru (fr f) 2) (ru (fr f) 3) (ru (fr f) 4) (S.2.2.1 f) (S.2.1 f) (td + nI b) = false) ∧ x = -1))
    (hM : (∃ a, a < 201 ∧ (∀ b, b < a → m_due mv f (fr f) (ml f) (e + b) = false) ∧ m_due mv f (fr f) (ml f) (e + a) = true ∧ v = some (.int (nI (e + a)))) ∨ ((∀ b, b < 201 → m_due mv f (fr f) (ml f) (e + b) = false) ∧ v = some (.int (-1)))) : v = some (.int x) := by
  have key : ∀ b, b < 201 → m_due mv f (fr f) (ml f) (e + b) = t_due (S.2.2.2.2.2.2 0 (S.1 f)) (ru (fr f) 1) (ru (fr f) 2) (ru (fr f) 3) (ru (fr f) 4) (S.2.2.1 f) (S.2.1 f) (td + nI b) := fun b hb => by
    rw [xI_due h hN hf5 hml (by omega), htd, nI_add]
  rcases hT with ⟨a, h1, h2, h3, h4⟩ | ⟨h2, h4⟩
  · rcases hM with ⟨a2, g1, g2, g3, g4⟩ | ⟨g2, -⟩
    · have : a2 = a := by
        rcases Nat.lt_trichotomy a2 a with q | q | q
        · exact absurd ((key a2 g1).symm.trans g3) (by rw [h2 a2 q]; decide)
        · exact q
        · exact absurd ((key a h1).trans h3) (by rw [g2 a q]; decide)
      rw [g4, h4, this, htd, nI_add]
    · exact absurd ((key a h1).trans h3) (by rw [g2 a h1]; decide)
  · rcases hM with ⟨a2, g1, g2, g3, g4⟩ | ⟨-, g4⟩
    · exact absurd ((key a2 g1).symm.trans g3) (by rw [h2 a2 g1]; decide)
    · rw [g4, h4]
theorem xI_holds_v (h : xI td ru fr S hf hp row fi md mq mv N) (hN : N < 512) {a : Nat} (ha : a < 4) {z9 : Int32} {v : Option Value} (hT : (hf a = none ∧ z9 = -1) ∨ ∃ f t x, f < 5 ∧ hf a = some f ∧ hp a = some t ∧ t_plc (S.2.2.2.2.1 f) t x ∧ z9 = 100 * nI f + x)
    (hM : (mv 18 a = -1 ∧ v = some (.int (-1))) ∨ (¬ mv 18 a = -1 ∧ ((mv 19 a = -1 ∧ v = some (.int (100 * mv 18 a + 0))) ∨ ∃ q, q < 4096 ∧ mv 19 a = nI q ∧ v = some (.int (100 * mv 18 a + (1 + nI (m_cnt mv (mv 18 a) q))))))) : v = some (.int z9) := by
  rcases hM with ⟨h1, rfl⟩ | ⟨h1, ⟨h2, rfl⟩ | ⟨q, h2, h3, rfl⟩⟩
  · rw [xI_holds h hN ha (b := -1) hT (Or.inl ⟨h1, rfl⟩)]
  · rw [xI_holds h hN ha (b := 100 * mv 18 a + 0) hT (Or.inr ⟨h1, Or.inl ⟨h2, rfl⟩⟩)]
  · rw [xI_holds h hN ha hT (Or.inr ⟨h1, Or.inr ⟨q, h2, h3, rfl⟩⟩)]
end XK
set_option maxHeartbeats 4000000 in
set_option maxRecDepth 100000 in
theorem lw_0 {p : Program} {l : Launch} {e : Env} {s : State} {m : MethodId} {args : Array Value} {below : List Frame} {meth : Method} {c : Code} {H : Heap} {locs : List Loc} {cells slots : Nat} {Q : State → Prop} {ls : Array Slot} {y : ly_T} {A : Nat → Prop} {G : gk_G} {td : Int32} {ru : Nat → Nat → Int32} {fr lv : Nat → Nat} {lt et tl : Nat → Int32} {hf hp : Nat → Option Nat} {ol : Nat → List Nat} {PS : Nat → Prop} {pf : Nat → Nat → Int32} {ov : Int64} {md mq mt : Int32} {mv : Nat → Nat → Int32} {row : List Nat} {fi : Nat → Nat} {N i n9 sc : Nat} {sf : Nat → Int32} (hfl : l.stackTraces = false) (hK : gk_K p s m c args cL_law RL 7 y A) (hT : va_T .int sc n9 (fun j => .int (sf j)) A s s.heap) (hP : gk_P (ly_D y) A G H) (hS : va_S A s.heap H locs) (hR : rp y G td ru fr lv lt et tl hf hp ol PS pf ov md mq mt mv) (hI : xI td ru fr (lv, lt, et, tl, ol, PS, pf) hf hp row fi md mq mv N) (hN : N < 512) (hc : cells + 100 ≤ 601024) (hs : slots + 8000 ≤ 7293034) (hi : i + 7 ≤ n9) (hn9 : n9 ≤ 3584) (hl : lv_has ls 7 [(4, .int (nI i)), (0, .ref sc), (1, .ref (ly_a y 0)), (2, .ref (ly_a y 5)), (3, .ref (ly_a y 4))]) (kk : ∀ (ls : Array Slot) (H : Heap) (locs : List Loc) (G : gk_G) (td : Int32) (ru : Nat → Nat → Int32) (fr lv : Nat → Nat) (lt et tl : Nat → Int32) (hf hp : Nat → Option Nat) (ol : Nat → List Nat) (PS : Nat → Prop) (pf : Nat → Nat → Int32) (ov : Int64) (md mq mt : Int32) (mv : Nat → Nat → Int32) (row : List Nat) (fi : Nat → Nat), gk_P (ly_D y) A G H → va_S A s.heap H locs → rp y G td ru fr lv lt et tl hf hp ol PS pf ov md mq mt mv → xI td ru fr (lv, lt, et, tl, ol, PS, pf) hf hp row fi md mq mv (N + 1) → lv_has ls 7 [(4, .int (nI i)), (0, .ref sc), (1, .ref (ly_a y 0)), (2, .ref (ly_a y 5)), (3, .ref (ly_a y 4))] → W p l e { frames := 12, cells := 601024, slots := 7293034, locals := 444 } s m args below meth c H locs (cells + 100) (slots + 8000) Q (F0 m 1428 ls [])) : W p l e { frames := 12, cells := 601024, slots := 7293034, locals := 444 } s m args below meth c H locs cells slots Q (F0 m 140 ls []) := by
  refine lv_aload_n hK.1.1 hK.1.2.1 dL_law_140 rfl (lv_at hl 2 rfl) ?_
  refine lv_aload_n hK.1.1 hK.1.2.1 dL_law_141 rfl (lv_at hl 1 rfl) ?_
  refine lv_iload hK.1.1 hK.1.2.1 dL_law_142 (lv_at hl 0 rfl) ?_
  refine lv_iconst (v := 1) hK.1.1 hK.1.2.1 dL_law_144 (by decide) ?_
  refine lv_iadd hK.1.1 hK.1.2.1 dL_law_145 ?_
  rw [show nI i + 1 = nI (i + 1) from nI_add i 1]
  refine va_ti hK.1.1 hK.1.2.1 hT hS (vp_in_nI (show i + 1 < n9 by omega) (by omega)) (v := .int (sf (i + 1))) (by rw [nI_clamp (by omega)]) dL_law_146 ?_
  refine lv_aload_n hK.1.1 hK.1.2.1 dL_law_147 rfl (lv_at hl 1 rfl) ?_
  refine lv_iload hK.1.1 hK.1.2.1 dL_law_148 (lv_at hl 0 rfl) ?_
  refine lv_iconst (v := 2) hK.1.1 hK.1.2.1 dL_law_150 (by decide) ?_
  refine lv_iadd hK.1.1 hK.1.2.1 dL_law_151 ?_
  rw [show nI i + 2 = nI (i + 2) from nI_add i 2]
  refine va_ti hK.1.1 hK.1.2.1 hT hS (vp_in_nI (show i + 2 < n9 by omega) (by omega)) (v := .int (sf (i + 2))) (by rw [nI_clamp (by omega)]) dL_law_152 ?_
  refine lv_aload_n hK.1.1 hK.1.2.1 dL_law_153 rfl (lv_at hl 1 rfl) ?_
  refine lv_iload hK.1.1 hK.1.2.1 dL_law_154 (lv_at hl 0 rfl) ?_
  refine lv_iconst (v := 3) hK.1.1 hK.1.2.1 dL_law_156 (by decide) ?_
  refine lv_iadd hK.1.1 hK.1.2.1 dL_law_157 ?_
  rw [show nI i + 3 = nI (i + 3) from nI_add i 3]
  refine va_ti hK.1.1 hK.1.2.1 hT hS (vp_in_nI (show i + 3 < n9 by omega) (by omega)) (v := .int (sf (i + 3))) (by rw [nI_clamp (by omega)]) dL_law_158 ?_
  refine lv_aload_n hK.1.1 hK.1.2.1 dL_law_159 rfl (lv_at hl 1 rfl) ?_
  refine lv_iload hK.1.1 hK.1.2.1 dL_law_160 (lv_at hl 0 rfl) ?_
  refine lv_iconst (v := 4) hK.1.1 hK.1.2.1 dL_law_162 (by decide) ?_
  refine lv_iadd hK.1.1 hK.1.2.1 dL_law_163 ?_
  rw [show nI i + 4 = nI (i + 4) from nI_add i 4]
  refine va_ti hK.1.1 hK.1.2.1 hT hS (vp_in_nI (show i + 4 < n9 by omega) (by omega)) (v := .int (sf (i + 4))) (by rw [nI_clamp (by omega)]) dL_law_164 ?_
  refine lv_aload_n hK.1.1 hK.1.2.1 dL_law_165 rfl (lv_at hl 1 rfl) ?_
  refine lv_iload hK.1.1 hK.1.2.1 dL_law_166 (lv_at hl 0 rfl) ?_
  refine lv_iconst (v := 5) hK.1.1 hK.1.2.1 dL_law_168 (by decide) ?_
  refine lv_iadd hK.1.1 hK.1.2.1 dL_law_169 ?_
  rw [show nI i + 5 = nI (i + 5) from nI_add i 5]
  refine va_ti hK.1.1 hK.1.2.1 hT hS (vp_in_nI (show i + 5 < n9 by omega) (by omega)) (v := .int (sf (i + 5))) (by rw [nI_clamp (by omega)]) dL_law_170 ?_
  refine gk_callSW (n := 6) (As := [.ref (ly_a y 0), .int (sf (i + 1)), .int (sf (i + 2)), .int (sf (i + 3)), .int (sf (i + 4)), .int (sf (i + 5))]) (rest := []) hK (c_L_setDue l hfl hR (i := (sf (i + 1))) (size := (sf (i + 2))) (wd := (sf (i + 3))) (mo := (sf (i + 4))) (le := (sf (i + 5))) ) (gk_gS q_4_22 q_4_23 q_5_0 q_5_1) ⟨by decide +kernel, by decide +kernel, by decide +kernel⟩ ⟨(Nat.le_of_ble_eq_true rfl), (Nat.le_of_ble_eq_true rfl)⟩ hP hS rfl hl.1 rfl (Nat.le_of_ble_eq_true rfl) dL_law_171 ⟨(by show cells + 16 ≤ 601024; omega), (by show slots + 128 ≤ 7293034; omega)⟩ (fun v G1 H locs hw hP hS => ?_)
  rcases hw with ⟨r, hr, e1, hok, rfl, hR⟩ | ⟨ho, rfl, hR⟩ | ⟨⟨hno, hnk⟩, rfl, hR⟩
  · refine W.eq (g2 := F0 m 174 ls [.int 0]) rfl ?_
    refine lv_istore (lv' := [(5, .int 0), (4, .int (nI i)), (0, .ref sc), (1, .ref (ly_a y 0)), (2, .ref (ly_a y 5)), (3, .ref (ly_a y 4))]) hK.1.1 hK.1.2.1 dL_law_174 hl (by decide) rfl (fun ls hl => ?_)
    refine lv_aload_n hK.1.1 hK.1.2.1 dL_law_176 rfl (lv_at hl 4 rfl) ?_
    refine lv_aload_n hK.1.1 hK.1.2.1 dL_law_177 rfl (lv_at hl 2 rfl) ?_
    refine lv_iload hK.1.1 hK.1.2.1 dL_law_178 (lv_at hl 1 rfl) ?_
    refine lv_iconst (v := 1) hK.1.1 hK.1.2.1 dL_law_180 (by decide) ?_
    refine lv_iadd hK.1.1 hK.1.2.1 dL_law_181 ?_
    rw [show nI i + 1 = nI (i + 1) from nI_add i 1]
    refine va_ti hK.1.1 hK.1.2.1 hT hS (vp_in_nI (show i + 1 < n9 by omega) (by omega)) (v := .int (sf (i + 1))) (by rw [nI_clamp (by omega)]) dL_law_182 ?_
    refine lv_aload_n hK.1.1 hK.1.2.1 dL_law_183 rfl (lv_at hl 2 rfl) ?_
    refine lv_iload hK.1.1 hK.1.2.1 dL_law_184 (lv_at hl 1 rfl) ?_
    refine lv_iconst (v := 2) hK.1.1 hK.1.2.1 dL_law_186 (by decide) ?_
    refine lv_iadd hK.1.1 hK.1.2.1 dL_law_187 ?_
    rw [show nI i + 2 = nI (i + 2) from nI_add i 2]
    refine va_ti hK.1.1 hK.1.2.1 hT hS (vp_in_nI (show i + 2 < n9 by omega) (by omega)) (v := .int (sf (i + 2))) (by rw [nI_clamp (by omega)]) dL_law_188 ?_
    refine lv_aload_n hK.1.1 hK.1.2.1 dL_law_189 rfl (lv_at hl 2 rfl) ?_
    refine lv_iload hK.1.1 hK.1.2.1 dL_law_190 (lv_at hl 1 rfl) ?_
    refine lv_iconst (v := 3) hK.1.1 hK.1.2.1 dL_law_192 (by decide) ?_
    refine lv_iadd hK.1.1 hK.1.2.1 dL_law_193 ?_
    rw [show nI i + 3 = nI (i + 3) from nI_add i 3]
    refine va_ti hK.1.1 hK.1.2.1 hT hS (vp_in_nI (show i + 3 < n9 by omega) (by omega)) (v := .int (sf (i + 3))) (by rw [nI_clamp (by omega)]) dL_law_194 ?_
    refine lv_aload_n hK.1.1 hK.1.2.1 dL_law_195 rfl (lv_at hl 2 rfl) ?_
    refine lv_iload hK.1.1 hK.1.2.1 dL_law_196 (lv_at hl 1 rfl) ?_
    refine lv_iconst (v := 4) hK.1.1 hK.1.2.1 dL_law_198 (by decide) ?_
    refine lv_iadd hK.1.1 hK.1.2.1 dL_law_199 ?_
    rw [show nI i + 4 = nI (i + 4) from nI_add i 4]
    refine va_ti hK.1.1 hK.1.2.1 hT hS (vp_in_nI (show i + 4 < n9 by omega) (by omega)) (v := .int (sf (i + 4))) (by rw [nI_clamp (by omega)]) dL_law_200 ?_
    refine lv_aload_n hK.1.1 hK.1.2.1 dL_law_201 rfl (lv_at hl 2 rfl) ?_
    refine lv_iload hK.1.1 hK.1.2.1 dL_law_202 (lv_at hl 1 rfl) ?_
    refine lv_iconst (v := 5) hK.1.1 hK.1.2.1 dL_law_204 (by decide) ?_
    refine lv_iadd hK.1.1 hK.1.2.1 dL_law_205 ?_
    rw [show nI i + 5 = nI (i + 5) from nI_add i 5]
    refine va_ti hK.1.1 hK.1.2.1 hT hS (vp_in_nI (show i + 5 < n9 by omega) (by omega)) (v := .int (sf (i + 5))) (by rw [nI_clamp (by omega)]) dL_law_206 ?_
    refine gk_callV0 (n := 5) (As := [.int (sf (i + 1)), .int (sf (i + 2)), .int (sf (i + 3)), .int (sf (i + 4)), .int (sf (i + 5))]) (rest := []) hK (c_X5_setDue l hR (i := (sf (i + 1))) (size := (sf (i + 2))) (wd := (sf (i + 3))) (mo := (sf (i + 4))) (le := (sf (i + 5))) ) (gk_gV q_5_23 q_6_0 q_6_1 q_1_5 q_6_2) ⟨rfl, by decide +kernel, by decide +kernel, by decide +kernel⟩ ⟨(Nat.le_of_ble_eq_true rfl), (Nat.le_of_ble_eq_true rfl)⟩ hP hS (gk_recv hK.2.2.1.1 hP hR.2.2.2.2.2.2.2.2.1 rfl) rfl hl.1 rfl (Nat.le_of_ble_eq_true rfl) dL_law_207 ⟨(by show (cells + 16) + 0 ≤ 601024; omega), (by show (slots + 128) + 0 ≤ 7293034; omega)⟩ (fun v G1 H locs hw hP hS => ?_)
    obtain ⟨rfl, hw⟩ := hw
    rcases hw with ⟨r2, hr2, e2, hok2, hR⟩ | ⟨ho2, hR⟩ | ⟨hno2, hnk2, hR⟩
    · obtain rfl : r = r2 := (nI_eq (by omega) (by omega)).mp (e1.symm.trans e2)
      refine W.eq (g2 := F0 m 210 ls []) rfl ?_
      refine lv_aload_n hK.1.1 hK.1.2.1 dL_law_210 rfl (lv_at hl 4 rfl) ?_
      refine gk_callV0 (n := 0) (As := []) (rest := []) hK (c_X5_thrown l hR) (gk_gV q_6_14 q_6_15 q_6_16 q_1_5 q_6_17) ⟨rfl, by decide +kernel, by decide +kernel, by decide +kernel⟩ ⟨(Nat.le_of_ble_eq_true rfl), (Nat.le_of_ble_eq_true rfl)⟩ hP hS (gk_recv hK.2.2.1.1 hP hR.2.2.2.2.2.2.2.2.1 rfl) rfl hl.1 rfl (Nat.le_of_ble_eq_true rfl) dL_law_211 ⟨(by show ((cells + 16) + 0) + 0 ≤ 601024; omega), (by show ((slots + 128) + 0) + 0 ≤ 7293034; omega)⟩ (fun v G1 H locs hw hP hS => ?_)
      obtain ⟨rfl, hG9⟩ := hw
      rw [hG9] at hP
      refine W.eq (g2 := F0 m 214 ls [.int 0]) rfl ?_
      refine lv_iload hK.1.1 hK.1.2.1 dL_law_214 (lv_at hl 0 rfl) ?_
      refine lv_icmp_eq (tgt := 221) hK.1.1 hK.1.2.1 dL_law_216 (by decide) (fun _ => ?_) (fun c => absurd (by decide) c)
      refine lv_goto (tgt := 1428) hK.1.1 hK.1.2.1 dL_law_221 (by decide) ?_
      exact W.widen (show (((cells + 16) + 0) + 0) ≤ cells + 100 by omega) (show (((slots + 128) + 0) + 0) ≤ slots + 8000 by omega) (kk ls _ _ _ _ _ _ _ _ _ _ _ _ _ _ _ _ _ _ _ _ _ _ hP hS hR (xI_setDue hI hr hok) (lv_sub hl [1, 2, 3, 4, 5] rfl))
    · exact False.elim (absurd (e1 ▸ ho2) (rg_out_no hr (by decide)))
    · exact False.elim (hnk2 hok)
  · refine W.eq (g2 := F0 m 174 ls [.int 1]) rfl ?_
    refine lv_istore (lv' := [(5, .int 1), (4, .int (nI i)), (0, .ref sc), (1, .ref (ly_a y 0)), (2, .ref (ly_a y 5)), (3, .ref (ly_a y 4))]) hK.1.1 hK.1.2.1 dL_law_174 hl (by decide) rfl (fun ls hl => ?_)
    refine lv_aload_n hK.1.1 hK.1.2.1 dL_law_176 rfl (lv_at hl 4 rfl) ?_
    refine lv_aload_n hK.1.1 hK.1.2.1 dL_law_177 rfl (lv_at hl 2 rfl) ?_
    refine lv_iload hK.1.1 hK.1.2.1 dL_law_178 (lv_at hl 1 rfl) ?_
    refine lv_iconst (v := 1) hK.1.1 hK.1.2.1 dL_law_180 (by decide) ?_
    refine lv_iadd hK.1.1 hK.1.2.1 dL_law_181 ?_
    rw [show nI i + 1 = nI (i + 1) from nI_add i 1]
    refine va_ti hK.1.1 hK.1.2.1 hT hS (vp_in_nI (show i + 1 < n9 by omega) (by omega)) (v := .int (sf (i + 1))) (by rw [nI_clamp (by omega)]) dL_law_182 ?_
    refine lv_aload_n hK.1.1 hK.1.2.1 dL_law_183 rfl (lv_at hl 2 rfl) ?_
    refine lv_iload hK.1.1 hK.1.2.1 dL_law_184 (lv_at hl 1 rfl) ?_
    refine lv_iconst (v := 2) hK.1.1 hK.1.2.1 dL_law_186 (by decide) ?_
    refine lv_iadd hK.1.1 hK.1.2.1 dL_law_187 ?_
    rw [show nI i + 2 = nI (i + 2) from nI_add i 2]
    refine va_ti hK.1.1 hK.1.2.1 hT hS (vp_in_nI (show i + 2 < n9 by omega) (by omega)) (v := .int (sf (i + 2))) (by rw [nI_clamp (by omega)]) dL_law_188 ?_
    refine lv_aload_n hK.1.1 hK.1.2.1 dL_law_189 rfl (lv_at hl 2 rfl) ?_
    refine lv_iload hK.1.1 hK.1.2.1 dL_law_190 (lv_at hl 1 rfl) ?_
    refine lv_iconst (v := 3) hK.1.1 hK.1.2.1 dL_law_192 (by decide) ?_
    refine lv_iadd hK.1.1 hK.1.2.1 dL_law_193 ?_
    rw [show nI i + 3 = nI (i + 3) from nI_add i 3]
    refine va_ti hK.1.1 hK.1.2.1 hT hS (vp_in_nI (show i + 3 < n9 by omega) (by omega)) (v := .int (sf (i + 3))) (by rw [nI_clamp (by omega)]) dL_law_194 ?_
    refine lv_aload_n hK.1.1 hK.1.2.1 dL_law_195 rfl (lv_at hl 2 rfl) ?_
    refine lv_iload hK.1.1 hK.1.2.1 dL_law_196 (lv_at hl 1 rfl) ?_
    refine lv_iconst (v := 4) hK.1.1 hK.1.2.1 dL_law_198 (by decide) ?_
    refine lv_iadd hK.1.1 hK.1.2.1 dL_law_199 ?_
    rw [show nI i + 4 = nI (i + 4) from nI_add i 4]
    refine va_ti hK.1.1 hK.1.2.1 hT hS (vp_in_nI (show i + 4 < n9 by omega) (by omega)) (v := .int (sf (i + 4))) (by rw [nI_clamp (by omega)]) dL_law_200 ?_
    refine lv_aload_n hK.1.1 hK.1.2.1 dL_law_201 rfl (lv_at hl 2 rfl) ?_
    refine lv_iload hK.1.1 hK.1.2.1 dL_law_202 (lv_at hl 1 rfl) ?_
    refine lv_iconst (v := 5) hK.1.1 hK.1.2.1 dL_law_204 (by decide) ?_
    refine lv_iadd hK.1.1 hK.1.2.1 dL_law_205 ?_
    rw [show nI i + 5 = nI (i + 5) from nI_add i 5]
    refine va_ti hK.1.1 hK.1.2.1 hT hS (vp_in_nI (show i + 5 < n9 by omega) (by omega)) (v := .int (sf (i + 5))) (by rw [nI_clamp (by omega)]) dL_law_206 ?_
    refine gk_callV0 (n := 5) (As := [.int (sf (i + 1)), .int (sf (i + 2)), .int (sf (i + 3)), .int (sf (i + 4)), .int (sf (i + 5))]) (rest := []) hK (c_X5_setDue l hR (i := (sf (i + 1))) (size := (sf (i + 2))) (wd := (sf (i + 3))) (mo := (sf (i + 4))) (le := (sf (i + 5))) ) (gk_gV q_5_23 q_6_0 q_6_1 q_1_5 q_6_2) ⟨rfl, by decide +kernel, by decide +kernel, by decide +kernel⟩ ⟨(Nat.le_of_ble_eq_true rfl), (Nat.le_of_ble_eq_true rfl)⟩ hP hS (gk_recv hK.2.2.1.1 hP hR.2.2.2.2.2.2.2.2.1 rfl) rfl hl.1 rfl (Nat.le_of_ble_eq_true rfl) dL_law_207 ⟨(by show (cells + 16) + 0 ≤ 601024; omega), (by show (slots + 128) + 0 ≤ 7293034; omega)⟩ (fun v G1 H locs hw hP hS => ?_)
    obtain ⟨rfl, hw⟩ := hw
    rcases hw with ⟨r2, hr2, e2, hok2, hR⟩ | ⟨ho2, hR⟩ | ⟨hno2, hnk2, hR⟩
    · exact False.elim (absurd (e2 ▸ ho) (rg_out_no hr2 (by decide)))
    · refine W.eq (g2 := F0 m 210 ls []) rfl ?_
      refine lv_aload_n hK.1.1 hK.1.2.1 dL_law_210 rfl (lv_at hl 4 rfl) ?_
      refine gk_callV0 (n := 0) (As := []) (rest := []) hK (c_X5_thrown l hR) (gk_gV q_6_14 q_6_15 q_6_16 q_1_5 q_6_17) ⟨rfl, by decide +kernel, by decide +kernel, by decide +kernel⟩ ⟨(Nat.le_of_ble_eq_true rfl), (Nat.le_of_ble_eq_true rfl)⟩ hP hS (gk_recv hK.2.2.1.1 hP hR.2.2.2.2.2.2.2.2.1 rfl) rfl hl.1 rfl (Nat.le_of_ble_eq_true rfl) dL_law_211 ⟨(by show ((cells + 16) + 0) + 0 ≤ 601024; omega), (by show ((slots + 128) + 0) + 0 ≤ 7293034; omega)⟩ (fun v G1 H locs hw hP hS => ?_)
      obtain ⟨rfl, hG9⟩ := hw
      rw [hG9] at hP
      refine W.eq (g2 := F0 m 214 ls [.int 1]) rfl ?_
      refine lv_iload hK.1.1 hK.1.2.1 dL_law_214 (lv_at hl 0 rfl) ?_
      refine lv_icmp_eq (tgt := 221) hK.1.1 hK.1.2.1 dL_law_216 (by decide) (fun _ => ?_) (fun c => absurd (by decide) c)
      refine lv_goto (tgt := 1428) hK.1.1 hK.1.2.1 dL_law_221 (by decide) ?_
      exact W.widen (show (((cells + 16) + 0) + 0) ≤ cells + 100 by omega) (show (((slots + 128) + 0) + 0) ≤ slots + 8000 by omega) (kk ls _ _ _ _ _ _ _ _ _ _ _ _ _ _ _ _ _ _ _ _ _ _ hP hS hR (xI_mono hI) (lv_sub hl [1, 2, 3, 4, 5] rfl))
    · exact False.elim (hno2 ho)
  · refine W.eq (g2 := F0 m 174 ls [.int 2]) rfl ?_
    refine lv_istore (lv' := [(5, .int 2), (4, .int (nI i)), (0, .ref sc), (1, .ref (ly_a y 0)), (2, .ref (ly_a y 5)), (3, .ref (ly_a y 4))]) hK.1.1 hK.1.2.1 dL_law_174 hl (by decide) rfl (fun ls hl => ?_)
    refine lv_aload_n hK.1.1 hK.1.2.1 dL_law_176 rfl (lv_at hl 4 rfl) ?_
    refine lv_aload_n hK.1.1 hK.1.2.1 dL_law_177 rfl (lv_at hl 2 rfl) ?_
    refine lv_iload hK.1.1 hK.1.2.1 dL_law_178 (lv_at hl 1 rfl) ?_
    refine lv_iconst (v := 1) hK.1.1 hK.1.2.1 dL_law_180 (by decide) ?_
    refine lv_iadd hK.1.1 hK.1.2.1 dL_law_181 ?_
    rw [show nI i + 1 = nI (i + 1) from nI_add i 1]
    refine va_ti hK.1.1 hK.1.2.1 hT hS (vp_in_nI (show i + 1 < n9 by omega) (by omega)) (v := .int (sf (i + 1))) (by rw [nI_clamp (by omega)]) dL_law_182 ?_
    refine lv_aload_n hK.1.1 hK.1.2.1 dL_law_183 rfl (lv_at hl 2 rfl) ?_
    refine lv_iload hK.1.1 hK.1.2.1 dL_law_184 (lv_at hl 1 rfl) ?_
    refine lv_iconst (v := 2) hK.1.1 hK.1.2.1 dL_law_186 (by decide) ?_
    refine lv_iadd hK.1.1 hK.1.2.1 dL_law_187 ?_
    rw [show nI i + 2 = nI (i + 2) from nI_add i 2]
    refine va_ti hK.1.1 hK.1.2.1 hT hS (vp_in_nI (show i + 2 < n9 by omega) (by omega)) (v := .int (sf (i + 2))) (by rw [nI_clamp (by omega)]) dL_law_188 ?_
    refine lv_aload_n hK.1.1 hK.1.2.1 dL_law_189 rfl (lv_at hl 2 rfl) ?_
    refine lv_iload hK.1.1 hK.1.2.1 dL_law_190 (lv_at hl 1 rfl) ?_
    refine lv_iconst (v := 3) hK.1.1 hK.1.2.1 dL_law_192 (by decide) ?_
    refine lv_iadd hK.1.1 hK.1.2.1 dL_law_193 ?_
    rw [show nI i + 3 = nI (i + 3) from nI_add i 3]
    refine va_ti hK.1.1 hK.1.2.1 hT hS (vp_in_nI (show i + 3 < n9 by omega) (by omega)) (v := .int (sf (i + 3))) (by rw [nI_clamp (by omega)]) dL_law_194 ?_
    refine lv_aload_n hK.1.1 hK.1.2.1 dL_law_195 rfl (lv_at hl 2 rfl) ?_
    refine lv_iload hK.1.1 hK.1.2.1 dL_law_196 (lv_at hl 1 rfl) ?_
    refine lv_iconst (v := 4) hK.1.1 hK.1.2.1 dL_law_198 (by decide) ?_
    refine lv_iadd hK.1.1 hK.1.2.1 dL_law_199 ?_
    rw [show nI i + 4 = nI (i + 4) from nI_add i 4]
    refine va_ti hK.1.1 hK.1.2.1 hT hS (vp_in_nI (show i + 4 < n9 by omega) (by omega)) (v := .int (sf (i + 4))) (by rw [nI_clamp (by omega)]) dL_law_200 ?_
    refine lv_aload_n hK.1.1 hK.1.2.1 dL_law_201 rfl (lv_at hl 2 rfl) ?_
    refine lv_iload hK.1.1 hK.1.2.1 dL_law_202 (lv_at hl 1 rfl) ?_
    refine lv_iconst (v := 5) hK.1.1 hK.1.2.1 dL_law_204 (by decide) ?_
    refine lv_iadd hK.1.1 hK.1.2.1 dL_law_205 ?_
    rw [show nI i + 5 = nI (i + 5) from nI_add i 5]
    refine va_ti hK.1.1 hK.1.2.1 hT hS (vp_in_nI (show i + 5 < n9 by omega) (by omega)) (v := .int (sf (i + 5))) (by rw [nI_clamp (by omega)]) dL_law_206 ?_
    refine gk_callV0 (n := 5) (As := [.int (sf (i + 1)), .int (sf (i + 2)), .int (sf (i + 3)), .int (sf (i + 4)), .int (sf (i + 5))]) (rest := []) hK (c_X5_setDue l hR (i := (sf (i + 1))) (size := (sf (i + 2))) (wd := (sf (i + 3))) (mo := (sf (i + 4))) (le := (sf (i + 5))) ) (gk_gV q_5_23 q_6_0 q_6_1 q_1_5 q_6_2) ⟨rfl, by decide +kernel, by decide +kernel, by decide +kernel⟩ ⟨(Nat.le_of_ble_eq_true rfl), (Nat.le_of_ble_eq_true rfl)⟩ hP hS (gk_recv hK.2.2.1.1 hP hR.2.2.2.2.2.2.2.2.1 rfl) rfl hl.1 rfl (Nat.le_of_ble_eq_true rfl) dL_law_207 ⟨(by show (cells + 16) + 0 ≤ 601024; omega), (by show (slots + 128) + 0 ≤ 7293034; omega)⟩ (fun v G1 H locs hw hP hS => ?_)
    obtain ⟨rfl, hw⟩ := hw
    rcases hw with ⟨r2, hr2, e2, hok2, hR⟩ | ⟨ho2, hR⟩ | ⟨hno2, hnk2, hR⟩
    · exact False.elim (hnk hok2)
    · exact False.elim (hno ho2)
    · refine W.eq (g2 := F0 m 210 ls []) rfl ?_
      refine lv_aload_n hK.1.1 hK.1.2.1 dL_law_210 rfl (lv_at hl 4 rfl) ?_
      refine gk_callV0 (n := 0) (As := []) (rest := []) hK (c_X5_thrown l hR) (gk_gV q_6_14 q_6_15 q_6_16 q_1_5 q_6_17) ⟨rfl, by decide +kernel, by decide +kernel, by decide +kernel⟩ ⟨(Nat.le_of_ble_eq_true rfl), (Nat.le_of_ble_eq_true rfl)⟩ hP hS (gk_recv hK.2.2.1.1 hP hR.2.2.2.2.2.2.2.2.1 rfl) rfl hl.1 rfl (Nat.le_of_ble_eq_true rfl) dL_law_211 ⟨(by show ((cells + 16) + 0) + 0 ≤ 601024; omega), (by show ((slots + 128) + 0) + 0 ≤ 7293034; omega)⟩ (fun v G1 H locs hw hP hS => ?_)
      obtain ⟨rfl, hG9⟩ := hw
      rw [hG9] at hP
      refine W.eq (g2 := F0 m 214 ls [.int 2]) rfl ?_
      refine lv_iload hK.1.1 hK.1.2.1 dL_law_214 (lv_at hl 0 rfl) ?_
      refine lv_icmp_eq (tgt := 221) hK.1.1 hK.1.2.1 dL_law_216 (by decide) (fun _ => ?_) (fun c => absurd (by decide) c)
      refine lv_goto (tgt := 1428) hK.1.1 hK.1.2.1 dL_law_221 (by decide) ?_
      exact W.widen (show (((cells + 16) + 0) + 0) ≤ cells + 100 by omega) (show (((slots + 128) + 0) + 0) ≤ slots + 8000 by omega) (kk ls _ _ _ _ _ _ _ _ _ _ _ _ _ _ _ _ _ _ _ _ _ _ hP hS hR (xI_mono hI) (lv_sub hl [1, 2, 3, 4, 5] rfl))
set_option maxHeartbeats 4000000 in
set_option maxRecDepth 100000 in
theorem lw_1 {p : Program} {l : Launch} {e : Env} {s : State} {m : MethodId} {args : Array Value} {below : List Frame} {meth : Method} {c : Code} {H : Heap} {locs : List Loc} {cells slots : Nat} {Q : State → Prop} {ls : Array Slot} {y : ly_T} {A : Nat → Prop} {G : gk_G} {td : Int32} {ru : Nat → Nat → Int32} {fr lv : Nat → Nat} {lt et tl : Nat → Int32} {hf hp : Nat → Option Nat} {ol : Nat → List Nat} {PS : Nat → Prop} {pf : Nat → Nat → Int32} {ov : Int64} {md mq mt : Int32} {mv : Nat → Nat → Int32} {row : List Nat} {fi : Nat → Nat} {N i n9 sc : Nat} {sf : Nat → Int32} (hfl : l.stackTraces = false) (hK : gk_K p s m c args cL_law RL 7 y A) (hT : va_T .int sc n9 (fun j => .int (sf j)) A s s.heap) (hP : gk_P (ly_D y) A G H) (hS : va_S A s.heap H locs) (hR : rp y G td ru fr lv lt et tl hf hp ol PS pf ov md mq mt mv) (hI : xI td ru fr (lv, lt, et, tl, ol, PS, pf) hf hp row fi md mq mv N) (hN : N < 512) (hc : cells + 100 ≤ 601024) (hs : slots + 8000 ≤ 7293034) (hi : i + 7 ≤ n9) (hn9 : n9 ≤ 3584) (hl : lv_has ls 7 [(4, .int (nI i)), (0, .ref sc), (1, .ref (ly_a y 0)), (2, .ref (ly_a y 5)), (3, .ref (ly_a y 4))]) (kk : ∀ (ls : Array Slot) (H : Heap) (locs : List Loc) (G : gk_G) (td : Int32) (ru : Nat → Nat → Int32) (fr lv : Nat → Nat) (lt et tl : Nat → Int32) (hf hp : Nat → Option Nat) (ol : Nat → List Nat) (PS : Nat → Prop) (pf : Nat → Nat → Int32) (ov : Int64) (md mq mt : Int32) (mv : Nat → Nat → Int32) (row : List Nat) (fi : Nat → Nat), gk_P (ly_D y) A G H → va_S A s.heap H locs → rp y G td ru fr lv lt et tl hf hp ol PS pf ov md mq mt mv → xI td ru fr (lv, lt, et, tl, ol, PS, pf) hf hp row fi md mq mv (N + 1) → lv_has ls 7 [(4, .int (nI i)), (0, .ref sc), (1, .ref (ly_a y 0)), (2, .ref (ly_a y 5)), (3, .ref (ly_a y 4))] → W p l e { frames := 12, cells := 601024, slots := 7293034, locals := 444 } s m args below meth c H locs (cells + 100) (slots + 8000) Q (F0 m 1428 ls [])) : W p l e { frames := 12, cells := 601024, slots := 7293034, locals := 444 } s m args below meth c H locs cells slots Q (F0 m 224 ls []) := by
  refine lv_aload_n hK.1.1 hK.1.2.1 dL_law_224 rfl (lv_at hl 2 rfl) ?_
  refine lv_aload_n hK.1.1 hK.1.2.1 dL_law_225 rfl (lv_at hl 1 rfl) ?_
  refine lv_iload hK.1.1 hK.1.2.1 dL_law_226 (lv_at hl 0 rfl) ?_
  refine lv_iconst (v := 1) hK.1.1 hK.1.2.1 dL_law_228 (by decide) ?_
  refine lv_iadd hK.1.1 hK.1.2.1 dL_law_229 ?_
  rw [show nI i + 1 = nI (i + 1) from nI_add i 1]
  refine va_ti hK.1.1 hK.1.2.1 hT hS (vp_in_nI (show i + 1 < n9 by omega) (by omega)) (v := .int (sf (i + 1))) (by rw [nI_clamp (by omega)]) dL_law_230 ?_
  refine lv_aload_n hK.1.1 hK.1.2.1 dL_law_231 rfl (lv_at hl 1 rfl) ?_
  refine lv_iload hK.1.1 hK.1.2.1 dL_law_232 (lv_at hl 0 rfl) ?_
  refine lv_iconst (v := 2) hK.1.1 hK.1.2.1 dL_law_234 (by decide) ?_
  refine lv_iadd hK.1.1 hK.1.2.1 dL_law_235 ?_
  rw [show nI i + 2 = nI (i + 2) from nI_add i 2]
  refine va_ti hK.1.1 hK.1.2.1 hT hS (vp_in_nI (show i + 2 < n9 by omega) (by omega)) (v := .int (sf (i + 2))) (by rw [nI_clamp (by omega)]) dL_law_236 ?_
  refine lv_aload_n hK.1.1 hK.1.2.1 dL_law_237 rfl (lv_at hl 1 rfl) ?_
  refine lv_iload hK.1.1 hK.1.2.1 dL_law_238 (lv_at hl 0 rfl) ?_
  refine lv_iconst (v := 3) hK.1.1 hK.1.2.1 dL_law_240 (by decide) ?_
  refine lv_iadd hK.1.1 hK.1.2.1 dL_law_241 ?_
  rw [show nI i + 3 = nI (i + 3) from nI_add i 3]
  refine va_ti hK.1.1 hK.1.2.1 hT hS (vp_in_nI (show i + 3 < n9 by omega) (by omega)) (v := .int (sf (i + 3))) (by rw [nI_clamp (by omega)]) dL_law_242 ?_
  refine lv_aload_n hK.1.1 hK.1.2.1 dL_law_243 rfl (lv_at hl 1 rfl) ?_
  refine lv_iload hK.1.1 hK.1.2.1 dL_law_244 (lv_at hl 0 rfl) ?_
  refine lv_iconst (v := 4) hK.1.1 hK.1.2.1 dL_law_246 (by decide) ?_
  refine lv_iadd hK.1.1 hK.1.2.1 dL_law_247 ?_
  rw [show nI i + 4 = nI (i + 4) from nI_add i 4]
  refine va_ti hK.1.1 hK.1.2.1 hT hS (vp_in_nI (show i + 4 < n9 by omega) (by omega)) (v := .int (sf (i + 4))) (by rw [nI_clamp (by omega)]) dL_law_248 ?_
  refine lv_if_eq (tgt := 256) hK.1.1 hK.1.2.1 dL_law_249 (by decide) (fun c249_1 => ?_) (fun c249_1 => ?_)
  · refine lv_iconst (v := 0) hK.1.1 hK.1.2.1 dL_law_256 (by decide) ?_
    refine lv_aload_n hK.1.1 hK.1.2.1 dL_law_257 rfl (lv_at hl 1 rfl) ?_
    refine lv_iload hK.1.1 hK.1.2.1 dL_law_258 (lv_at hl 0 rfl) ?_
    refine lv_iconst (v := 5) hK.1.1 hK.1.2.1 dL_law_260 (by decide) ?_
    refine lv_iadd hK.1.1 hK.1.2.1 dL_law_261 ?_
    rw [show nI i + 5 = nI (i + 5) from nI_add i 5]
    refine va_ti hK.1.1 hK.1.2.1 hT hS (vp_in_nI (show i + 5 < n9 by omega) (by omega)) (v := .int (sf (i + 5))) (by rw [nI_clamp (by omega)]) dL_law_262 ?_
    refine lv_if_eq (tgt := 270) hK.1.1 hK.1.2.1 dL_law_263 (by decide) (fun c263_2 => ?_) (fun c263_2 => ?_)
    · refine lv_iconst (v := 0) hK.1.1 hK.1.2.1 dL_law_270 (by decide) ?_
      refine lv_aload_n hK.1.1 hK.1.2.1 dL_law_271 rfl (lv_at hl 1 rfl) ?_
      refine lv_iload hK.1.1 hK.1.2.1 dL_law_272 (lv_at hl 0 rfl) ?_
      refine lv_bipush (v := 6) hK.1.1 hK.1.2.1 dL_law_274 (by decide) ?_
      refine lv_iadd hK.1.1 hK.1.2.1 dL_law_276 ?_
      rw [show nI i + 6 = nI (i + 6) from nI_add i 6]
      refine va_ti hK.1.1 hK.1.2.1 hT hS (vp_in_nI (show i + 6 < n9 by omega) (by omega)) (v := .int (sf (i + 6))) (by rw [nI_clamp (by omega)]) dL_law_277 ?_
      refine lv_if_eq (tgt := 285) hK.1.1 hK.1.2.1 dL_law_278 (by decide) (fun c278_3 => ?_) (fun c278_3 => ?_)
      · refine lv_iconst (v := 0) hK.1.1 hK.1.2.1 dL_law_285 (by decide) ?_
        refine gk_callSW (n := 7) (As := [.ref (ly_a y 0), .int (sf (i + 1)), .int (sf (i + 2)), .int (sf (i + 3)), .int 0, .int 0, .int 0]) (rest := []) hK (c_L_setOld l hfl hR (i := (sf (i + 1))) (kp := (sf (i + 2))) (gr := (sf (i + 3))) (b1 := 0) (b2 := 0) (b3 := 0) (Or.inl rfl) (Or.inl rfl) (Or.inl rfl)) (gk_gS q_6_18 q_6_19 q_5_0 q_6_20) ⟨by decide +kernel, by decide +kernel, by decide +kernel⟩ ⟨(Nat.le_of_ble_eq_true rfl), (Nat.le_of_ble_eq_true rfl)⟩ hP hS rfl hl.1 rfl (Nat.le_of_ble_eq_true rfl) dL_law_286 ⟨(by show cells + 16 ≤ 601024; omega), (by show slots + 128 ≤ 7293034; omega)⟩ (fun v G1 H locs hw hP hS => ?_)
        rcases hw with ⟨r, hr, e1, hok, rfl, hR⟩ | ⟨ho, rfl, hR⟩ | ⟨⟨hno, hnk⟩, rfl, hR⟩
        · refine W.eq (g2 := F0 m 289 ls [.int 0]) rfl ?_
          refine lv_istore (lv' := [(5, .int 0), (4, .int (nI i)), (0, .ref sc), (1, .ref (ly_a y 0)), (2, .ref (ly_a y 5)), (3, .ref (ly_a y 4))]) hK.1.1 hK.1.2.1 dL_law_289 hl (by decide) rfl (fun ls hl => ?_)
          refine lv_aload_n hK.1.1 hK.1.2.1 dL_law_291 rfl (lv_at hl 4 rfl) ?_
          refine lv_aload_n hK.1.1 hK.1.2.1 dL_law_292 rfl (lv_at hl 2 rfl) ?_
          refine lv_iload hK.1.1 hK.1.2.1 dL_law_293 (lv_at hl 1 rfl) ?_
          refine lv_iconst (v := 1) hK.1.1 hK.1.2.1 dL_law_295 (by decide) ?_
          refine lv_iadd hK.1.1 hK.1.2.1 dL_law_296 ?_
          rw [show nI i + 1 = nI (i + 1) from nI_add i 1]
          refine va_ti hK.1.1 hK.1.2.1 hT hS (vp_in_nI (show i + 1 < n9 by omega) (by omega)) (v := .int (sf (i + 1))) (by rw [nI_clamp (by omega)]) dL_law_297 ?_
          refine lv_aload_n hK.1.1 hK.1.2.1 dL_law_298 rfl (lv_at hl 2 rfl) ?_
          refine lv_iload hK.1.1 hK.1.2.1 dL_law_299 (lv_at hl 1 rfl) ?_
          refine lv_iconst (v := 2) hK.1.1 hK.1.2.1 dL_law_301 (by decide) ?_
          refine lv_iadd hK.1.1 hK.1.2.1 dL_law_302 ?_
          rw [show nI i + 2 = nI (i + 2) from nI_add i 2]
          refine va_ti hK.1.1 hK.1.2.1 hT hS (vp_in_nI (show i + 2 < n9 by omega) (by omega)) (v := .int (sf (i + 2))) (by rw [nI_clamp (by omega)]) dL_law_303 ?_
          refine lv_aload_n hK.1.1 hK.1.2.1 dL_law_304 rfl (lv_at hl 2 rfl) ?_
          refine lv_iload hK.1.1 hK.1.2.1 dL_law_305 (lv_at hl 1 rfl) ?_
          refine lv_iconst (v := 3) hK.1.1 hK.1.2.1 dL_law_307 (by decide) ?_
          refine lv_iadd hK.1.1 hK.1.2.1 dL_law_308 ?_
          rw [show nI i + 3 = nI (i + 3) from nI_add i 3]
          refine va_ti hK.1.1 hK.1.2.1 hT hS (vp_in_nI (show i + 3 < n9 by omega) (by omega)) (v := .int (sf (i + 3))) (by rw [nI_clamp (by omega)]) dL_law_309 ?_
          refine lv_aload_n hK.1.1 hK.1.2.1 dL_law_310 rfl (lv_at hl 2 rfl) ?_
          refine lv_iload hK.1.1 hK.1.2.1 dL_law_311 (lv_at hl 1 rfl) ?_
          refine lv_iconst (v := 4) hK.1.1 hK.1.2.1 dL_law_313 (by decide) ?_
          refine lv_iadd hK.1.1 hK.1.2.1 dL_law_314 ?_
          rw [show nI i + 4 = nI (i + 4) from nI_add i 4]
          refine va_ti hK.1.1 hK.1.2.1 hT hS (vp_in_nI (show i + 4 < n9 by omega) (by omega)) (v := .int (sf (i + 4))) (by rw [nI_clamp (by omega)]) dL_law_315 ?_
          refine lv_if_eq (tgt := 323) hK.1.1 hK.1.2.1 dL_law_316 (by decide) (fun _ => ?_) (fun c => absurd c249_1 c)
          refine lv_iconst (v := 0) hK.1.1 hK.1.2.1 dL_law_323 (by decide) ?_
          refine lv_aload_n hK.1.1 hK.1.2.1 dL_law_324 rfl (lv_at hl 2 rfl) ?_
          refine lv_iload hK.1.1 hK.1.2.1 dL_law_325 (lv_at hl 1 rfl) ?_
          refine lv_iconst (v := 5) hK.1.1 hK.1.2.1 dL_law_327 (by decide) ?_
          refine lv_iadd hK.1.1 hK.1.2.1 dL_law_328 ?_
          rw [show nI i + 5 = nI (i + 5) from nI_add i 5]
          refine va_ti hK.1.1 hK.1.2.1 hT hS (vp_in_nI (show i + 5 < n9 by omega) (by omega)) (v := .int (sf (i + 5))) (by rw [nI_clamp (by omega)]) dL_law_329 ?_
          refine lv_if_eq (tgt := 337) hK.1.1 hK.1.2.1 dL_law_330 (by decide) (fun _ => ?_) (fun c => absurd c263_2 c)
          refine lv_iconst (v := 0) hK.1.1 hK.1.2.1 dL_law_337 (by decide) ?_
          refine lv_aload_n hK.1.1 hK.1.2.1 dL_law_338 rfl (lv_at hl 2 rfl) ?_
          refine lv_iload hK.1.1 hK.1.2.1 dL_law_339 (lv_at hl 1 rfl) ?_
          refine lv_bipush (v := 6) hK.1.1 hK.1.2.1 dL_law_341 (by decide) ?_
          refine lv_iadd hK.1.1 hK.1.2.1 dL_law_343 ?_
          rw [show nI i + 6 = nI (i + 6) from nI_add i 6]
          refine va_ti hK.1.1 hK.1.2.1 hT hS (vp_in_nI (show i + 6 < n9 by omega) (by omega)) (v := .int (sf (i + 6))) (by rw [nI_clamp (by omega)]) dL_law_344 ?_
          refine lv_if_eq (tgt := 352) hK.1.1 hK.1.2.1 dL_law_345 (by decide) (fun _ => ?_) (fun c => absurd c278_3 c)
          refine lv_iconst (v := 0) hK.1.1 hK.1.2.1 dL_law_352 (by decide) ?_
          refine gk_callV0 (n := 6) (As := [.int (sf (i + 1)), .int (sf (i + 2)), .int (sf (i + 3)), .int 0, .int 0, .int 0]) (rest := []) hK (c_X5_setOld l hR (i := (sf (i + 1))) (kp := (sf (i + 2))) (gr := (sf (i + 3))) (b1 := 0) (b2 := 0) (b3 := 0) (Or.inl rfl) (Or.inl rfl) (Or.inl rfl)) (gk_gV q_7_6 q_7_7 q_7_8 q_1_5 q_7_9) ⟨rfl, by decide +kernel, by decide +kernel, by decide +kernel⟩ ⟨(Nat.le_of_ble_eq_true rfl), (Nat.le_of_ble_eq_true rfl)⟩ hP hS (gk_recv hK.2.2.1.1 hP hR.2.2.2.2.2.2.2.2.1 rfl) rfl hl.1 rfl (Nat.le_of_ble_eq_true rfl) dL_law_353 ⟨(by show (cells + 16) + 0 ≤ 601024; omega), (by show (slots + 128) + 0 ≤ 7293034; omega)⟩ (fun v G1 H locs hw hP hS => ?_)
          obtain ⟨rfl, hw⟩ := hw
          rcases hw with ⟨r2, hr2, e2, hok2, hR⟩ | ⟨ho2, hR⟩ | ⟨hno2, hnk2, hR⟩
          · obtain rfl : r = r2 := (nI_eq (by omega) (by omega)).mp (e1.symm.trans e2)
            refine W.eq (g2 := F0 m 356 ls []) rfl ?_
            refine lv_aload_n hK.1.1 hK.1.2.1 dL_law_356 rfl (lv_at hl 4 rfl) ?_
            refine gk_callV0 (n := 0) (As := []) (rest := []) hK (c_X5_thrown l hR) (gk_gV q_6_14 q_6_15 q_6_16 q_1_5 q_6_17) ⟨rfl, by decide +kernel, by decide +kernel, by decide +kernel⟩ ⟨(Nat.le_of_ble_eq_true rfl), (Nat.le_of_ble_eq_true rfl)⟩ hP hS (gk_recv hK.2.2.1.1 hP hR.2.2.2.2.2.2.2.2.1 rfl) rfl hl.1 rfl (Nat.le_of_ble_eq_true rfl) dL_law_357 ⟨(by show ((cells + 16) + 0) + 0 ≤ 601024; omega), (by show ((slots + 128) + 0) + 0 ≤ 7293034; omega)⟩ (fun v G1 H locs hw hP hS => ?_)
            obtain ⟨rfl, hG9⟩ := hw
            rw [hG9] at hP
            refine W.eq (g2 := F0 m 360 ls [.int 0]) rfl ?_
            refine lv_iload hK.1.1 hK.1.2.1 dL_law_360 (lv_at hl 0 rfl) ?_
            refine lv_icmp_eq (tgt := 367) hK.1.1 hK.1.2.1 dL_law_362 (by decide) (fun _ => ?_) (fun c => absurd (by decide) c)
            refine lv_goto (tgt := 1428) hK.1.1 hK.1.2.1 dL_law_367 (by decide) ?_
            exact W.widen (show (((cells + 16) + 0) + 0) ≤ cells + 100 by omega) (show (((slots + 128) + 0) + 0) ≤ slots + 8000 by omega) (kk ls _ _ _ _ _ _ _ _ _ _ _ _ _ _ _ _ _ _ _ _ _ _ hP hS hR (xI_setOld hI hr hok (Or.inl rfl) (Or.inl rfl) (Or.inl rfl)) (lv_sub hl [1, 2, 3, 4, 5] rfl))
          · exact False.elim (absurd (e1 ▸ ho2) (rg_out_no hr (by decide)))
          · exact False.elim (hnk2 hok)
        · refine W.eq (g2 := F0 m 289 ls [.int 1]) rfl ?_
          refine lv_istore (lv' := [(5, .int 1), (4, .int (nI i)), (0, .ref sc), (1, .ref (ly_a y 0)), (2, .ref (ly_a y 5)), (3, .ref (ly_a y 4))]) hK.1.1 hK.1.2.1 dL_law_289 hl (by decide) rfl (fun ls hl => ?_)
          refine lv_aload_n hK.1.1 hK.1.2.1 dL_law_291 rfl (lv_at hl 4 rfl) ?_
          refine lv_aload_n hK.1.1 hK.1.2.1 dL_law_292 rfl (lv_at hl 2 rfl) ?_
          refine lv_iload hK.1.1 hK.1.2.1 dL_law_293 (lv_at hl 1 rfl) ?_
          refine lv_iconst (v := 1) hK.1.1 hK.1.2.1 dL_law_295 (by decide) ?_
          refine lv_iadd hK.1.1 hK.1.2.1 dL_law_296 ?_
          rw [show nI i + 1 = nI (i + 1) from nI_add i 1]
          refine va_ti hK.1.1 hK.1.2.1 hT hS (vp_in_nI (show i + 1 < n9 by omega) (by omega)) (v := .int (sf (i + 1))) (by rw [nI_clamp (by omega)]) dL_law_297 ?_
          refine lv_aload_n hK.1.1 hK.1.2.1 dL_law_298 rfl (lv_at hl 2 rfl) ?_
          refine lv_iload hK.1.1 hK.1.2.1 dL_law_299 (lv_at hl 1 rfl) ?_
          refine lv_iconst (v := 2) hK.1.1 hK.1.2.1 dL_law_301 (by decide) ?_
          refine lv_iadd hK.1.1 hK.1.2.1 dL_law_302 ?_
          rw [show nI i + 2 = nI (i + 2) from nI_add i 2]
          refine va_ti hK.1.1 hK.1.2.1 hT hS (vp_in_nI (show i + 2 < n9 by omega) (by omega)) (v := .int (sf (i + 2))) (by rw [nI_clamp (by omega)]) dL_law_303 ?_
          refine lv_aload_n hK.1.1 hK.1.2.1 dL_law_304 rfl (lv_at hl 2 rfl) ?_
          refine lv_iload hK.1.1 hK.1.2.1 dL_law_305 (lv_at hl 1 rfl) ?_
          refine lv_iconst (v := 3) hK.1.1 hK.1.2.1 dL_law_307 (by decide) ?_
          refine lv_iadd hK.1.1 hK.1.2.1 dL_law_308 ?_
          rw [show nI i + 3 = nI (i + 3) from nI_add i 3]
          refine va_ti hK.1.1 hK.1.2.1 hT hS (vp_in_nI (show i + 3 < n9 by omega) (by omega)) (v := .int (sf (i + 3))) (by rw [nI_clamp (by omega)]) dL_law_309 ?_
          refine lv_aload_n hK.1.1 hK.1.2.1 dL_law_310 rfl (lv_at hl 2 rfl) ?_
          refine lv_iload hK.1.1 hK.1.2.1 dL_law_311 (lv_at hl 1 rfl) ?_
          refine lv_iconst (v := 4) hK.1.1 hK.1.2.1 dL_law_313 (by decide) ?_
          refine lv_iadd hK.1.1 hK.1.2.1 dL_law_314 ?_
          rw [show nI i + 4 = nI (i + 4) from nI_add i 4]
          refine va_ti hK.1.1 hK.1.2.1 hT hS (vp_in_nI (show i + 4 < n9 by omega) (by omega)) (v := .int (sf (i + 4))) (by rw [nI_clamp (by omega)]) dL_law_315 ?_
          refine lv_if_eq (tgt := 323) hK.1.1 hK.1.2.1 dL_law_316 (by decide) (fun _ => ?_) (fun c => absurd c249_1 c)
          refine lv_iconst (v := 0) hK.1.1 hK.1.2.1 dL_law_323 (by decide) ?_
          refine lv_aload_n hK.1.1 hK.1.2.1 dL_law_324 rfl (lv_at hl 2 rfl) ?_
          refine lv_iload hK.1.1 hK.1.2.1 dL_law_325 (lv_at hl 1 rfl) ?_
          refine lv_iconst (v := 5) hK.1.1 hK.1.2.1 dL_law_327 (by decide) ?_
          refine lv_iadd hK.1.1 hK.1.2.1 dL_law_328 ?_
          rw [show nI i + 5 = nI (i + 5) from nI_add i 5]
          refine va_ti hK.1.1 hK.1.2.1 hT hS (vp_in_nI (show i + 5 < n9 by omega) (by omega)) (v := .int (sf (i + 5))) (by rw [nI_clamp (by omega)]) dL_law_329 ?_
          refine lv_if_eq (tgt := 337) hK.1.1 hK.1.2.1 dL_law_330 (by decide) (fun _ => ?_) (fun c => absurd c263_2 c)
          refine lv_iconst (v := 0) hK.1.1 hK.1.2.1 dL_law_337 (by decide) ?_
          refine lv_aload_n hK.1.1 hK.1.2.1 dL_law_338 rfl (lv_at hl 2 rfl) ?_
          refine lv_iload hK.1.1 hK.1.2.1 dL_law_339 (lv_at hl 1 rfl) ?_
          refine lv_bipush (v := 6) hK.1.1 hK.1.2.1 dL_law_341 (by decide) ?_
          refine lv_iadd hK.1.1 hK.1.2.1 dL_law_343 ?_
          rw [show nI i + 6 = nI (i + 6) from nI_add i 6]
          refine va_ti hK.1.1 hK.1.2.1 hT hS (vp_in_nI (show i + 6 < n9 by omega) (by omega)) (v := .int (sf (i + 6))) (by rw [nI_clamp (by omega)]) dL_law_344 ?_
          refine lv_if_eq (tgt := 352) hK.1.1 hK.1.2.1 dL_law_345 (by decide) (fun _ => ?_) (fun c => absurd c278_3 c)
          refine lv_iconst (v := 0) hK.1.1 hK.1.2.1 dL_law_352 (by decide) ?_
          refine gk_callV0 (n := 6) (As := [.int (sf (i + 1)), .int (sf (i + 2)), .int (sf (i + 3)), .int 0, .int 0, .int 0]) (rest := []) hK (c_X5_setOld l hR (i := (sf (i + 1))) (kp := (sf (i + 2))) (gr := (sf (i + 3))) (b1 := 0) (b2 := 0) (b3 := 0) (Or.inl rfl) (Or.inl rfl) (Or.inl rfl)) (gk_gV q_7_6 q_7_7 q_7_8 q_1_5 q_7_9) ⟨rfl, by decide +kernel, by decide +kernel, by decide +kernel⟩ ⟨(Nat.le_of_ble_eq_true rfl), (Nat.le_of_ble_eq_true rfl)⟩ hP hS (gk_recv hK.2.2.1.1 hP hR.2.2.2.2.2.2.2.2.1 rfl) rfl hl.1 rfl (Nat.le_of_ble_eq_true rfl) dL_law_353 ⟨(by show (cells + 16) + 0 ≤ 601024; omega), (by show (slots + 128) + 0 ≤ 7293034; omega)⟩ (fun v G1 H locs hw hP hS => ?_)
          obtain ⟨rfl, hw⟩ := hw
          rcases hw with ⟨r2, hr2, e2, hok2, hR⟩ | ⟨ho2, hR⟩ | ⟨hno2, hnk2, hR⟩
          · exact False.elim (absurd (e2 ▸ ho) (rg_out_no hr2 (by decide)))
          · refine W.eq (g2 := F0 m 356 ls []) rfl ?_
            refine lv_aload_n hK.1.1 hK.1.2.1 dL_law_356 rfl (lv_at hl 4 rfl) ?_
            refine gk_callV0 (n := 0) (As := []) (rest := []) hK (c_X5_thrown l hR) (gk_gV q_6_14 q_6_15 q_6_16 q_1_5 q_6_17) ⟨rfl, by decide +kernel, by decide +kernel, by decide +kernel⟩ ⟨(Nat.le_of_ble_eq_true rfl), (Nat.le_of_ble_eq_true rfl)⟩ hP hS (gk_recv hK.2.2.1.1 hP hR.2.2.2.2.2.2.2.2.1 rfl) rfl hl.1 rfl (Nat.le_of_ble_eq_true rfl) dL_law_357 ⟨(by show ((cells + 16) + 0) + 0 ≤ 601024; omega), (by show ((slots + 128) + 0) + 0 ≤ 7293034; omega)⟩ (fun v G1 H locs hw hP hS => ?_)
            obtain ⟨rfl, hG9⟩ := hw
            rw [hG9] at hP
            refine W.eq (g2 := F0 m 360 ls [.int 1]) rfl ?_
            refine lv_iload hK.1.1 hK.1.2.1 dL_law_360 (lv_at hl 0 rfl) ?_
            refine lv_icmp_eq (tgt := 367) hK.1.1 hK.1.2.1 dL_law_362 (by decide) (fun _ => ?_) (fun c => absurd (by decide) c)
            refine lv_goto (tgt := 1428) hK.1.1 hK.1.2.1 dL_law_367 (by decide) ?_
            exact W.widen (show (((cells + 16) + 0) + 0) ≤ cells + 100 by omega) (show (((slots + 128) + 0) + 0) ≤ slots + 8000 by omega) (kk ls _ _ _ _ _ _ _ _ _ _ _ _ _ _ _ _ _ _ _ _ _ _ hP hS hR (xI_mono hI) (lv_sub hl [1, 2, 3, 4, 5] rfl))
          · exact False.elim (hno2 ho)
        · refine W.eq (g2 := F0 m 289 ls [.int 2]) rfl ?_
          refine lv_istore (lv' := [(5, .int 2), (4, .int (nI i)), (0, .ref sc), (1, .ref (ly_a y 0)), (2, .ref (ly_a y 5)), (3, .ref (ly_a y 4))]) hK.1.1 hK.1.2.1 dL_law_289 hl (by decide) rfl (fun ls hl => ?_)
          refine lv_aload_n hK.1.1 hK.1.2.1 dL_law_291 rfl (lv_at hl 4 rfl) ?_
          refine lv_aload_n hK.1.1 hK.1.2.1 dL_law_292 rfl (lv_at hl 2 rfl) ?_
          refine lv_iload hK.1.1 hK.1.2.1 dL_law_293 (lv_at hl 1 rfl) ?_
          refine lv_iconst (v := 1) hK.1.1 hK.1.2.1 dL_law_295 (by decide) ?_
          refine lv_iadd hK.1.1 hK.1.2.1 dL_law_296 ?_
          rw [show nI i + 1 = nI (i + 1) from nI_add i 1]
          refine va_ti hK.1.1 hK.1.2.1 hT hS (vp_in_nI (show i + 1 < n9 by omega) (by omega)) (v := .int (sf (i + 1))) (by rw [nI_clamp (by omega)]) dL_law_297 ?_
          refine lv_aload_n hK.1.1 hK.1.2.1 dL_law_298 rfl (lv_at hl 2 rfl) ?_
          refine lv_iload hK.1.1 hK.1.2.1 dL_law_299 (lv_at hl 1 rfl) ?_
          refine lv_iconst (v := 2) hK.1.1 hK.1.2.1 dL_law_301 (by decide) ?_
          refine lv_iadd hK.1.1 hK.1.2.1 dL_law_302 ?_
          rw [show nI i + 2 = nI (i + 2) from nI_add i 2]
          refine va_ti hK.1.1 hK.1.2.1 hT hS (vp_in_nI (show i + 2 < n9 by omega) (by omega)) (v := .int (sf (i + 2))) (by rw [nI_clamp (by omega)]) dL_law_303 ?_
          refine lv_aload_n hK.1.1 hK.1.2.1 dL_law_304 rfl (lv_at hl 2 rfl) ?_
          refine lv_iload hK.1.1 hK.1.2.1 dL_law_305 (lv_at hl 1 rfl) ?_
          refine lv_iconst (v := 3) hK.1.1 hK.1.2.1 dL_law_307 (by decide) ?_
          refine lv_iadd hK.1.1 hK.1.2.1 dL_law_308 ?_
          rw [show nI i + 3 = nI (i + 3) from nI_add i 3]
          refine va_ti hK.1.1 hK.1.2.1 hT hS (vp_in_nI (show i + 3 < n9 by omega) (by omega)) (v := .int (sf (i + 3))) (by rw [nI_clamp (by omega)]) dL_law_309 ?_
          refine lv_aload_n hK.1.1 hK.1.2.1 dL_law_310 rfl (lv_at hl 2 rfl) ?_
          refine lv_iload hK.1.1 hK.1.2.1 dL_law_311 (lv_at hl 1 rfl) ?_
          refine lv_iconst (v := 4) hK.1.1 hK.1.2.1 dL_law_313 (by decide) ?_
          refine lv_iadd hK.1.1 hK.1.2.1 dL_law_314 ?_
          rw [show nI i + 4 = nI (i + 4) from nI_add i 4]
          refine va_ti hK.1.1 hK.1.2.1 hT hS (vp_in_nI (show i + 4 < n9 by omega) (by omega)) (v := .int (sf (i + 4))) (by rw [nI_clamp (by omega)]) dL_law_315 ?_
          refine lv_if_eq (tgt := 323) hK.1.1 hK.1.2.1 dL_law_316 (by decide) (fun _ => ?_) (fun c => absurd c249_1 c)
          refine lv_iconst (v := 0) hK.1.1 hK.1.2.1 dL_law_323 (by decide) ?_
          refine lv_aload_n hK.1.1 hK.1.2.1 dL_law_324 rfl (lv_at hl 2 rfl) ?_
          refine lv_iload hK.1.1 hK.1.2.1 dL_law_325 (lv_at hl 1 rfl) ?_
          refine lv_iconst (v := 5) hK.1.1 hK.1.2.1 dL_law_327 (by decide) ?_
          refine lv_iadd hK.1.1 hK.1.2.1 dL_law_328 ?_
          rw [show nI i + 5 = nI (i + 5) from nI_add i 5]
          refine va_ti hK.1.1 hK.1.2.1 hT hS (vp_in_nI (show i + 5 < n9 by omega) (by omega)) (v := .int (sf (i + 5))) (by rw [nI_clamp (by omega)]) dL_law_329 ?_
          refine lv_if_eq (tgt := 337) hK.1.1 hK.1.2.1 dL_law_330 (by decide) (fun _ => ?_) (fun c => absurd c263_2 c)
          refine lv_iconst (v := 0) hK.1.1 hK.1.2.1 dL_law_337 (by decide) ?_
          refine lv_aload_n hK.1.1 hK.1.2.1 dL_law_338 rfl (lv_at hl 2 rfl) ?_
          refine lv_iload hK.1.1 hK.1.2.1 dL_law_339 (lv_at hl 1 rfl) ?_
          refine lv_bipush (v := 6) hK.1.1 hK.1.2.1 dL_law_341 (by decide) ?_
          refine lv_iadd hK.1.1 hK.1.2.1 dL_law_343 ?_
          rw [show nI i + 6 = nI (i + 6) from nI_add i 6]
          refine va_ti hK.1.1 hK.1.2.1 hT hS (vp_in_nI (show i + 6 < n9 by omega) (by omega)) (v := .int (sf (i + 6))) (by rw [nI_clamp (by omega)]) dL_law_344 ?_
          refine lv_if_eq (tgt := 352) hK.1.1 hK.1.2.1 dL_law_345 (by decide) (fun _ => ?_) (fun c => absurd c278_3 c)
          refine lv_iconst (v := 0) hK.1.1 hK.1.2.1 dL_law_352 (by decide) ?_
          refine gk_callV0 (n := 6) (As := [.int (sf (i + 1)), .int (sf (i + 2)), .int (sf (i + 3)), .int 0, .int 0, .int 0]) (rest := []) hK (c_X5_setOld l hR (i := (sf (i + 1))) (kp := (sf (i + 2))) (gr := (sf (i + 3))) (b1 := 0) (b2 := 0) (b3 := 0) (Or.inl rfl) (Or.inl rfl) (Or.inl rfl)) (gk_gV q_7_6 q_7_7 q_7_8 q_1_5 q_7_9) ⟨rfl, by decide +kernel, by decide +kernel, by decide +kernel⟩ ⟨(Nat.le_of_ble_eq_true rfl), (Nat.le_of_ble_eq_true rfl)⟩ hP hS (gk_recv hK.2.2.1.1 hP hR.2.2.2.2.2.2.2.2.1 rfl) rfl hl.1 rfl (Nat.le_of_ble_eq_true rfl) dL_law_353 ⟨(by show (cells + 16) + 0 ≤ 601024; omega), (by show (slots + 128) + 0 ≤ 7293034; omega)⟩ (fun v G1 H locs hw hP hS => ?_)
          obtain ⟨rfl, hw⟩ := hw
          rcases hw with ⟨r2, hr2, e2, hok2, hR⟩ | ⟨ho2, hR⟩ | ⟨hno2, hnk2, hR⟩
          · exact False.elim (hnk hok2)
          · exact False.elim (hno ho2)
          · refine W.eq (g2 := F0 m 356 ls []) rfl ?_
            refine lv_aload_n hK.1.1 hK.1.2.1 dL_law_356 rfl (lv_at hl 4 rfl) ?_
            refine gk_callV0 (n := 0) (As := []) (rest := []) hK (c_X5_thrown l hR) (gk_gV q_6_14 q_6_15 q_6_16 q_1_5 q_6_17) ⟨rfl, by decide +kernel, by decide +kernel, by decide +kernel⟩ ⟨(Nat.le_of_ble_eq_true rfl), (Nat.le_of_ble_eq_true rfl)⟩ hP hS (gk_recv hK.2.2.1.1 hP hR.2.2.2.2.2.2.2.2.1 rfl) rfl hl.1 rfl (Nat.le_of_ble_eq_true rfl) dL_law_357 ⟨(by show ((cells + 16) + 0) + 0 ≤ 601024; omega), (by show ((slots + 128) + 0) + 0 ≤ 7293034; omega)⟩ (fun v G1 H locs hw hP hS => ?_)
            obtain ⟨rfl, hG9⟩ := hw
            rw [hG9] at hP
            refine W.eq (g2 := F0 m 360 ls [.int 2]) rfl ?_
            refine lv_iload hK.1.1 hK.1.2.1 dL_law_360 (lv_at hl 0 rfl) ?_
            refine lv_icmp_eq (tgt := 367) hK.1.1 hK.1.2.1 dL_law_362 (by decide) (fun _ => ?_) (fun c => absurd (by decide) c)
            refine lv_goto (tgt := 1428) hK.1.1 hK.1.2.1 dL_law_367 (by decide) ?_
            exact W.widen (show (((cells + 16) + 0) + 0) ≤ cells + 100 by omega) (show (((slots + 128) + 0) + 0) ≤ slots + 8000 by omega) (kk ls _ _ _ _ _ _ _ _ _ _ _ _ _ _ _ _ _ _ _ _ _ _ hP hS hR (xI_mono hI) (lv_sub hl [1, 2, 3, 4, 5] rfl))
      · refine lv_iconst (v := 1) hK.1.1 hK.1.2.1 dL_law_281 (by decide) ?_
        refine lv_goto (tgt := 286) hK.1.1 hK.1.2.1 dL_law_282 (by decide) ?_
        refine gk_callSW (n := 7) (As := [.ref (ly_a y 0), .int (sf (i + 1)), .int (sf (i + 2)), .int (sf (i + 3)), .int 0, .int 0, .int 1]) (rest := []) hK (c_L_setOld l hfl hR (i := (sf (i + 1))) (kp := (sf (i + 2))) (gr := (sf (i + 3))) (b1 := 0) (b2 := 0) (b3 := 1) (Or.inl rfl) (Or.inl rfl) (Or.inr rfl)) (gk_gS q_6_18 q_6_19 q_5_0 q_6_20) ⟨by decide +kernel, by decide +kernel, by decide +kernel⟩ ⟨(Nat.le_of_ble_eq_true rfl), (Nat.le_of_ble_eq_true rfl)⟩ hP hS rfl hl.1 rfl (Nat.le_of_ble_eq_true rfl) dL_law_286 ⟨(by show cells + 16 ≤ 601024; omega), (by show slots + 128 ≤ 7293034; omega)⟩ (fun v G1 H locs hw hP hS => ?_)
        rcases hw with ⟨r, hr, e1, hok, rfl, hR⟩ | ⟨ho, rfl, hR⟩ | ⟨⟨hno, hnk⟩, rfl, hR⟩
        · refine W.eq (g2 := F0 m 289 ls [.int 0]) rfl ?_
          refine lv_istore (lv' := [(5, .int 0), (4, .int (nI i)), (0, .ref sc), (1, .ref (ly_a y 0)), (2, .ref (ly_a y 5)), (3, .ref (ly_a y 4))]) hK.1.1 hK.1.2.1 dL_law_289 hl (by decide) rfl (fun ls hl => ?_)
          refine lv_aload_n hK.1.1 hK.1.2.1 dL_law_291 rfl (lv_at hl 4 rfl) ?_
          refine lv_aload_n hK.1.1 hK.1.2.1 dL_law_292 rfl (lv_at hl 2 rfl) ?_
          refine lv_iload hK.1.1 hK.1.2.1 dL_law_293 (lv_at hl 1 rfl) ?_
          refine lv_iconst (v := 1) hK.1.1 hK.1.2.1 dL_law_295 (by decide) ?_
          refine lv_iadd hK.1.1 hK.1.2.1 dL_law_296 ?_
          rw [show nI i + 1 = nI (i + 1) from nI_add i 1]
          refine va_ti hK.1.1 hK.1.2.1 hT hS (vp_in_nI (show i + 1 < n9 by omega) (by omega)) (v := .int (sf (i + 1))) (by rw [nI_clamp (by omega)]) dL_law_297 ?_
          refine lv_aload_n hK.1.1 hK.1.2.1 dL_law_298 rfl (lv_at hl 2 rfl) ?_
          refine lv_iload hK.1.1 hK.1.2.1 dL_law_299 (lv_at hl 1 rfl) ?_
          refine lv_iconst (v := 2) hK.1.1 hK.1.2.1 dL_law_301 (by decide) ?_
          refine lv_iadd hK.1.1 hK.1.2.1 dL_law_302 ?_
          rw [show nI i + 2 = nI (i + 2) from nI_add i 2]
          refine va_ti hK.1.1 hK.1.2.1 hT hS (vp_in_nI (show i + 2 < n9 by omega) (by omega)) (v := .int (sf (i + 2))) (by rw [nI_clamp (by omega)]) dL_law_303 ?_
          refine lv_aload_n hK.1.1 hK.1.2.1 dL_law_304 rfl (lv_at hl 2 rfl) ?_
          refine lv_iload hK.1.1 hK.1.2.1 dL_law_305 (lv_at hl 1 rfl) ?_
          refine lv_iconst (v := 3) hK.1.1 hK.1.2.1 dL_law_307 (by decide) ?_
          refine lv_iadd hK.1.1 hK.1.2.1 dL_law_308 ?_
          rw [show nI i + 3 = nI (i + 3) from nI_add i 3]
          refine va_ti hK.1.1 hK.1.2.1 hT hS (vp_in_nI (show i + 3 < n9 by omega) (by omega)) (v := .int (sf (i + 3))) (by rw [nI_clamp (by omega)]) dL_law_309 ?_
          refine lv_aload_n hK.1.1 hK.1.2.1 dL_law_310 rfl (lv_at hl 2 rfl) ?_
          refine lv_iload hK.1.1 hK.1.2.1 dL_law_311 (lv_at hl 1 rfl) ?_
          refine lv_iconst (v := 4) hK.1.1 hK.1.2.1 dL_law_313 (by decide) ?_
          refine lv_iadd hK.1.1 hK.1.2.1 dL_law_314 ?_
          rw [show nI i + 4 = nI (i + 4) from nI_add i 4]
          refine va_ti hK.1.1 hK.1.2.1 hT hS (vp_in_nI (show i + 4 < n9 by omega) (by omega)) (v := .int (sf (i + 4))) (by rw [nI_clamp (by omega)]) dL_law_315 ?_
          refine lv_if_eq (tgt := 323) hK.1.1 hK.1.2.1 dL_law_316 (by decide) (fun _ => ?_) (fun c => absurd c249_1 c)
          refine lv_iconst (v := 0) hK.1.1 hK.1.2.1 dL_law_323 (by decide) ?_
          refine lv_aload_n hK.1.1 hK.1.2.1 dL_law_324 rfl (lv_at hl 2 rfl) ?_
          refine lv_iload hK.1.1 hK.1.2.1 dL_law_325 (lv_at hl 1 rfl) ?_
          refine lv_iconst (v := 5) hK.1.1 hK.1.2.1 dL_law_327 (by decide) ?_
          refine lv_iadd hK.1.1 hK.1.2.1 dL_law_328 ?_
          rw [show nI i + 5 = nI (i + 5) from nI_add i 5]
          refine va_ti hK.1.1 hK.1.2.1 hT hS (vp_in_nI (show i + 5 < n9 by omega) (by omega)) (v := .int (sf (i + 5))) (by rw [nI_clamp (by omega)]) dL_law_329 ?_
          refine lv_if_eq (tgt := 337) hK.1.1 hK.1.2.1 dL_law_330 (by decide) (fun _ => ?_) (fun c => absurd c263_2 c)
          refine lv_iconst (v := 0) hK.1.1 hK.1.2.1 dL_law_337 (by decide) ?_
          refine lv_aload_n hK.1.1 hK.1.2.1 dL_law_338 rfl (lv_at hl 2 rfl) ?_
          refine lv_iload hK.1.1 hK.1.2.1 dL_law_339 (lv_at hl 1 rfl) ?_
          refine lv_bipush (v := 6) hK.1.1 hK.1.2.1 dL_law_341 (by decide) ?_
          refine lv_iadd hK.1.1 hK.1.2.1 dL_law_343 ?_
          rw [show nI i + 6 = nI (i + 6) from nI_add i 6]
          refine va_ti hK.1.1 hK.1.2.1 hT hS (vp_in_nI (show i + 6 < n9 by omega) (by omega)) (v := .int (sf (i + 6))) (by rw [nI_clamp (by omega)]) dL_law_344 ?_
          refine lv_if_eq (tgt := 352) hK.1.1 hK.1.2.1 dL_law_345 (by decide) (fun c => absurd c c278_3) (fun _ => ?_)
          refine lv_iconst (v := 1) hK.1.1 hK.1.2.1 dL_law_348 (by decide) ?_
          refine lv_goto (tgt := 353) hK.1.1 hK.1.2.1 dL_law_349 (by decide) ?_
          refine gk_callV0 (n := 6) (As := [.int (sf (i + 1)), .int (sf (i + 2)), .int (sf (i + 3)), .int 0, .int 0, .int 1]) (rest := []) hK (c_X5_setOld l hR (i := (sf (i + 1))) (kp := (sf (i + 2))) (gr := (sf (i + 3))) (b1 := 0) (b2 := 0) (b3 := 1) (Or.inl rfl) (Or.inl rfl) (Or.inr rfl)) (gk_gV q_7_6 q_7_7 q_7_8 q_1_5 q_7_9) ⟨rfl, by decide +kernel, by decide +kernel, by decide +kernel⟩ ⟨(Nat.le_of_ble_eq_true rfl), (Nat.le_of_ble_eq_true rfl)⟩ hP hS (gk_recv hK.2.2.1.1 hP hR.2.2.2.2.2.2.2.2.1 rfl) rfl hl.1 rfl (Nat.le_of_ble_eq_true rfl) dL_law_353 ⟨(by show (cells + 16) + 0 ≤ 601024; omega), (by show (slots + 128) + 0 ≤ 7293034; omega)⟩ (fun v G1 H locs hw hP hS => ?_)
          obtain ⟨rfl, hw⟩ := hw
          rcases hw with ⟨r2, hr2, e2, hok2, hR⟩ | ⟨ho2, hR⟩ | ⟨hno2, hnk2, hR⟩
          · obtain rfl : r = r2 := (nI_eq (by omega) (by omega)).mp (e1.symm.trans e2)
            refine W.eq (g2 := F0 m 356 ls []) rfl ?_
            refine lv_aload_n hK.1.1 hK.1.2.1 dL_law_356 rfl (lv_at hl 4 rfl) ?_
            refine gk_callV0 (n := 0) (As := []) (rest := []) hK (c_X5_thrown l hR) (gk_gV q_6_14 q_6_15 q_6_16 q_1_5 q_6_17) ⟨rfl, by decide +kernel, by decide +kernel, by decide +kernel⟩ ⟨(Nat.le_of_ble_eq_true rfl), (Nat.le_of_ble_eq_true rfl)⟩ hP hS (gk_recv hK.2.2.1.1 hP hR.2.2.2.2.2.2.2.2.1 rfl) rfl hl.1 rfl (Nat.le_of_ble_eq_true rfl) dL_law_357 ⟨(by show ((cells + 16) + 0) + 0 ≤ 601024; omega), (by show ((slots + 128) + 0) + 0 ≤ 7293034; omega)⟩ (fun v G1 H locs hw hP hS => ?_)
            obtain ⟨rfl, hG9⟩ := hw
            rw [hG9] at hP
            refine W.eq (g2 := F0 m 360 ls [.int 0]) rfl ?_
            refine lv_iload hK.1.1 hK.1.2.1 dL_law_360 (lv_at hl 0 rfl) ?_
            refine lv_icmp_eq (tgt := 367) hK.1.1 hK.1.2.1 dL_law_362 (by decide) (fun _ => ?_) (fun c => absurd (by decide) c)
            refine lv_goto (tgt := 1428) hK.1.1 hK.1.2.1 dL_law_367 (by decide) ?_
            exact W.widen (show (((cells + 16) + 0) + 0) ≤ cells + 100 by omega) (show (((slots + 128) + 0) + 0) ≤ slots + 8000 by omega) (kk ls _ _ _ _ _ _ _ _ _ _ _ _ _ _ _ _ _ _ _ _ _ _ hP hS hR (xI_setOld hI hr hok (Or.inl rfl) (Or.inl rfl) (Or.inr rfl)) (lv_sub hl [1, 2, 3, 4, 5] rfl))
          · exact False.elim (absurd (e1 ▸ ho2) (rg_out_no hr (by decide)))
          · exact False.elim (hnk2 hok)
        · refine W.eq (g2 := F0 m 289 ls [.int 1]) rfl ?_
          refine lv_istore (lv' := [(5, .int 1), (4, .int (nI i)), (0, .ref sc), (1, .ref (ly_a y 0)), (2, .ref (ly_a y 5)), (3, .ref (ly_a y 4))]) hK.1.1 hK.1.2.1 dL_law_289 hl (by decide) rfl (fun ls hl => ?_)
          refine lv_aload_n hK.1.1 hK.1.2.1 dL_law_291 rfl (lv_at hl 4 rfl) ?_
          refine lv_aload_n hK.1.1 hK.1.2.1 dL_law_292 rfl (lv_at hl 2 rfl) ?_
          refine lv_iload hK.1.1 hK.1.2.1 dL_law_293 (lv_at hl 1 rfl) ?_
          refine lv_iconst (v := 1) hK.1.1 hK.1.2.1 dL_law_295 (by decide) ?_
          refine lv_iadd hK.1.1 hK.1.2.1 dL_law_296 ?_
          rw [show nI i + 1 = nI (i + 1) from nI_add i 1]
          refine va_ti hK.1.1 hK.1.2.1 hT hS (vp_in_nI (show i + 1 < n9 by omega) (by omega)) (v := .int (sf (i + 1))) (by rw [nI_clamp (by omega)]) dL_law_297 ?_
          refine lv_aload_n hK.1.1 hK.1.2.1 dL_law_298 rfl (lv_at hl 2 rfl) ?_
          refine lv_iload hK.1.1 hK.1.2.1 dL_law_299 (lv_at hl 1 rfl) ?_
          refine lv_iconst (v := 2) hK.1.1 hK.1.2.1 dL_law_301 (by decide) ?_
          refine lv_iadd hK.1.1 hK.1.2.1 dL_law_302 ?_
          rw [show nI i + 2 = nI (i + 2) from nI_add i 2]
          refine va_ti hK.1.1 hK.1.2.1 hT hS (vp_in_nI (show i + 2 < n9 by omega) (by omega)) (v := .int (sf (i + 2))) (by rw [nI_clamp (by omega)]) dL_law_303 ?_
          refine lv_aload_n hK.1.1 hK.1.2.1 dL_law_304 rfl (lv_at hl 2 rfl) ?_
          refine lv_iload hK.1.1 hK.1.2.1 dL_law_305 (lv_at hl 1 rfl) ?_
          refine lv_iconst (v := 3) hK.1.1 hK.1.2.1 dL_law_307 (by decide) ?_
          refine lv_iadd hK.1.1 hK.1.2.1 dL_law_308 ?_
          rw [show nI i + 3 = nI (i + 3) from nI_add i 3]
          refine va_ti hK.1.1 hK.1.2.1 hT hS (vp_in_nI (show i + 3 < n9 by omega) (by omega)) (v := .int (sf (i + 3))) (by rw [nI_clamp (by omega)]) dL_law_309 ?_
          refine lv_aload_n hK.1.1 hK.1.2.1 dL_law_310 rfl (lv_at hl 2 rfl) ?_
          refine lv_iload hK.1.1 hK.1.2.1 dL_law_311 (lv_at hl 1 rfl) ?_
          refine lv_iconst (v := 4) hK.1.1 hK.1.2.1 dL_law_313 (by decide) ?_
          refine lv_iadd hK.1.1 hK.1.2.1 dL_law_314 ?_
          rw [show nI i + 4 = nI (i + 4) from nI_add i 4]
          refine va_ti hK.1.1 hK.1.2.1 hT hS (vp_in_nI (show i + 4 < n9 by omega) (by omega)) (v := .int (sf (i + 4))) (by rw [nI_clamp (by omega)]) dL_law_315 ?_
          refine lv_if_eq (tgt := 323) hK.1.1 hK.1.2.1 dL_law_316 (by decide) (fun _ => ?_) (fun c => absurd c249_1 c)
          refine lv_iconst (v := 0) hK.1.1 hK.1.2.1 dL_law_323 (by decide) ?_
          refine lv_aload_n hK.1.1 hK.1.2.1 dL_law_324 rfl (lv_at hl 2 rfl) ?_
          refine lv_iload hK.1.1 hK.1.2.1 dL_law_325 (lv_at hl 1 rfl) ?_
          refine lv_iconst (v := 5) hK.1.1 hK.1.2.1 dL_law_327 (by decide) ?_
          refine lv_iadd hK.1.1 hK.1.2.1 dL_law_328 ?_
          rw [show nI i + 5 = nI (i + 5) from nI_add i 5]
          refine va_ti hK.1.1 hK.1.2.1 hT hS (vp_in_nI (show i + 5 < n9 by omega) (by omega)) (v := .int (sf (i + 5))) (by rw [nI_clamp (by omega)]) dL_law_329 ?_
          refine lv_if_eq (tgt := 337) hK.1.1 hK.1.2.1 dL_law_330 (by decide) (fun _ => ?_) (fun c => absurd c263_2 c)
          refine lv_iconst (v := 0) hK.1.1 hK.1.2.1 dL_law_337 (by decide) ?_
          refine lv_aload_n hK.1.1 hK.1.2.1 dL_law_338 rfl (lv_at hl 2 rfl) ?_
          refine lv_iload hK.1.1 hK.1.2.1 dL_law_339 (lv_at hl 1 rfl) ?_
          refine lv_bipush (v := 6) hK.1.1 hK.1.2.1 dL_law_341 (by decide) ?_
          refine lv_iadd hK.1.1 hK.1.2.1 dL_law_343 ?_
          rw [show nI i + 6 = nI (i + 6) from nI_add i 6]
          refine va_ti hK.1.1 hK.1.2.1 hT hS (vp_in_nI (show i + 6 < n9 by omega) (by omega)) (v := .int (sf (i + 6))) (by rw [nI_clamp (by omega)]) dL_law_344 ?_
          refine lv_if_eq (tgt := 352) hK.1.1 hK.1.2.1 dL_law_345 (by decide) (fun c => absurd c c278_3) (fun _ => ?_)
          refine lv_iconst (v := 1) hK.1.1 hK.1.2.1 dL_law_348 (by decide) ?_
          refine lv_goto (tgt := 353) hK.1.1 hK.1.2.1 dL_law_349 (by decide) ?_
          refine gk_callV0 (n := 6) (As := [.int (sf (i + 1)), .int (sf (i + 2)), .int (sf (i + 3)), .int 0, .int 0, .int 1]) (rest := []) hK (c_X5_setOld l hR (i := (sf (i + 1))) (kp := (sf (i + 2))) (gr := (sf (i + 3))) (b1 := 0) (b2 := 0) (b3 := 1) (Or.inl rfl) (Or.inl rfl) (Or.inr rfl)) (gk_gV q_7_6 q_7_7 q_7_8 q_1_5 q_7_9) ⟨rfl, by decide +kernel, by decide +kernel, by decide +kernel⟩ ⟨(Nat.le_of_ble_eq_true rfl), (Nat.le_of_ble_eq_true rfl)⟩ hP hS (gk_recv hK.2.2.1.1 hP hR.2.2.2.2.2.2.2.2.1 rfl) rfl hl.1 rfl (Nat.le_of_ble_eq_true rfl) dL_law_353 ⟨(by show (cells + 16) + 0 ≤ 601024; omega), (by show (slots + 128) + 0 ≤ 7293034; omega)⟩ (fun v G1 H locs hw hP hS => ?_)
          obtain ⟨rfl, hw⟩ := hw
          rcases hw with ⟨r2, hr2, e2, hok2, hR⟩ | ⟨ho2, hR⟩ | ⟨hno2, hnk2, hR⟩
          · exact False.elim (absurd (e2 ▸ ho) (rg_out_no hr2 (by decide)))
          · refine W.eq (g2 := F0 m 356 ls []) rfl ?_
            refine lv_aload_n hK.1.1 hK.1.2.1 dL_law_356 rfl (lv_at hl 4 rfl) ?_
            refine gk_callV0 (n := 0) (As := []) (rest := []) hK (c_X5_thrown l hR) (gk_gV q_6_14 q_6_15 q_6_16 q_1_5 q_6_17) ⟨rfl, by decide +kernel, by decide +kernel, by decide +kernel⟩ ⟨(Nat.le_of_ble_eq_true rfl), (Nat.le_of_ble_eq_true rfl)⟩ hP hS (gk_recv hK.2.2.1.1 hP hR.2.2.2.2.2.2.2.2.1 rfl) rfl hl.1 rfl (Nat.le_of_ble_eq_true rfl) dL_law_357 ⟨(by show ((cells + 16) + 0) + 0 ≤ 601024; omega), (by show ((slots + 128) + 0) + 0 ≤ 7293034; omega)⟩ (fun v G1 H locs hw hP hS => ?_)
            obtain ⟨rfl, hG9⟩ := hw
            rw [hG9] at hP
            refine W.eq (g2 := F0 m 360 ls [.int 1]) rfl ?_
            refine lv_iload hK.1.1 hK.1.2.1 dL_law_360 (lv_at hl 0 rfl) ?_
            refine lv_icmp_eq (tgt := 367) hK.1.1 hK.1.2.1 dL_law_362 (by decide) (fun _ => ?_) (fun c => absurd (by decide) c)
            refine lv_goto (tgt := 1428) hK.1.1 hK.1.2.1 dL_law_367 (by decide) ?_
            exact W.widen (show (((cells + 16) + 0) + 0) ≤ cells + 100 by omega) (show (((slots + 128) + 0) + 0) ≤ slots + 8000 by omega) (kk ls _ _ _ _ _ _ _ _ _ _ _ _ _ _ _ _ _ _ _ _ _ _ hP hS hR (xI_mono hI) (lv_sub hl [1, 2, 3, 4, 5] rfl))
          · exact False.elim (hno2 ho)
        · refine W.eq (g2 := F0 m 289 ls [.int 2]) rfl ?_
          refine lv_istore (lv' := [(5, .int 2), (4, .int (nI i)), (0, .ref sc), (1, .ref (ly_a y 0)), (2, .ref (ly_a y 5)), (3, .ref (ly_a y 4))]) hK.1.1 hK.1.2.1 dL_law_289 hl (by decide) rfl (fun ls hl => ?_)
          refine lv_aload_n hK.1.1 hK.1.2.1 dL_law_291 rfl (lv_at hl 4 rfl) ?_
          refine lv_aload_n hK.1.1 hK.1.2.1 dL_law_292 rfl (lv_at hl 2 rfl) ?_
          refine lv_iload hK.1.1 hK.1.2.1 dL_law_293 (lv_at hl 1 rfl) ?_
          refine lv_iconst (v := 1) hK.1.1 hK.1.2.1 dL_law_295 (by decide) ?_
          refine lv_iadd hK.1.1 hK.1.2.1 dL_law_296 ?_
          rw [show nI i + 1 = nI (i + 1) from nI_add i 1]
          refine va_ti hK.1.1 hK.1.2.1 hT hS (vp_in_nI (show i + 1 < n9 by omega) (by omega)) (v := .int (sf (i + 1))) (by rw [nI_clamp (by omega)]) dL_law_297 ?_
          refine lv_aload_n hK.1.1 hK.1.2.1 dL_law_298 rfl (lv_at hl 2 rfl) ?_
          refine lv_iload hK.1.1 hK.1.2.1 dL_law_299 (lv_at hl 1 rfl) ?_
          refine lv_iconst (v := 2) hK.1.1 hK.1.2.1 dL_law_301 (by decide) ?_
          refine lv_iadd hK.1.1 hK.1.2.1 dL_law_302 ?_
          rw [show nI i + 2 = nI (i + 2) from nI_add i 2]
          refine va_ti hK.1.1 hK.1.2.1 hT hS (vp_in_nI (show i + 2 < n9 by omega) (by omega)) (v := .int (sf (i + 2))) (by rw [nI_clamp (by omega)]) dL_law_303 ?_
          refine lv_aload_n hK.1.1 hK.1.2.1 dL_law_304 rfl (lv_at hl 2 rfl) ?_
          refine lv_iload hK.1.1 hK.1.2.1 dL_law_305 (lv_at hl 1 rfl) ?_
          refine lv_iconst (v := 3) hK.1.1 hK.1.2.1 dL_law_307 (by decide) ?_
          refine lv_iadd hK.1.1 hK.1.2.1 dL_law_308 ?_
          rw [show nI i + 3 = nI (i + 3) from nI_add i 3]
          refine va_ti hK.1.1 hK.1.2.1 hT hS (vp_in_nI (show i + 3 < n9 by omega) (by omega)) (v := .int (sf (i + 3))) (by rw [nI_clamp (by omega)]) dL_law_309 ?_
          refine lv_aload_n hK.1.1 hK.1.2.1 dL_law_310 rfl (lv_at hl 2 rfl) ?_
          refine lv_iload hK.1.1 hK.1.2.1 dL_law_311 (lv_at hl 1 rfl) ?_
          refine lv_iconst (v := 4) hK.1.1 hK.1.2.1 dL_law_313 (by decide) ?_
          refine lv_iadd hK.1.1 hK.1.2.1 dL_law_314 ?_
          rw [show nI i + 4 = nI (i + 4) from nI_add i 4]
          refine va_ti hK.1.1 hK.1.2.1 hT hS (vp_in_nI (show i + 4 < n9 by omega) (by omega)) (v := .int (sf (i + 4))) (by rw [nI_clamp (by omega)]) dL_law_315 ?_
          refine lv_if_eq (tgt := 323) hK.1.1 hK.1.2.1 dL_law_316 (by decide) (fun _ => ?_) (fun c => absurd c249_1 c)
          refine lv_iconst (v := 0) hK.1.1 hK.1.2.1 dL_law_323 (by decide) ?_
          refine lv_aload_n hK.1.1 hK.1.2.1 dL_law_324 rfl (lv_at hl 2 rfl) ?_
          refine lv_iload hK.1.1 hK.1.2.1 dL_law_325 (lv_at hl 1 rfl) ?_
          refine lv_iconst (v := 5) hK.1.1 hK.1.2.1 dL_law_327 (by decide) ?_
          refine lv_iadd hK.1.1 hK.1.2.1 dL_law_328 ?_
          rw [show nI i + 5 = nI (i + 5) from nI_add i 5]
          refine va_ti hK.1.1 hK.1.2.1 hT hS (vp_in_nI (show i + 5 < n9 by omega) (by omega)) (v := .int (sf (i + 5))) (by rw [nI_clamp (by omega)]) dL_law_329 ?_
          refine lv_if_eq (tgt := 337) hK.1.1 hK.1.2.1 dL_law_330 (by decide) (fun _ => ?_) (fun c => absurd c263_2 c)
          refine lv_iconst (v := 0) hK.1.1 hK.1.2.1 dL_law_337 (by decide) ?_
          refine lv_aload_n hK.1.1 hK.1.2.1 dL_law_338 rfl (lv_at hl 2 rfl) ?_
          refine lv_iload hK.1.1 hK.1.2.1 dL_law_339 (lv_at hl 1 rfl) ?_
          refine lv_bipush (v := 6) hK.1.1 hK.1.2.1 dL_law_341 (by decide) ?_
          refine lv_iadd hK.1.1 hK.1.2.1 dL_law_343 ?_
          rw [show nI i + 6 = nI (i + 6) from nI_add i 6]
          refine va_ti hK.1.1 hK.1.2.1 hT hS (vp_in_nI (show i + 6 < n9 by omega) (by omega)) (v := .int (sf (i + 6))) (by rw [nI_clamp (by omega)]) dL_law_344 ?_
          refine lv_if_eq (tgt := 352) hK.1.1 hK.1.2.1 dL_law_345 (by decide) (fun c => absurd c c278_3) (fun _ => ?_)
          refine lv_iconst (v := 1) hK.1.1 hK.1.2.1 dL_law_348 (by decide) ?_
          refine lv_goto (tgt := 353) hK.1.1 hK.1.2.1 dL_law_349 (by decide) ?_
          refine gk_callV0 (n := 6) (As := [.int (sf (i + 1)), .int (sf (i + 2)), .int (sf (i + 3)), .int 0, .int 0, .int 1]) (rest := []) hK (c_X5_setOld l hR (i := (sf (i + 1))) (kp := (sf (i + 2))) (gr := (sf (i + 3))) (b1 := 0) (b2 := 0) (b3 := 1) (Or.inl rfl) (Or.inl rfl) (Or.inr rfl)) (gk_gV q_7_6 q_7_7 q_7_8 q_1_5 q_7_9) ⟨rfl, by decide +kernel, by decide +kernel, by decide +kernel⟩ ⟨(Nat.le_of_ble_eq_true rfl), (Nat.le_of_ble_eq_true rfl)⟩ hP hS (gk_recv hK.2.2.1.1 hP hR.2.2.2.2.2.2.2.2.1 rfl) rfl hl.1 rfl (Nat.le_of_ble_eq_true rfl) dL_law_353 ⟨(by show (cells + 16) + 0 ≤ 601024; omega), (by show (slots + 128) + 0 ≤ 7293034; omega)⟩ (fun v G1 H locs hw hP hS => ?_)
          obtain ⟨rfl, hw⟩ := hw
          rcases hw with ⟨r2, hr2, e2, hok2, hR⟩ | ⟨ho2, hR⟩ | ⟨hno2, hnk2, hR⟩
          · exact False.elim (hnk hok2)
          · exact False.elim (hno ho2)
          · refine W.eq (g2 := F0 m 356 ls []) rfl ?_
            refine lv_aload_n hK.1.1 hK.1.2.1 dL_law_356 rfl (lv_at hl 4 rfl) ?_
            refine gk_callV0 (n := 0) (As := []) (rest := []) hK (c_X5_thrown l hR) (gk_gV q_6_14 q_6_15 q_6_16 q_1_5 q_6_17) ⟨rfl, by decide +kernel, by decide +kernel, by decide +kernel⟩ ⟨(Nat.le_of_ble_eq_true rfl), (Nat.le_of_ble_eq_true rfl)⟩ hP hS (gk_recv hK.2.2.1.1 hP hR.2.2.2.2.2.2.2.2.1 rfl) rfl hl.1 rfl (Nat.le_of_ble_eq_true rfl) dL_law_357 ⟨(by show ((cells + 16) + 0) + 0 ≤ 601024; omega), (by show ((slots + 128) + 0) + 0 ≤ 7293034; omega)⟩ (fun v G1 H locs hw hP hS => ?_)
            obtain ⟨rfl, hG9⟩ := hw
            rw [hG9] at hP
            refine W.eq (g2 := F0 m 360 ls [.int 2]) rfl ?_
            refine lv_iload hK.1.1 hK.1.2.1 dL_law_360 (lv_at hl 0 rfl) ?_
            refine lv_icmp_eq (tgt := 367) hK.1.1 hK.1.2.1 dL_law_362 (by decide) (fun _ => ?_) (fun c => absurd (by decide) c)
            refine lv_goto (tgt := 1428) hK.1.1 hK.1.2.1 dL_law_367 (by decide) ?_
            exact W.widen (show (((cells + 16) + 0) + 0) ≤ cells + 100 by omega) (show (((slots + 128) + 0) + 0) ≤ slots + 8000 by omega) (kk ls _ _ _ _ _ _ _ _ _ _ _ _ _ _ _ _ _ _ _ _ _ _ hP hS hR (xI_mono hI) (lv_sub hl [1, 2, 3, 4, 5] rfl))
    · refine lv_iconst (v := 1) hK.1.1 hK.1.2.1 dL_law_266 (by decide) ?_
      refine lv_goto (tgt := 271) hK.1.1 hK.1.2.1 dL_law_267 (by decide) ?_
      refine lv_aload_n hK.1.1 hK.1.2.1 dL_law_271 rfl (lv_at hl 1 rfl) ?_
      refine lv_iload hK.1.1 hK.1.2.1 dL_law_272 (lv_at hl 0 rfl) ?_
      refine lv_bipush (v := 6) hK.1.1 hK.1.2.1 dL_law_274 (by decide) ?_
      refine lv_iadd hK.1.1 hK.1.2.1 dL_law_276 ?_
      rw [show nI i + 6 = nI (i + 6) from nI_add i 6]
      refine va_ti hK.1.1 hK.1.2.1 hT hS (vp_in_nI (show i + 6 < n9 by omega) (by omega)) (v := .int (sf (i + 6))) (by rw [nI_clamp (by omega)]) dL_law_277 ?_
      refine lv_if_eq (tgt := 285) hK.1.1 hK.1.2.1 dL_law_278 (by decide) (fun c278_4 => ?_) (fun c278_4 => ?_)
      · refine lv_iconst (v := 0) hK.1.1 hK.1.2.1 dL_law_285 (by decide) ?_
        refine gk_callSW (n := 7) (As := [.ref (ly_a y 0), .int (sf (i + 1)), .int (sf (i + 2)), .int (sf (i + 3)), .int 0, .int 1, .int 0]) (rest := []) hK (c_L_setOld l hfl hR (i := (sf (i + 1))) (kp := (sf (i + 2))) (gr := (sf (i + 3))) (b1 := 0) (b2 := 1) (b3 := 0) (Or.inl rfl) (Or.inr rfl) (Or.inl rfl)) (gk_gS q_6_18 q_6_19 q_5_0 q_6_20) ⟨by decide +kernel, by decide +kernel, by decide +kernel⟩ ⟨(Nat.le_of_ble_eq_true rfl), (Nat.le_of_ble_eq_true rfl)⟩ hP hS rfl hl.1 rfl (Nat.le_of_ble_eq_true rfl) dL_law_286 ⟨(by show cells + 16 ≤ 601024; omega), (by show slots + 128 ≤ 7293034; omega)⟩ (fun v G1 H locs hw hP hS => ?_)
        rcases hw with ⟨r, hr, e1, hok, rfl, hR⟩ | ⟨ho, rfl, hR⟩ | ⟨⟨hno, hnk⟩, rfl, hR⟩
        · refine W.eq (g2 := F0 m 289 ls [.int 0]) rfl ?_
          refine lv_istore (lv' := [(5, .int 0), (4, .int (nI i)), (0, .ref sc), (1, .ref (ly_a y 0)), (2, .ref (ly_a y 5)), (3, .ref (ly_a y 4))]) hK.1.1 hK.1.2.1 dL_law_289 hl (by decide) rfl (fun ls hl => ?_)
          refine lv_aload_n hK.1.1 hK.1.2.1 dL_law_291 rfl (lv_at hl 4 rfl) ?_
          refine lv_aload_n hK.1.1 hK.1.2.1 dL_law_292 rfl (lv_at hl 2 rfl) ?_
          refine lv_iload hK.1.1 hK.1.2.1 dL_law_293 (lv_at hl 1 rfl) ?_
          refine lv_iconst (v := 1) hK.1.1 hK.1.2.1 dL_law_295 (by decide) ?_
          refine lv_iadd hK.1.1 hK.1.2.1 dL_law_296 ?_
          rw [show nI i + 1 = nI (i + 1) from nI_add i 1]
          refine va_ti hK.1.1 hK.1.2.1 hT hS (vp_in_nI (show i + 1 < n9 by omega) (by omega)) (v := .int (sf (i + 1))) (by rw [nI_clamp (by omega)]) dL_law_297 ?_
          refine lv_aload_n hK.1.1 hK.1.2.1 dL_law_298 rfl (lv_at hl 2 rfl) ?_
          refine lv_iload hK.1.1 hK.1.2.1 dL_law_299 (lv_at hl 1 rfl) ?_
          refine lv_iconst (v := 2) hK.1.1 hK.1.2.1 dL_law_301 (by decide) ?_
          refine lv_iadd hK.1.1 hK.1.2.1 dL_law_302 ?_
          rw [show nI i + 2 = nI (i + 2) from nI_add i 2]
          refine va_ti hK.1.1 hK.1.2.1 hT hS (vp_in_nI (show i + 2 < n9 by omega) (by omega)) (v := .int (sf (i + 2))) (by rw [nI_clamp (by omega)]) dL_law_303 ?_
          refine lv_aload_n hK.1.1 hK.1.2.1 dL_law_304 rfl (lv_at hl 2 rfl) ?_
          refine lv_iload hK.1.1 hK.1.2.1 dL_law_305 (lv_at hl 1 rfl) ?_
          refine lv_iconst (v := 3) hK.1.1 hK.1.2.1 dL_law_307 (by decide) ?_
          refine lv_iadd hK.1.1 hK.1.2.1 dL_law_308 ?_
          rw [show nI i + 3 = nI (i + 3) from nI_add i 3]
          refine va_ti hK.1.1 hK.1.2.1 hT hS (vp_in_nI (show i + 3 < n9 by omega) (by omega)) (v := .int (sf (i + 3))) (by rw [nI_clamp (by omega)]) dL_law_309 ?_
          refine lv_aload_n hK.1.1 hK.1.2.1 dL_law_310 rfl (lv_at hl 2 rfl) ?_
          refine lv_iload hK.1.1 hK.1.2.1 dL_law_311 (lv_at hl 1 rfl) ?_
          refine lv_iconst (v := 4) hK.1.1 hK.1.2.1 dL_law_313 (by decide) ?_
          refine lv_iadd hK.1.1 hK.1.2.1 dL_law_314 ?_
          rw [show nI i + 4 = nI (i + 4) from nI_add i 4]
          refine va_ti hK.1.1 hK.1.2.1 hT hS (vp_in_nI (show i + 4 < n9 by omega) (by omega)) (v := .int (sf (i + 4))) (by rw [nI_clamp (by omega)]) dL_law_315 ?_
          refine lv_if_eq (tgt := 323) hK.1.1 hK.1.2.1 dL_law_316 (by decide) (fun _ => ?_) (fun c => absurd c249_1 c)
          refine lv_iconst (v := 0) hK.1.1 hK.1.2.1 dL_law_323 (by decide) ?_
          refine lv_aload_n hK.1.1 hK.1.2.1 dL_law_324 rfl (lv_at hl 2 rfl) ?_
          refine lv_iload hK.1.1 hK.1.2.1 dL_law_325 (lv_at hl 1 rfl) ?_
          refine lv_iconst (v := 5) hK.1.1 hK.1.2.1 dL_law_327 (by decide) ?_
          refine lv_iadd hK.1.1 hK.1.2.1 dL_law_328 ?_
          rw [show nI i + 5 = nI (i + 5) from nI_add i 5]
          refine va_ti hK.1.1 hK.1.2.1 hT hS (vp_in_nI (show i + 5 < n9 by omega) (by omega)) (v := .int (sf (i + 5))) (by rw [nI_clamp (by omega)]) dL_law_329 ?_
          refine lv_if_eq (tgt := 337) hK.1.1 hK.1.2.1 dL_law_330 (by decide) (fun c => absurd c c263_2) (fun _ => ?_)
          refine lv_iconst (v := 1) hK.1.1 hK.1.2.1 dL_law_333 (by decide) ?_
          refine lv_goto (tgt := 338) hK.1.1 hK.1.2.1 dL_law_334 (by decide) ?_
          refine lv_aload_n hK.1.1 hK.1.2.1 dL_law_338 rfl (lv_at hl 2 rfl) ?_
          refine lv_iload hK.1.1 hK.1.2.1 dL_law_339 (lv_at hl 1 rfl) ?_
          refine lv_bipush (v := 6) hK.1.1 hK.1.2.1 dL_law_341 (by decide) ?_
          refine lv_iadd hK.1.1 hK.1.2.1 dL_law_343 ?_
          rw [show nI i + 6 = nI (i + 6) from nI_add i 6]
          refine va_ti hK.1.1 hK.1.2.1 hT hS (vp_in_nI (show i + 6 < n9 by omega) (by omega)) (v := .int (sf (i + 6))) (by rw [nI_clamp (by omega)]) dL_law_344 ?_
          refine lv_if_eq (tgt := 352) hK.1.1 hK.1.2.1 dL_law_345 (by decide) (fun _ => ?_) (fun c => absurd c278_4 c)
          refine lv_iconst (v := 0) hK.1.1 hK.1.2.1 dL_law_352 (by decide) ?_
          refine gk_callV0 (n := 6) (As := [.int (sf (i + 1)), .int (sf (i + 2)), .int (sf (i + 3)), .int 0, .int 1, .int 0]) (rest := []) hK (c_X5_setOld l hR (i := (sf (i + 1))) (kp := (sf (i + 2))) (gr := (sf (i + 3))) (b1 := 0) (b2 := 1) (b3 := 0) (Or.inl rfl) (Or.inr rfl) (Or.inl rfl)) (gk_gV q_7_6 q_7_7 q_7_8 q_1_5 q_7_9) ⟨rfl, by decide +kernel, by decide +kernel, by decide +kernel⟩ ⟨(Nat.le_of_ble_eq_true rfl), (Nat.le_of_ble_eq_true rfl)⟩ hP hS (gk_recv hK.2.2.1.1 hP hR.2.2.2.2.2.2.2.2.1 rfl) rfl hl.1 rfl (Nat.le_of_ble_eq_true rfl) dL_law_353 ⟨(by show (cells + 16) + 0 ≤ 601024; omega), (by show (slots + 128) + 0 ≤ 7293034; omega)⟩ (fun v G1 H locs hw hP hS => ?_)
          obtain ⟨rfl, hw⟩ := hw
          rcases hw with ⟨r2, hr2, e2, hok2, hR⟩ | ⟨ho2, hR⟩ | ⟨hno2, hnk2, hR⟩
          · obtain rfl : r = r2 := (nI_eq (by omega) (by omega)).mp (e1.symm.trans e2)
            refine W.eq (g2 := F0 m 356 ls []) rfl ?_
            refine lv_aload_n hK.1.1 hK.1.2.1 dL_law_356 rfl (lv_at hl 4 rfl) ?_
            refine gk_callV0 (n := 0) (As := []) (rest := []) hK (c_X5_thrown l hR) (gk_gV q_6_14 q_6_15 q_6_16 q_1_5 q_6_17) ⟨rfl, by decide +kernel, by decide +kernel, by decide +kernel⟩ ⟨(Nat.le_of_ble_eq_true rfl), (Nat.le_of_ble_eq_true rfl)⟩ hP hS (gk_recv hK.2.2.1.1 hP hR.2.2.2.2.2.2.2.2.1 rfl) rfl hl.1 rfl (Nat.le_of_ble_eq_true rfl) dL_law_357 ⟨(by show ((cells + 16) + 0) + 0 ≤ 601024; omega), (by show ((slots + 128) + 0) + 0 ≤ 7293034; omega)⟩ (fun v G1 H locs hw hP hS => ?_)
            obtain ⟨rfl, hG9⟩ := hw
            rw [hG9] at hP
            refine W.eq (g2 := F0 m 360 ls [.int 0]) rfl ?_
            refine lv_iload hK.1.1 hK.1.2.1 dL_law_360 (lv_at hl 0 rfl) ?_
            refine lv_icmp_eq (tgt := 367) hK.1.1 hK.1.2.1 dL_law_362 (by decide) (fun _ => ?_) (fun c => absurd (by decide) c)
            refine lv_goto (tgt := 1428) hK.1.1 hK.1.2.1 dL_law_367 (by decide) ?_
            exact W.widen (show (((cells + 16) + 0) + 0) ≤ cells + 100 by omega) (show (((slots + 128) + 0) + 0) ≤ slots + 8000 by omega) (kk ls _ _ _ _ _ _ _ _ _ _ _ _ _ _ _ _ _ _ _ _ _ _ hP hS hR (xI_setOld hI hr hok (Or.inl rfl) (Or.inr rfl) (Or.inl rfl)) (lv_sub hl [1, 2, 3, 4, 5] rfl))
          · exact False.elim (absurd (e1 ▸ ho2) (rg_out_no hr (by decide)))
          · exact False.elim (hnk2 hok)
        · refine W.eq (g2 := F0 m 289 ls [.int 1]) rfl ?_
          refine lv_istore (lv' := [(5, .int 1), (4, .int (nI i)), (0, .ref sc), (1, .ref (ly_a y 0)), (2, .ref (ly_a y 5)), (3, .ref (ly_a y 4))]) hK.1.1 hK.1.2.1 dL_law_289 hl (by decide) rfl (fun ls hl => ?_)
          refine lv_aload_n hK.1.1 hK.1.2.1 dL_law_291 rfl (lv_at hl 4 rfl) ?_
          refine lv_aload_n hK.1.1 hK.1.2.1 dL_law_292 rfl (lv_at hl 2 rfl) ?_
          refine lv_iload hK.1.1 hK.1.2.1 dL_law_293 (lv_at hl 1 rfl) ?_
          refine lv_iconst (v := 1) hK.1.1 hK.1.2.1 dL_law_295 (by decide) ?_
          refine lv_iadd hK.1.1 hK.1.2.1 dL_law_296 ?_
          rw [show nI i + 1 = nI (i + 1) from nI_add i 1]
          refine va_ti hK.1.1 hK.1.2.1 hT hS (vp_in_nI (show i + 1 < n9 by omega) (by omega)) (v := .int (sf (i + 1))) (by rw [nI_clamp (by omega)]) dL_law_297 ?_
          refine lv_aload_n hK.1.1 hK.1.2.1 dL_law_298 rfl (lv_at hl 2 rfl) ?_
          refine lv_iload hK.1.1 hK.1.2.1 dL_law_299 (lv_at hl 1 rfl) ?_
          refine lv_iconst (v := 2) hK.1.1 hK.1.2.1 dL_law_301 (by decide) ?_
          refine lv_iadd hK.1.1 hK.1.2.1 dL_law_302 ?_
          rw [show nI i + 2 = nI (i + 2) from nI_add i 2]
          refine va_ti hK.1.1 hK.1.2.1 hT hS (vp_in_nI (show i + 2 < n9 by omega) (by omega)) (v := .int (sf (i + 2))) (by rw [nI_clamp (by omega)]) dL_law_303 ?_
          refine lv_aload_n hK.1.1 hK.1.2.1 dL_law_304 rfl (lv_at hl 2 rfl) ?_
          refine lv_iload hK.1.1 hK.1.2.1 dL_law_305 (lv_at hl 1 rfl) ?_
          refine lv_iconst (v := 3) hK.1.1 hK.1.2.1 dL_law_307 (by decide) ?_
          refine lv_iadd hK.1.1 hK.1.2.1 dL_law_308 ?_
          rw [show nI i + 3 = nI (i + 3) from nI_add i 3]
          refine va_ti hK.1.1 hK.1.2.1 hT hS (vp_in_nI (show i + 3 < n9 by omega) (by omega)) (v := .int (sf (i + 3))) (by rw [nI_clamp (by omega)]) dL_law_309 ?_
          refine lv_aload_n hK.1.1 hK.1.2.1 dL_law_310 rfl (lv_at hl 2 rfl) ?_
          refine lv_iload hK.1.1 hK.1.2.1 dL_law_311 (lv_at hl 1 rfl) ?_
          refine lv_iconst (v := 4) hK.1.1 hK.1.2.1 dL_law_313 (by decide) ?_
          refine lv_iadd hK.1.1 hK.1.2.1 dL_law_314 ?_
          rw [show nI i + 4 = nI (i + 4) from nI_add i 4]
          refine va_ti hK.1.1 hK.1.2.1 hT hS (vp_in_nI (show i + 4 < n9 by omega) (by omega)) (v := .int (sf (i + 4))) (by rw [nI_clamp (by omega)]) dL_law_315 ?_
          refine lv_if_eq (tgt := 323) hK.1.1 hK.1.2.1 dL_law_316 (by decide) (fun _ => ?_) (fun c => absurd c249_1 c)
          refine lv_iconst (v := 0) hK.1.1 hK.1.2.1 dL_law_323 (by decide) ?_
          refine lv_aload_n hK.1.1 hK.1.2.1 dL_law_324 rfl (lv_at hl 2 rfl) ?_
          refine lv_iload hK.1.1 hK.1.2.1 dL_law_325 (lv_at hl 1 rfl) ?_
          refine lv_iconst (v := 5) hK.1.1 hK.1.2.1 dL_law_327 (by decide) ?_
          refine lv_iadd hK.1.1 hK.1.2.1 dL_law_328 ?_
          rw [show nI i + 5 = nI (i + 5) from nI_add i 5]
          refine va_ti hK.1.1 hK.1.2.1 hT hS (vp_in_nI (show i + 5 < n9 by omega) (by omega)) (v := .int (sf (i + 5))) (by rw [nI_clamp (by omega)]) dL_law_329 ?_
          refine lv_if_eq (tgt := 337) hK.1.1 hK.1.2.1 dL_law_330 (by decide) (fun c => absurd c c263_2) (fun _ => ?_)
          refine lv_iconst (v := 1) hK.1.1 hK.1.2.1 dL_law_333 (by decide) ?_
          refine lv_goto (tgt := 338) hK.1.1 hK.1.2.1 dL_law_334 (by decide) ?_
          refine lv_aload_n hK.1.1 hK.1.2.1 dL_law_338 rfl (lv_at hl 2 rfl) ?_
          refine lv_iload hK.1.1 hK.1.2.1 dL_law_339 (lv_at hl 1 rfl) ?_
          refine lv_bipush (v := 6) hK.1.1 hK.1.2.1 dL_law_341 (by decide) ?_
          refine lv_iadd hK.1.1 hK.1.2.1 dL_law_343 ?_
          rw [show nI i + 6 = nI (i + 6) from nI_add i 6]
          refine va_ti hK.1.1 hK.1.2.1 hT hS (vp_in_nI (show i + 6 < n9 by omega) (by omega)) (v := .int (sf (i + 6))) (by rw [nI_clamp (by omega)]) dL_law_344 ?_
          refine lv_if_eq (tgt := 352) hK.1.1 hK.1.2.1 dL_law_345 (by decide) (fun _ => ?_) (fun c => absurd c278_4 c)
          refine lv_iconst (v := 0) hK.1.1 hK.1.2.1 dL_law_352 (by decide) ?_
          refine gk_callV0 (n := 6) (As := [.int (sf (i + 1)), .int (sf (i + 2)), .int (sf (i + 3)), .int 0, .int 1, .int 0]) (rest := []) hK (c_X5_setOld l hR (i := (sf (i + 1))) (kp := (sf (i + 2))) (gr := (sf (i + 3))) (b1 := 0) (b2 := 1) (b3 := 0) (Or.inl rfl) (Or.inr rfl) (Or.inl rfl)) (gk_gV q_7_6 q_7_7 q_7_8 q_1_5 q_7_9) ⟨rfl, by decide +kernel, by decide +kernel, by decide +kernel⟩ ⟨(Nat.le_of_ble_eq_true rfl), (Nat.le_of_ble_eq_true rfl)⟩ hP hS (gk_recv hK.2.2.1.1 hP hR.2.2.2.2.2.2.2.2.1 rfl) rfl hl.1 rfl (Nat.le_of_ble_eq_true rfl) dL_law_353 ⟨(by show (cells + 16) + 0 ≤ 601024; omega), (by show (slots + 128) + 0 ≤ 7293034; omega)⟩ (fun v G1 H locs hw hP hS => ?_)
          obtain ⟨rfl, hw⟩ := hw
          rcases hw with ⟨r2, hr2, e2, hok2, hR⟩ | ⟨ho2, hR⟩ | ⟨hno2, hnk2, hR⟩
          · exact False.elim (absurd (e2 ▸ ho) (rg_out_no hr2 (by decide)))
          · refine W.eq (g2 := F0 m 356 ls []) rfl ?_
            refine lv_aload_n hK.1.1 hK.1.2.1 dL_law_356 rfl (lv_at hl 4 rfl) ?_
            refine gk_callV0 (n := 0) (As := []) (rest := []) hK (c_X5_thrown l hR) (gk_gV q_6_14 q_6_15 q_6_16 q_1_5 q_6_17) ⟨rfl, by decide +kernel, by decide +kernel, by decide +kernel⟩ ⟨(Nat.le_of_ble_eq_true rfl), (Nat.le_of_ble_eq_true rfl)⟩ hP hS (gk_recv hK.2.2.1.1 hP hR.2.2.2.2.2.2.2.2.1 rfl) rfl hl.1 rfl (Nat.le_of_ble_eq_true rfl) dL_law_357 ⟨(by show ((cells + 16) + 0) + 0 ≤ 601024; omega), (by show ((slots + 128) + 0) + 0 ≤ 7293034; omega)⟩ (fun v G1 H locs hw hP hS => ?_)
            obtain ⟨rfl, hG9⟩ := hw
            rw [hG9] at hP
            refine W.eq (g2 := F0 m 360 ls [.int 1]) rfl ?_
            refine lv_iload hK.1.1 hK.1.2.1 dL_law_360 (lv_at hl 0 rfl) ?_
            refine lv_icmp_eq (tgt := 367) hK.1.1 hK.1.2.1 dL_law_362 (by decide) (fun _ => ?_) (fun c => absurd (by decide) c)
            refine lv_goto (tgt := 1428) hK.1.1 hK.1.2.1 dL_law_367 (by decide) ?_
            exact W.widen (show (((cells + 16) + 0) + 0) ≤ cells + 100 by omega) (show (((slots + 128) + 0) + 0) ≤ slots + 8000 by omega) (kk ls _ _ _ _ _ _ _ _ _ _ _ _ _ _ _ _ _ _ _ _ _ _ hP hS hR (xI_mono hI) (lv_sub hl [1, 2, 3, 4, 5] rfl))
          · exact False.elim (hno2 ho)
        · refine W.eq (g2 := F0 m 289 ls [.int 2]) rfl ?_
          refine lv_istore (lv' := [(5, .int 2), (4, .int (nI i)), (0, .ref sc), (1, .ref (ly_a y 0)), (2, .ref (ly_a y 5)), (3, .ref (ly_a y 4))]) hK.1.1 hK.1.2.1 dL_law_289 hl (by decide) rfl (fun ls hl => ?_)
          refine lv_aload_n hK.1.1 hK.1.2.1 dL_law_291 rfl (lv_at hl 4 rfl) ?_
          refine lv_aload_n hK.1.1 hK.1.2.1 dL_law_292 rfl (lv_at hl 2 rfl) ?_
          refine lv_iload hK.1.1 hK.1.2.1 dL_law_293 (lv_at hl 1 rfl) ?_
          refine lv_iconst (v := 1) hK.1.1 hK.1.2.1 dL_law_295 (by decide) ?_
          refine lv_iadd hK.1.1 hK.1.2.1 dL_law_296 ?_
          rw [show nI i + 1 = nI (i + 1) from nI_add i 1]
          refine va_ti hK.1.1 hK.1.2.1 hT hS (vp_in_nI (show i + 1 < n9 by omega) (by omega)) (v := .int (sf (i + 1))) (by rw [nI_clamp (by omega)]) dL_law_297 ?_
          refine lv_aload_n hK.1.1 hK.1.2.1 dL_law_298 rfl (lv_at hl 2 rfl) ?_
          refine lv_iload hK.1.1 hK.1.2.1 dL_law_299 (lv_at hl 1 rfl) ?_
          refine lv_iconst (v := 2) hK.1.1 hK.1.2.1 dL_law_301 (by decide) ?_
          refine lv_iadd hK.1.1 hK.1.2.1 dL_law_302 ?_
          rw [show nI i + 2 = nI (i + 2) from nI_add i 2]
          refine va_ti hK.1.1 hK.1.2.1 hT hS (vp_in_nI (show i + 2 < n9 by omega) (by omega)) (v := .int (sf (i + 2))) (by rw [nI_clamp (by omega)]) dL_law_303 ?_
          refine lv_aload_n hK.1.1 hK.1.2.1 dL_law_304 rfl (lv_at hl 2 rfl) ?_
          refine lv_iload hK.1.1 hK.1.2.1 dL_law_305 (lv_at hl 1 rfl) ?_
          refine lv_iconst (v := 3) hK.1.1 hK.1.2.1 dL_law_307 (by decide) ?_
          refine lv_iadd hK.1.1 hK.1.2.1 dL_law_308 ?_
          rw [show nI i + 3 = nI (i + 3) from nI_add i 3]
          refine va_ti hK.1.1 hK.1.2.1 hT hS (vp_in_nI (show i + 3 < n9 by omega) (by omega)) (v := .int (sf (i + 3))) (by rw [nI_clamp (by omega)]) dL_law_309 ?_
          refine lv_aload_n hK.1.1 hK.1.2.1 dL_law_310 rfl (lv_at hl 2 rfl) ?_
          refine lv_iload hK.1.1 hK.1.2.1 dL_law_311 (lv_at hl 1 rfl) ?_
          refine lv_iconst (v := 4) hK.1.1 hK.1.2.1 dL_law_313 (by decide) ?_
          refine lv_iadd hK.1.1 hK.1.2.1 dL_law_314 ?_
          rw [show nI i + 4 = nI (i + 4) from nI_add i 4]
          refine va_ti hK.1.1 hK.1.2.1 hT hS (vp_in_nI (show i + 4 < n9 by omega) (by omega)) (v := .int (sf (i + 4))) (by rw [nI_clamp (by omega)]) dL_law_315 ?_
          refine lv_if_eq (tgt := 323) hK.1.1 hK.1.2.1 dL_law_316 (by decide) (fun _ => ?_) (fun c => absurd c249_1 c)
          refine lv_iconst (v := 0) hK.1.1 hK.1.2.1 dL_law_323 (by decide) ?_
          refine lv_aload_n hK.1.1 hK.1.2.1 dL_law_324 rfl (lv_at hl 2 rfl) ?_
          refine lv_iload hK.1.1 hK.1.2.1 dL_law_325 (lv_at hl 1 rfl) ?_
          refine lv_iconst (v := 5) hK.1.1 hK.1.2.1 dL_law_327 (by decide) ?_
          refine lv_iadd hK.1.1 hK.1.2.1 dL_law_328 ?_
          rw [show nI i + 5 = nI (i + 5) from nI_add i 5]
          refine va_ti hK.1.1 hK.1.2.1 hT hS (vp_in_nI (show i + 5 < n9 by omega) (by omega)) (v := .int (sf (i + 5))) (by rw [nI_clamp (by omega)]) dL_law_329 ?_
          refine lv_if_eq (tgt := 337) hK.1.1 hK.1.2.1 dL_law_330 (by decide) (fun c => absurd c c263_2) (fun _ => ?_)
          refine lv_iconst (v := 1) hK.1.1 hK.1.2.1 dL_law_333 (by decide) ?_
          refine lv_goto (tgt := 338) hK.1.1 hK.1.2.1 dL_law_334 (by decide) ?_
          refine lv_aload_n hK.1.1 hK.1.2.1 dL_law_338 rfl (lv_at hl 2 rfl) ?_
          refine lv_iload hK.1.1 hK.1.2.1 dL_law_339 (lv_at hl 1 rfl) ?_
          refine lv_bipush (v := 6) hK.1.1 hK.1.2.1 dL_law_341 (by decide) ?_
          refine lv_iadd hK.1.1 hK.1.2.1 dL_law_343 ?_
          rw [show nI i + 6 = nI (i + 6) from nI_add i 6]
          refine va_ti hK.1.1 hK.1.2.1 hT hS (vp_in_nI (show i + 6 < n9 by omega) (by omega)) (v := .int (sf (i + 6))) (by rw [nI_clamp (by omega)]) dL_law_344 ?_
          refine lv_if_eq (tgt := 352) hK.1.1 hK.1.2.1 dL_law_345 (by decide) (fun _ => ?_) (fun c => absurd c278_4 c)
          refine lv_iconst (v := 0) hK.1.1 hK.1.2.1 dL_law_352 (by decide) ?_
          refine gk_callV0 (n := 6) (As := [.int (sf (i + 1)), .int (sf (i + 2)), .int (sf (i + 3)), .int 0, .int 1, .int 0]) (rest := []) hK (c_X5_setOld l hR (i := (sf (i + 1))) (kp := (sf (i + 2))) (gr := (sf (i + 3))) (b1 := 0) (b2 := 1) (b3 := 0) (Or.inl rfl) (Or.inr rfl) (Or.inl rfl)) (gk_gV q_7_6 q_7_7 q_7_8 q_1_5 q_7_9) ⟨rfl, by decide +kernel, by decide +kernel, by decide +kernel⟩ ⟨(Nat.le_of_ble_eq_true rfl), (Nat.le_of_ble_eq_true rfl)⟩ hP hS (gk_recv hK.2.2.1.1 hP hR.2.2.2.2.2.2.2.2.1 rfl) rfl hl.1 rfl (Nat.le_of_ble_eq_true rfl) dL_law_353 ⟨(by show (cells + 16) + 0 ≤ 601024; omega), (by show (slots + 128) + 0 ≤ 7293034; omega)⟩ (fun v G1 H locs hw hP hS => ?_)
          obtain ⟨rfl, hw⟩ := hw
          rcases hw with ⟨r2, hr2, e2, hok2, hR⟩ | ⟨ho2, hR⟩ | ⟨hno2, hnk2, hR⟩
          · exact False.elim (hnk hok2)
          · exact False.elim (hno ho2)
          · refine W.eq (g2 := F0 m 356 ls []) rfl ?_
            refine lv_aload_n hK.1.1 hK.1.2.1 dL_law_356 rfl (lv_at hl 4 rfl) ?_
            refine gk_callV0 (n := 0) (As := []) (rest := []) hK (c_X5_thrown l hR) (gk_gV q_6_14 q_6_15 q_6_16 q_1_5 q_6_17) ⟨rfl, by decide +kernel, by decide +kernel, by decide +kernel⟩ ⟨(Nat.le_of_ble_eq_true rfl), (Nat.le_of_ble_eq_true rfl)⟩ hP hS (gk_recv hK.2.2.1.1 hP hR.2.2.2.2.2.2.2.2.1 rfl) rfl hl.1 rfl (Nat.le_of_ble_eq_true rfl) dL_law_357 ⟨(by show ((cells + 16) + 0) + 0 ≤ 601024; omega), (by show ((slots + 128) + 0) + 0 ≤ 7293034; omega)⟩ (fun v G1 H locs hw hP hS => ?_)
            obtain ⟨rfl, hG9⟩ := hw
            rw [hG9] at hP
            refine W.eq (g2 := F0 m 360 ls [.int 2]) rfl ?_
            refine lv_iload hK.1.1 hK.1.2.1 dL_law_360 (lv_at hl 0 rfl) ?_
            refine lv_icmp_eq (tgt := 367) hK.1.1 hK.1.2.1 dL_law_362 (by decide) (fun _ => ?_) (fun c => absurd (by decide) c)
            refine lv_goto (tgt := 1428) hK.1.1 hK.1.2.1 dL_law_367 (by decide) ?_
            exact W.widen (show (((cells + 16) + 0) + 0) ≤ cells + 100 by omega) (show (((slots + 128) + 0) + 0) ≤ slots + 8000 by omega) (kk ls _ _ _ _ _ _ _ _ _ _ _ _ _ _ _ _ _ _ _ _ _ _ hP hS hR (xI_mono hI) (lv_sub hl [1, 2, 3, 4, 5] rfl))
      · refine lv_iconst (v := 1) hK.1.1 hK.1.2.1 dL_law_281 (by decide) ?_
        refine lv_goto (tgt := 286) hK.1.1 hK.1.2.1 dL_law_282 (by decide) ?_
        refine gk_callSW (n := 7) (As := [.ref (ly_a y 0), .int (sf (i + 1)), .int (sf (i + 2)), .int (sf (i + 3)), .int 0, .int 1, .int 1]) (rest := []) hK (c_L_setOld l hfl hR (i := (sf (i + 1))) (kp := (sf (i + 2))) (gr := (sf (i + 3))) (b1 := 0) (b2 := 1) (b3 := 1) (Or.inl rfl) (Or.inr rfl) (Or.inr rfl)) (gk_gS q_6_18 q_6_19 q_5_0 q_6_20) ⟨by decide +kernel, by decide +kernel, by decide +kernel⟩ ⟨(Nat.le_of_ble_eq_true rfl), (Nat.le_of_ble_eq_true rfl)⟩ hP hS rfl hl.1 rfl (Nat.le_of_ble_eq_true rfl) dL_law_286 ⟨(by show cells + 16 ≤ 601024; omega), (by show slots + 128 ≤ 7293034; omega)⟩ (fun v G1 H locs hw hP hS => ?_)
        rcases hw with ⟨r, hr, e1, hok, rfl, hR⟩ | ⟨ho, rfl, hR⟩ | ⟨⟨hno, hnk⟩, rfl, hR⟩
        · refine W.eq (g2 := F0 m 289 ls [.int 0]) rfl ?_
          refine lv_istore (lv' := [(5, .int 0), (4, .int (nI i)), (0, .ref sc), (1, .ref (ly_a y 0)), (2, .ref (ly_a y 5)), (3, .ref (ly_a y 4))]) hK.1.1 hK.1.2.1 dL_law_289 hl (by decide) rfl (fun ls hl => ?_)
          refine lv_aload_n hK.1.1 hK.1.2.1 dL_law_291 rfl (lv_at hl 4 rfl) ?_
          refine lv_aload_n hK.1.1 hK.1.2.1 dL_law_292 rfl (lv_at hl 2 rfl) ?_
          refine lv_iload hK.1.1 hK.1.2.1 dL_law_293 (lv_at hl 1 rfl) ?_
          refine lv_iconst (v := 1) hK.1.1 hK.1.2.1 dL_law_295 (by decide) ?_
          refine lv_iadd hK.1.1 hK.1.2.1 dL_law_296 ?_
          rw [show nI i + 1 = nI (i + 1) from nI_add i 1]
          refine va_ti hK.1.1 hK.1.2.1 hT hS (vp_in_nI (show i + 1 < n9 by omega) (by omega)) (v := .int (sf (i + 1))) (by rw [nI_clamp (by omega)]) dL_law_297 ?_
          refine lv_aload_n hK.1.1 hK.1.2.1 dL_law_298 rfl (lv_at hl 2 rfl) ?_
          refine lv_iload hK.1.1 hK.1.2.1 dL_law_299 (lv_at hl 1 rfl) ?_
          refine lv_iconst (v := 2) hK.1.1 hK.1.2.1 dL_law_301 (by decide) ?_
          refine lv_iadd hK.1.1 hK.1.2.1 dL_law_302 ?_
          rw [show nI i + 2 = nI (i + 2) from nI_add i 2]
          refine va_ti hK.1.1 hK.1.2.1 hT hS (vp_in_nI (show i + 2 < n9 by omega) (by omega)) (v := .int (sf (i + 2))) (by rw [nI_clamp (by omega)]) dL_law_303 ?_
          refine lv_aload_n hK.1.1 hK.1.2.1 dL_law_304 rfl (lv_at hl 2 rfl) ?_
          refine lv_iload hK.1.1 hK.1.2.1 dL_law_305 (lv_at hl 1 rfl) ?_
          refine lv_iconst (v := 3) hK.1.1 hK.1.2.1 dL_law_307 (by decide) ?_
          refine lv_iadd hK.1.1 hK.1.2.1 dL_law_308 ?_
          rw [show nI i + 3 = nI (i + 3) from nI_add i 3]
          refine va_ti hK.1.1 hK.1.2.1 hT hS (vp_in_nI (show i + 3 < n9 by omega) (by omega)) (v := .int (sf (i + 3))) (by rw [nI_clamp (by omega)]) dL_law_309 ?_
          refine lv_aload_n hK.1.1 hK.1.2.1 dL_law_310 rfl (lv_at hl 2 rfl) ?_
          refine lv_iload hK.1.1 hK.1.2.1 dL_law_311 (lv_at hl 1 rfl) ?_
          refine lv_iconst (v := 4) hK.1.1 hK.1.2.1 dL_law_313 (by decide) ?_
          refine lv_iadd hK.1.1 hK.1.2.1 dL_law_314 ?_
          rw [show nI i + 4 = nI (i + 4) from nI_add i 4]
          refine va_ti hK.1.1 hK.1.2.1 hT hS (vp_in_nI (show i + 4 < n9 by omega) (by omega)) (v := .int (sf (i + 4))) (by rw [nI_clamp (by omega)]) dL_law_315 ?_
          refine lv_if_eq (tgt := 323) hK.1.1 hK.1.2.1 dL_law_316 (by decide) (fun _ => ?_) (fun c => absurd c249_1 c)
          refine lv_iconst (v := 0) hK.1.1 hK.1.2.1 dL_law_323 (by decide) ?_
          refine lv_aload_n hK.1.1 hK.1.2.1 dL_law_324 rfl (lv_at hl 2 rfl) ?_
          refine lv_iload hK.1.1 hK.1.2.1 dL_law_325 (lv_at hl 1 rfl) ?_
          refine lv_iconst (v := 5) hK.1.1 hK.1.2.1 dL_law_327 (by decide) ?_
          refine lv_iadd hK.1.1 hK.1.2.1 dL_law_328 ?_
          rw [show nI i + 5 = nI (i + 5) from nI_add i 5]
          refine va_ti hK.1.1 hK.1.2.1 hT hS (vp_in_nI (show i + 5 < n9 by omega) (by omega)) (v := .int (sf (i + 5))) (by rw [nI_clamp (by omega)]) dL_law_329 ?_
          refine lv_if_eq (tgt := 337) hK.1.1 hK.1.2.1 dL_law_330 (by decide) (fun c => absurd c c263_2) (fun _ => ?_)
          refine lv_iconst (v := 1) hK.1.1 hK.1.2.1 dL_law_333 (by decide) ?_
          refine lv_goto (tgt := 338) hK.1.1 hK.1.2.1 dL_law_334 (by decide) ?_
          refine lv_aload_n hK.1.1 hK.1.2.1 dL_law_338 rfl (lv_at hl 2 rfl) ?_
          refine lv_iload hK.1.1 hK.1.2.1 dL_law_339 (lv_at hl 1 rfl) ?_
          refine lv_bipush (v := 6) hK.1.1 hK.1.2.1 dL_law_341 (by decide) ?_
          refine lv_iadd hK.1.1 hK.1.2.1 dL_law_343 ?_
          rw [show nI i + 6 = nI (i + 6) from nI_add i 6]
          refine va_ti hK.1.1 hK.1.2.1 hT hS (vp_in_nI (show i + 6 < n9 by omega) (by omega)) (v := .int (sf (i + 6))) (by rw [nI_clamp (by omega)]) dL_law_344 ?_
          refine lv_if_eq (tgt := 352) hK.1.1 hK.1.2.1 dL_law_345 (by decide) (fun c => absurd c c278_4) (fun _ => ?_)
          refine lv_iconst (v := 1) hK.1.1 hK.1.2.1 dL_law_348 (by decide) ?_
          refine lv_goto (tgt := 353) hK.1.1 hK.1.2.1 dL_law_349 (by decide) ?_
          refine gk_callV0 (n := 6) (As := [.int (sf (i + 1)), .int (sf (i + 2)), .int (sf (i + 3)), .int 0, .int 1, .int 1]) (rest := []) hK (c_X5_setOld l hR (i := (sf (i + 1))) (kp := (sf (i + 2))) (gr := (sf (i + 3))) (b1 := 0) (b2 := 1) (b3 := 1) (Or.inl rfl) (Or.inr rfl) (Or.inr rfl)) (gk_gV q_7_6 q_7_7 q_7_8 q_1_5 q_7_9) ⟨rfl, by decide +kernel, by decide +kernel, by decide +kernel⟩ ⟨(Nat.le_of_ble_eq_true rfl), (Nat.le_of_ble_eq_true rfl)⟩ hP hS (gk_recv hK.2.2.1.1 hP hR.2.2.2.2.2.2.2.2.1 rfl) rfl hl.1 rfl (Nat.le_of_ble_eq_true rfl) dL_law_353 ⟨(by show (cells + 16) + 0 ≤ 601024; omega), (by show (slots + 128) + 0 ≤ 7293034; omega)⟩ (fun v G1 H locs hw hP hS => ?_)
          obtain ⟨rfl, hw⟩ := hw
          rcases hw with ⟨r2, hr2, e2, hok2, hR⟩ | ⟨ho2, hR⟩ | ⟨hno2, hnk2, hR⟩
          · obtain rfl : r = r2 := (nI_eq (by omega) (by omega)).mp (e1.symm.trans e2)
            refine W.eq (g2 := F0 m 356 ls []) rfl ?_
            refine lv_aload_n hK.1.1 hK.1.2.1 dL_law_356 rfl (lv_at hl 4 rfl) ?_
            refine gk_callV0 (n := 0) (As := []) (rest := []) hK (c_X5_thrown l hR) (gk_gV q_6_14 q_6_15 q_6_16 q_1_5 q_6_17) ⟨rfl, by decide +kernel, by decide +kernel, by decide +kernel⟩ ⟨(Nat.le_of_ble_eq_true rfl), (Nat.le_of_ble_eq_true rfl)⟩ hP hS (gk_recv hK.2.2.1.1 hP hR.2.2.2.2.2.2.2.2.1 rfl) rfl hl.1 rfl (Nat.le_of_ble_eq_true rfl) dL_law_357 ⟨(by show ((cells + 16) + 0) + 0 ≤ 601024; omega), (by show ((slots + 128) + 0) + 0 ≤ 7293034; omega)⟩ (fun v G1 H locs hw hP hS => ?_)
            obtain ⟨rfl, hG9⟩ := hw
            rw [hG9] at hP
            refine W.eq (g2 := F0 m 360 ls [.int 0]) rfl ?_
            refine lv_iload hK.1.1 hK.1.2.1 dL_law_360 (lv_at hl 0 rfl) ?_
            refine lv_icmp_eq (tgt := 367) hK.1.1 hK.1.2.1 dL_law_362 (by decide) (fun _ => ?_) (fun c => absurd (by decide) c)
            refine lv_goto (tgt := 1428) hK.1.1 hK.1.2.1 dL_law_367 (by decide) ?_
            exact W.widen (show (((cells + 16) + 0) + 0) ≤ cells + 100 by omega) (show (((slots + 128) + 0) + 0) ≤ slots + 8000 by omega) (kk ls _ _ _ _ _ _ _ _ _ _ _ _ _ _ _ _ _ _ _ _ _ _ hP hS hR (xI_setOld hI hr hok (Or.inl rfl) (Or.inr rfl) (Or.inr rfl)) (lv_sub hl [1, 2, 3, 4, 5] rfl))
          · exact False.elim (absurd (e1 ▸ ho2) (rg_out_no hr (by decide)))
          · exact False.elim (hnk2 hok)
        · refine W.eq (g2 := F0 m 289 ls [.int 1]) rfl ?_
          refine lv_istore (lv' := [(5, .int 1), (4, .int (nI i)), (0, .ref sc), (1, .ref (ly_a y 0)), (2, .ref (ly_a y 5)), (3, .ref (ly_a y 4))]) hK.1.1 hK.1.2.1 dL_law_289 hl (by decide) rfl (fun ls hl => ?_)
          refine lv_aload_n hK.1.1 hK.1.2.1 dL_law_291 rfl (lv_at hl 4 rfl) ?_
          refine lv_aload_n hK.1.1 hK.1.2.1 dL_law_292 rfl (lv_at hl 2 rfl) ?_
          refine lv_iload hK.1.1 hK.1.2.1 dL_law_293 (lv_at hl 1 rfl) ?_
          refine lv_iconst (v := 1) hK.1.1 hK.1.2.1 dL_law_295 (by decide) ?_
          refine lv_iadd hK.1.1 hK.1.2.1 dL_law_296 ?_
          rw [show nI i + 1 = nI (i + 1) from nI_add i 1]
          refine va_ti hK.1.1 hK.1.2.1 hT hS (vp_in_nI (show i + 1 < n9 by omega) (by omega)) (v := .int (sf (i + 1))) (by rw [nI_clamp (by omega)]) dL_law_297 ?_
          refine lv_aload_n hK.1.1 hK.1.2.1 dL_law_298 rfl (lv_at hl 2 rfl) ?_
          refine lv_iload hK.1.1 hK.1.2.1 dL_law_299 (lv_at hl 1 rfl) ?_
          refine lv_iconst (v := 2) hK.1.1 hK.1.2.1 dL_law_301 (by decide) ?_
          refine lv_iadd hK.1.1 hK.1.2.1 dL_law_302 ?_
          rw [show nI i + 2 = nI (i + 2) from nI_add i 2]
          refine va_ti hK.1.1 hK.1.2.1 hT hS (vp_in_nI (show i + 2 < n9 by omega) (by omega)) (v := .int (sf (i + 2))) (by rw [nI_clamp (by omega)]) dL_law_303 ?_
          refine lv_aload_n hK.1.1 hK.1.2.1 dL_law_304 rfl (lv_at hl 2 rfl) ?_
          refine lv_iload hK.1.1 hK.1.2.1 dL_law_305 (lv_at hl 1 rfl) ?_
          refine lv_iconst (v := 3) hK.1.1 hK.1.2.1 dL_law_307 (by decide) ?_
          refine lv_iadd hK.1.1 hK.1.2.1 dL_law_308 ?_
          rw [show nI i + 3 = nI (i + 3) from nI_add i 3]
          refine va_ti hK.1.1 hK.1.2.1 hT hS (vp_in_nI (show i + 3 < n9 by omega) (by omega)) (v := .int (sf (i + 3))) (by rw [nI_clamp (by omega)]) dL_law_309 ?_
          refine lv_aload_n hK.1.1 hK.1.2.1 dL_law_310 rfl (lv_at hl 2 rfl) ?_
          refine lv_iload hK.1.1 hK.1.2.1 dL_law_311 (lv_at hl 1 rfl) ?_
          refine lv_iconst (v := 4) hK.1.1 hK.1.2.1 dL_law_313 (by decide) ?_
          refine lv_iadd hK.1.1 hK.1.2.1 dL_law_314 ?_
          rw [show nI i + 4 = nI (i + 4) from nI_add i 4]
          refine va_ti hK.1.1 hK.1.2.1 hT hS (vp_in_nI (show i + 4 < n9 by omega) (by omega)) (v := .int (sf (i + 4))) (by rw [nI_clamp (by omega)]) dL_law_315 ?_
          refine lv_if_eq (tgt := 323) hK.1.1 hK.1.2.1 dL_law_316 (by decide) (fun _ => ?_) (fun c => absurd c249_1 c)
          refine lv_iconst (v := 0) hK.1.1 hK.1.2.1 dL_law_323 (by decide) ?_
          refine lv_aload_n hK.1.1 hK.1.2.1 dL_law_324 rfl (lv_at hl 2 rfl) ?_
          refine lv_iload hK.1.1 hK.1.2.1 dL_law_325 (lv_at hl 1 rfl) ?_
          refine lv_iconst (v := 5) hK.1.1 hK.1.2.1 dL_law_327 (by decide) ?_
          refine lv_iadd hK.1.1 hK.1.2.1 dL_law_328 ?_
          rw [show nI i + 5 = nI (i + 5) from nI_add i 5]
          refine va_ti hK.1.1 hK.1.2.1 hT hS (vp_in_nI (show i + 5 < n9 by omega) (by omega)) (v := .int (sf (i + 5))) (by rw [nI_clamp (by omega)]) dL_law_329 ?_
          refine lv_if_eq (tgt := 337) hK.1.1 hK.1.2.1 dL_law_330 (by decide) (fun c => absurd c c263_2) (fun _ => ?_)
          refine lv_iconst (v := 1) hK.1.1 hK.1.2.1 dL_law_333 (by decide) ?_
          refine lv_goto (tgt := 338) hK.1.1 hK.1.2.1 dL_law_334 (by decide) ?_
          refine lv_aload_n hK.1.1 hK.1.2.1 dL_law_338 rfl (lv_at hl 2 rfl) ?_
          refine lv_iload hK.1.1 hK.1.2.1 dL_law_339 (lv_at hl 1 rfl) ?_
          refine lv_bipush (v := 6) hK.1.1 hK.1.2.1 dL_law_341 (by decide) ?_
          refine lv_iadd hK.1.1 hK.1.2.1 dL_law_343 ?_
          rw [show nI i + 6 = nI (i + 6) from nI_add i 6]
          refine va_ti hK.1.1 hK.1.2.1 hT hS (vp_in_nI (show i + 6 < n9 by omega) (by omega)) (v := .int (sf (i + 6))) (by rw [nI_clamp (by omega)]) dL_law_344 ?_
          refine lv_if_eq (tgt := 352) hK.1.1 hK.1.2.1 dL_law_345 (by decide) (fun c => absurd c c278_4) (fun _ => ?_)
          refine lv_iconst (v := 1) hK.1.1 hK.1.2.1 dL_law_348 (by decide) ?_
          refine lv_goto (tgt := 353) hK.1.1 hK.1.2.1 dL_law_349 (by decide) ?_
          refine gk_callV0 (n := 6) (As := [.int (sf (i + 1)), .int (sf (i + 2)), .int (sf (i + 3)), .int 0, .int 1, .int 1]) (rest := []) hK (c_X5_setOld l hR (i := (sf (i + 1))) (kp := (sf (i + 2))) (gr := (sf (i + 3))) (b1 := 0) (b2 := 1) (b3 := 1) (Or.inl rfl) (Or.inr rfl) (Or.inr rfl)) (gk_gV q_7_6 q_7_7 q_7_8 q_1_5 q_7_9) ⟨rfl, by decide +kernel, by decide +kernel, by decide +kernel⟩ ⟨(Nat.le_of_ble_eq_true rfl), (Nat.le_of_ble_eq_true rfl)⟩ hP hS (gk_recv hK.2.2.1.1 hP hR.2.2.2.2.2.2.2.2.1 rfl) rfl hl.1 rfl (Nat.le_of_ble_eq_true rfl) dL_law_353 ⟨(by show (cells + 16) + 0 ≤ 601024; omega), (by show (slots + 128) + 0 ≤ 7293034; omega)⟩ (fun v G1 H locs hw hP hS => ?_)
          obtain ⟨rfl, hw⟩ := hw
          rcases hw with ⟨r2, hr2, e2, hok2, hR⟩ | ⟨ho2, hR⟩ | ⟨hno2, hnk2, hR⟩
          · exact False.elim (absurd (e2 ▸ ho) (rg_out_no hr2 (by decide)))
          · refine W.eq (g2 := F0 m 356 ls []) rfl ?_
            refine lv_aload_n hK.1.1 hK.1.2.1 dL_law_356 rfl (lv_at hl 4 rfl) ?_
            refine gk_callV0 (n := 0) (As := []) (rest := []) hK (c_X5_thrown l hR) (gk_gV q_6_14 q_6_15 q_6_16 q_1_5 q_6_17) ⟨rfl, by decide +kernel, by decide +kernel, by decide +kernel⟩ ⟨(Nat.le_of_ble_eq_true rfl), (Nat.le_of_ble_eq_true rfl)⟩ hP hS (gk_recv hK.2.2.1.1 hP hR.2.2.2.2.2.2.2.2.1 rfl) rfl hl.1 rfl (Nat.le_of_ble_eq_true rfl) dL_law_357 ⟨(by show ((cells + 16) + 0) + 0 ≤ 601024; omega), (by show ((slots + 128) + 0) + 0 ≤ 7293034; omega)⟩ (fun v G1 H locs hw hP hS => ?_)
            obtain ⟨rfl, hG9⟩ := hw
            rw [hG9] at hP
            refine W.eq (g2 := F0 m 360 ls [.int 1]) rfl ?_
            refine lv_iload hK.1.1 hK.1.2.1 dL_law_360 (lv_at hl 0 rfl) ?_
            refine lv_icmp_eq (tgt := 367) hK.1.1 hK.1.2.1 dL_law_362 (by decide) (fun _ => ?_) (fun c => absurd (by decide) c)
            refine lv_goto (tgt := 1428) hK.1.1 hK.1.2.1 dL_law_367 (by decide) ?_
            exact W.widen (show (((cells + 16) + 0) + 0) ≤ cells + 100 by omega) (show (((slots + 128) + 0) + 0) ≤ slots + 8000 by omega) (kk ls _ _ _ _ _ _ _ _ _ _ _ _ _ _ _ _ _ _ _ _ _ _ hP hS hR (xI_mono hI) (lv_sub hl [1, 2, 3, 4, 5] rfl))
          · exact False.elim (hno2 ho)
        · refine W.eq (g2 := F0 m 289 ls [.int 2]) rfl ?_
          refine lv_istore (lv' := [(5, .int 2), (4, .int (nI i)), (0, .ref sc), (1, .ref (ly_a y 0)), (2, .ref (ly_a y 5)), (3, .ref (ly_a y 4))]) hK.1.1 hK.1.2.1 dL_law_289 hl (by decide) rfl (fun ls hl => ?_)
          refine lv_aload_n hK.1.1 hK.1.2.1 dL_law_291 rfl (lv_at hl 4 rfl) ?_
          refine lv_aload_n hK.1.1 hK.1.2.1 dL_law_292 rfl (lv_at hl 2 rfl) ?_
          refine lv_iload hK.1.1 hK.1.2.1 dL_law_293 (lv_at hl 1 rfl) ?_
          refine lv_iconst (v := 1) hK.1.1 hK.1.2.1 dL_law_295 (by decide) ?_
          refine lv_iadd hK.1.1 hK.1.2.1 dL_law_296 ?_
          rw [show nI i + 1 = nI (i + 1) from nI_add i 1]
          refine va_ti hK.1.1 hK.1.2.1 hT hS (vp_in_nI (show i + 1 < n9 by omega) (by omega)) (v := .int (sf (i + 1))) (by rw [nI_clamp (by omega)]) dL_law_297 ?_
          refine lv_aload_n hK.1.1 hK.1.2.1 dL_law_298 rfl (lv_at hl 2 rfl) ?_
          refine lv_iload hK.1.1 hK.1.2.1 dL_law_299 (lv_at hl 1 rfl) ?_
          refine lv_iconst (v := 2) hK.1.1 hK.1.2.1 dL_law_301 (by decide) ?_
          refine lv_iadd hK.1.1 hK.1.2.1 dL_law_302 ?_
          rw [show nI i + 2 = nI (i + 2) from nI_add i 2]
          refine va_ti hK.1.1 hK.1.2.1 hT hS (vp_in_nI (show i + 2 < n9 by omega) (by omega)) (v := .int (sf (i + 2))) (by rw [nI_clamp (by omega)]) dL_law_303 ?_
          refine lv_aload_n hK.1.1 hK.1.2.1 dL_law_304 rfl (lv_at hl 2 rfl) ?_
          refine lv_iload hK.1.1 hK.1.2.1 dL_law_305 (lv_at hl 1 rfl) ?_
          refine lv_iconst (v := 3) hK.1.1 hK.1.2.1 dL_law_307 (by decide) ?_
          refine lv_iadd hK.1.1 hK.1.2.1 dL_law_308 ?_
          rw [show nI i + 3 = nI (i + 3) from nI_add i 3]
          refine va_ti hK.1.1 hK.1.2.1 hT hS (vp_in_nI (show i + 3 < n9 by omega) (by omega)) (v := .int (sf (i + 3))) (by rw [nI_clamp (by omega)]) dL_law_309 ?_
          refine lv_aload_n hK.1.1 hK.1.2.1 dL_law_310 rfl (lv_at hl 2 rfl) ?_
          refine lv_iload hK.1.1 hK.1.2.1 dL_law_311 (lv_at hl 1 rfl) ?_
          refine lv_iconst (v := 4) hK.1.1 hK.1.2.1 dL_law_313 (by decide) ?_
          refine lv_iadd hK.1.1 hK.1.2.1 dL_law_314 ?_
          rw [show nI i + 4 = nI (i + 4) from nI_add i 4]
          refine va_ti hK.1.1 hK.1.2.1 hT hS (vp_in_nI (show i + 4 < n9 by omega) (by omega)) (v := .int (sf (i + 4))) (by rw [nI_clamp (by omega)]) dL_law_315 ?_
          refine lv_if_eq (tgt := 323) hK.1.1 hK.1.2.1 dL_law_316 (by decide) (fun _ => ?_) (fun c => absurd c249_1 c)
          refine lv_iconst (v := 0) hK.1.1 hK.1.2.1 dL_law_323 (by decide) ?_
          refine lv_aload_n hK.1.1 hK.1.2.1 dL_law_324 rfl (lv_at hl 2 rfl) ?_
          refine lv_iload hK.1.1 hK.1.2.1 dL_law_325 (lv_at hl 1 rfl) ?_
          refine lv_iconst (v := 5) hK.1.1 hK.1.2.1 dL_law_327 (by decide) ?_
          refine lv_iadd hK.1.1 hK.1.2.1 dL_law_328 ?_
          rw [show nI i + 5 = nI (i + 5) from nI_add i 5]
          refine va_ti hK.1.1 hK.1.2.1 hT hS (vp_in_nI (show i + 5 < n9 by omega) (by omega)) (v := .int (sf (i + 5))) (by rw [nI_clamp (by omega)]) dL_law_329 ?_
          refine lv_if_eq (tgt := 337) hK.1.1 hK.1.2.1 dL_law_330 (by decide) (fun c => absurd c c263_2) (fun _ => ?_)
          refine lv_iconst (v := 1) hK.1.1 hK.1.2.1 dL_law_333 (by decide) ?_
          refine lv_goto (tgt := 338) hK.1.1 hK.1.2.1 dL_law_334 (by decide) ?_
          refine lv_aload_n hK.1.1 hK.1.2.1 dL_law_338 rfl (lv_at hl 2 rfl) ?_
          refine lv_iload hK.1.1 hK.1.2.1 dL_law_339 (lv_at hl 1 rfl) ?_
          refine lv_bipush (v := 6) hK.1.1 hK.1.2.1 dL_law_341 (by decide) ?_
          refine lv_iadd hK.1.1 hK.1.2.1 dL_law_343 ?_
          rw [show nI i + 6 = nI (i + 6) from nI_add i 6]
          refine va_ti hK.1.1 hK.1.2.1 hT hS (vp_in_nI (show i + 6 < n9 by omega) (by omega)) (v := .int (sf (i + 6))) (by rw [nI_clamp (by omega)]) dL_law_344 ?_
          refine lv_if_eq (tgt := 352) hK.1.1 hK.1.2.1 dL_law_345 (by decide) (fun c => absurd c c278_4) (fun _ => ?_)
          refine lv_iconst (v := 1) hK.1.1 hK.1.2.1 dL_law_348 (by decide) ?_
          refine lv_goto (tgt := 353) hK.1.1 hK.1.2.1 dL_law_349 (by decide) ?_
          refine gk_callV0 (n := 6) (As := [.int (sf (i + 1)), .int (sf (i + 2)), .int (sf (i + 3)), .int 0, .int 1, .int 1]) (rest := []) hK (c_X5_setOld l hR (i := (sf (i + 1))) (kp := (sf (i + 2))) (gr := (sf (i + 3))) (b1 := 0) (b2 := 1) (b3 := 1) (Or.inl rfl) (Or.inr rfl) (Or.inr rfl)) (gk_gV q_7_6 q_7_7 q_7_8 q_1_5 q_7_9) ⟨rfl, by decide +kernel, by decide +kernel, by decide +kernel⟩ ⟨(Nat.le_of_ble_eq_true rfl), (Nat.le_of_ble_eq_true rfl)⟩ hP hS (gk_recv hK.2.2.1.1 hP hR.2.2.2.2.2.2.2.2.1 rfl) rfl hl.1 rfl (Nat.le_of_ble_eq_true rfl) dL_law_353 ⟨(by show (cells + 16) + 0 ≤ 601024; omega), (by show (slots + 128) + 0 ≤ 7293034; omega)⟩ (fun v G1 H locs hw hP hS => ?_)
          obtain ⟨rfl, hw⟩ := hw
          rcases hw with ⟨r2, hr2, e2, hok2, hR⟩ | ⟨ho2, hR⟩ | ⟨hno2, hnk2, hR⟩
          · exact False.elim (hnk hok2)
          · exact False.elim (hno ho2)
          · refine W.eq (g2 := F0 m 356 ls []) rfl ?_
            refine lv_aload_n hK.1.1 hK.1.2.1 dL_law_356 rfl (lv_at hl 4 rfl) ?_
            refine gk_callV0 (n := 0) (As := []) (rest := []) hK (c_X5_thrown l hR) (gk_gV q_6_14 q_6_15 q_6_16 q_1_5 q_6_17) ⟨rfl, by decide +kernel, by decide +kernel, by decide +kernel⟩ ⟨(Nat.le_of_ble_eq_true rfl), (Nat.le_of_ble_eq_true rfl)⟩ hP hS (gk_recv hK.2.2.1.1 hP hR.2.2.2.2.2.2.2.2.1 rfl) rfl hl.1 rfl (Nat.le_of_ble_eq_true rfl) dL_law_357 ⟨(by show ((cells + 16) + 0) + 0 ≤ 601024; omega), (by show ((slots + 128) + 0) + 0 ≤ 7293034; omega)⟩ (fun v G1 H locs hw hP hS => ?_)
            obtain ⟨rfl, hG9⟩ := hw
            rw [hG9] at hP
            refine W.eq (g2 := F0 m 360 ls [.int 2]) rfl ?_
            refine lv_iload hK.1.1 hK.1.2.1 dL_law_360 (lv_at hl 0 rfl) ?_
            refine lv_icmp_eq (tgt := 367) hK.1.1 hK.1.2.1 dL_law_362 (by decide) (fun _ => ?_) (fun c => absurd (by decide) c)
            refine lv_goto (tgt := 1428) hK.1.1 hK.1.2.1 dL_law_367 (by decide) ?_
            exact W.widen (show (((cells + 16) + 0) + 0) ≤ cells + 100 by omega) (show (((slots + 128) + 0) + 0) ≤ slots + 8000 by omega) (kk ls _ _ _ _ _ _ _ _ _ _ _ _ _ _ _ _ _ _ _ _ _ _ hP hS hR (xI_mono hI) (lv_sub hl [1, 2, 3, 4, 5] rfl))
  · refine lv_iconst (v := 1) hK.1.1 hK.1.2.1 dL_law_252 (by decide) ?_
    refine lv_goto (tgt := 257) hK.1.1 hK.1.2.1 dL_law_253 (by decide) ?_
    refine lv_aload_n hK.1.1 hK.1.2.1 dL_law_257 rfl (lv_at hl 1 rfl) ?_
    refine lv_iload hK.1.1 hK.1.2.1 dL_law_258 (lv_at hl 0 rfl) ?_
    refine lv_iconst (v := 5) hK.1.1 hK.1.2.1 dL_law_260 (by decide) ?_
    refine lv_iadd hK.1.1 hK.1.2.1 dL_law_261 ?_
    rw [show nI i + 5 = nI (i + 5) from nI_add i 5]
    refine va_ti hK.1.1 hK.1.2.1 hT hS (vp_in_nI (show i + 5 < n9 by omega) (by omega)) (v := .int (sf (i + 5))) (by rw [nI_clamp (by omega)]) dL_law_262 ?_
    refine lv_if_eq (tgt := 270) hK.1.1 hK.1.2.1 dL_law_263 (by decide) (fun c263_5 => ?_) (fun c263_5 => ?_)
    · refine lv_iconst (v := 0) hK.1.1 hK.1.2.1 dL_law_270 (by decide) ?_
      refine lv_aload_n hK.1.1 hK.1.2.1 dL_law_271 rfl (lv_at hl 1 rfl) ?_
      refine lv_iload hK.1.1 hK.1.2.1 dL_law_272 (lv_at hl 0 rfl) ?_
      refine lv_bipush (v := 6) hK.1.1 hK.1.2.1 dL_law_274 (by decide) ?_
      refine lv_iadd hK.1.1 hK.1.2.1 dL_law_276 ?_
      rw [show nI i + 6 = nI (i + 6) from nI_add i 6]
      refine va_ti hK.1.1 hK.1.2.1 hT hS (vp_in_nI (show i + 6 < n9 by omega) (by omega)) (v := .int (sf (i + 6))) (by rw [nI_clamp (by omega)]) dL_law_277 ?_
      refine lv_if_eq (tgt := 285) hK.1.1 hK.1.2.1 dL_law_278 (by decide) (fun c278_6 => ?_) (fun c278_6 => ?_)
      · refine lv_iconst (v := 0) hK.1.1 hK.1.2.1 dL_law_285 (by decide) ?_
        refine gk_callSW (n := 7) (As := [.ref (ly_a y 0), .int (sf (i + 1)), .int (sf (i + 2)), .int (sf (i + 3)), .int 1, .int 0, .int 0]) (rest := []) hK (c_L_setOld l hfl hR (i := (sf (i + 1))) (kp := (sf (i + 2))) (gr := (sf (i + 3))) (b1 := 1) (b2 := 0) (b3 := 0) (Or.inr rfl) (Or.inl rfl) (Or.inl rfl)) (gk_gS q_6_18 q_6_19 q_5_0 q_6_20) ⟨by decide +kernel, by decide +kernel, by decide +kernel⟩ ⟨(Nat.le_of_ble_eq_true rfl), (Nat.le_of_ble_eq_true rfl)⟩ hP hS rfl hl.1 rfl (Nat.le_of_ble_eq_true rfl) dL_law_286 ⟨(by show cells + 16 ≤ 601024; omega), (by show slots + 128 ≤ 7293034; omega)⟩ (fun v G1 H locs hw hP hS => ?_)
        rcases hw with ⟨r, hr, e1, hok, rfl, hR⟩ | ⟨ho, rfl, hR⟩ | ⟨⟨hno, hnk⟩, rfl, hR⟩
        · refine W.eq (g2 := F0 m 289 ls [.int 0]) rfl ?_
          refine lv_istore (lv' := [(5, .int 0), (4, .int (nI i)), (0, .ref sc), (1, .ref (ly_a y 0)), (2, .ref (ly_a y 5)), (3, .ref (ly_a y 4))]) hK.1.1 hK.1.2.1 dL_law_289 hl (by decide) rfl (fun ls hl => ?_)
          refine lv_aload_n hK.1.1 hK.1.2.1 dL_law_291 rfl (lv_at hl 4 rfl) ?_
          refine lv_aload_n hK.1.1 hK.1.2.1 dL_law_292 rfl (lv_at hl 2 rfl) ?_
          refine lv_iload hK.1.1 hK.1.2.1 dL_law_293 (lv_at hl 1 rfl) ?_
          refine lv_iconst (v := 1) hK.1.1 hK.1.2.1 dL_law_295 (by decide) ?_
          refine lv_iadd hK.1.1 hK.1.2.1 dL_law_296 ?_
          rw [show nI i + 1 = nI (i + 1) from nI_add i 1]
          refine va_ti hK.1.1 hK.1.2.1 hT hS (vp_in_nI (show i + 1 < n9 by omega) (by omega)) (v := .int (sf (i + 1))) (by rw [nI_clamp (by omega)]) dL_law_297 ?_
          refine lv_aload_n hK.1.1 hK.1.2.1 dL_law_298 rfl (lv_at hl 2 rfl) ?_
          refine lv_iload hK.1.1 hK.1.2.1 dL_law_299 (lv_at hl 1 rfl) ?_
          refine lv_iconst (v := 2) hK.1.1 hK.1.2.1 dL_law_301 (by decide) ?_
          refine lv_iadd hK.1.1 hK.1.2.1 dL_law_302 ?_
          rw [show nI i + 2 = nI (i + 2) from nI_add i 2]
          refine va_ti hK.1.1 hK.1.2.1 hT hS (vp_in_nI (show i + 2 < n9 by omega) (by omega)) (v := .int (sf (i + 2))) (by rw [nI_clamp (by omega)]) dL_law_303 ?_
          refine lv_aload_n hK.1.1 hK.1.2.1 dL_law_304 rfl (lv_at hl 2 rfl) ?_
          refine lv_iload hK.1.1 hK.1.2.1 dL_law_305 (lv_at hl 1 rfl) ?_
          refine lv_iconst (v := 3) hK.1.1 hK.1.2.1 dL_law_307 (by decide) ?_
          refine lv_iadd hK.1.1 hK.1.2.1 dL_law_308 ?_
          rw [show nI i + 3 = nI (i + 3) from nI_add i 3]
          refine va_ti hK.1.1 hK.1.2.1 hT hS (vp_in_nI (show i + 3 < n9 by omega) (by omega)) (v := .int (sf (i + 3))) (by rw [nI_clamp (by omega)]) dL_law_309 ?_
          refine lv_aload_n hK.1.1 hK.1.2.1 dL_law_310 rfl (lv_at hl 2 rfl) ?_
          refine lv_iload hK.1.1 hK.1.2.1 dL_law_311 (lv_at hl 1 rfl) ?_
          refine lv_iconst (v := 4) hK.1.1 hK.1.2.1 dL_law_313 (by decide) ?_
          refine lv_iadd hK.1.1 hK.1.2.1 dL_law_314 ?_
          rw [show nI i + 4 = nI (i + 4) from nI_add i 4]
          refine va_ti hK.1.1 hK.1.2.1 hT hS (vp_in_nI (show i + 4 < n9 by omega) (by omega)) (v := .int (sf (i + 4))) (by rw [nI_clamp (by omega)]) dL_law_315 ?_
          refine lv_if_eq (tgt := 323) hK.1.1 hK.1.2.1 dL_law_316 (by decide) (fun c => absurd c c249_1) (fun _ => ?_)
          refine lv_iconst (v := 1) hK.1.1 hK.1.2.1 dL_law_319 (by decide) ?_
          refine lv_goto (tgt := 324) hK.1.1 hK.1.2.1 dL_law_320 (by decide) ?_
          refine lv_aload_n hK.1.1 hK.1.2.1 dL_law_324 rfl (lv_at hl 2 rfl) ?_
          refine lv_iload hK.1.1 hK.1.2.1 dL_law_325 (lv_at hl 1 rfl) ?_
          refine lv_iconst (v := 5) hK.1.1 hK.1.2.1 dL_law_327 (by decide) ?_
          refine lv_iadd hK.1.1 hK.1.2.1 dL_law_328 ?_
          rw [show nI i + 5 = nI (i + 5) from nI_add i 5]
          refine va_ti hK.1.1 hK.1.2.1 hT hS (vp_in_nI (show i + 5 < n9 by omega) (by omega)) (v := .int (sf (i + 5))) (by rw [nI_clamp (by omega)]) dL_law_329 ?_
          refine lv_if_eq (tgt := 337) hK.1.1 hK.1.2.1 dL_law_330 (by decide) (fun _ => ?_) (fun c => absurd c263_5 c)
          refine lv_iconst (v := 0) hK.1.1 hK.1.2.1 dL_law_337 (by decide) ?_
          refine lv_aload_n hK.1.1 hK.1.2.1 dL_law_338 rfl (lv_at hl 2 rfl) ?_
          refine lv_iload hK.1.1 hK.1.2.1 dL_law_339 (lv_at hl 1 rfl) ?_
          refine lv_bipush (v := 6) hK.1.1 hK.1.2.1 dL_law_341 (by decide) ?_
          refine lv_iadd hK.1.1 hK.1.2.1 dL_law_343 ?_
          rw [show nI i + 6 = nI (i + 6) from nI_add i 6]
          refine va_ti hK.1.1 hK.1.2.1 hT hS (vp_in_nI (show i + 6 < n9 by omega) (by omega)) (v := .int (sf (i + 6))) (by rw [nI_clamp (by omega)]) dL_law_344 ?_
          refine lv_if_eq (tgt := 352) hK.1.1 hK.1.2.1 dL_law_345 (by decide) (fun _ => ?_) (fun c => absurd c278_6 c)
          refine lv_iconst (v := 0) hK.1.1 hK.1.2.1 dL_law_352 (by decide) ?_
          refine gk_callV0 (n := 6) (As := [.int (sf (i + 1)), .int (sf (i + 2)), .int (sf (i + 3)), .int 1, .int 0, .int 0]) (rest := []) hK (c_X5_setOld l hR (i := (sf (i + 1))) (kp := (sf (i + 2))) (gr := (sf (i + 3))) (b1 := 1) (b2 := 0) (b3 := 0) (Or.inr rfl) (Or.inl rfl) (Or.inl rfl)) (gk_gV q_7_6 q_7_7 q_7_8 q_1_5 q_7_9) ⟨rfl, by decide +kernel, by decide +kernel, by decide +kernel⟩ ⟨(Nat.le_of_ble_eq_true rfl), (Nat.le_of_ble_eq_true rfl)⟩ hP hS (gk_recv hK.2.2.1.1 hP hR.2.2.2.2.2.2.2.2.1 rfl) rfl hl.1 rfl (Nat.le_of_ble_eq_true rfl) dL_law_353 ⟨(by show (cells + 16) + 0 ≤ 601024; omega), (by show (slots + 128) + 0 ≤ 7293034; omega)⟩ (fun v G1 H locs hw hP hS => ?_)
          obtain ⟨rfl, hw⟩ := hw
          rcases hw with ⟨r2, hr2, e2, hok2, hR⟩ | ⟨ho2, hR⟩ | ⟨hno2, hnk2, hR⟩
          · obtain rfl : r = r2 := (nI_eq (by omega) (by omega)).mp (e1.symm.trans e2)
            refine W.eq (g2 := F0 m 356 ls []) rfl ?_
            refine lv_aload_n hK.1.1 hK.1.2.1 dL_law_356 rfl (lv_at hl 4 rfl) ?_
            refine gk_callV0 (n := 0) (As := []) (rest := []) hK (c_X5_thrown l hR) (gk_gV q_6_14 q_6_15 q_6_16 q_1_5 q_6_17) ⟨rfl, by decide +kernel, by decide +kernel, by decide +kernel⟩ ⟨(Nat.le_of_ble_eq_true rfl), (Nat.le_of_ble_eq_true rfl)⟩ hP hS (gk_recv hK.2.2.1.1 hP hR.2.2.2.2.2.2.2.2.1 rfl) rfl hl.1 rfl (Nat.le_of_ble_eq_true rfl) dL_law_357 ⟨(by show ((cells + 16) + 0) + 0 ≤ 601024; omega), (by show ((slots + 128) + 0) + 0 ≤ 7293034; omega)⟩ (fun v G1 H locs hw hP hS => ?_)
            obtain ⟨rfl, hG9⟩ := hw
            rw [hG9] at hP
            refine W.eq (g2 := F0 m 360 ls [.int 0]) rfl ?_
            refine lv_iload hK.1.1 hK.1.2.1 dL_law_360 (lv_at hl 0 rfl) ?_
            refine lv_icmp_eq (tgt := 367) hK.1.1 hK.1.2.1 dL_law_362 (by decide) (fun _ => ?_) (fun c => absurd (by decide) c)
            refine lv_goto (tgt := 1428) hK.1.1 hK.1.2.1 dL_law_367 (by decide) ?_
            exact W.widen (show (((cells + 16) + 0) + 0) ≤ cells + 100 by omega) (show (((slots + 128) + 0) + 0) ≤ slots + 8000 by omega) (kk ls _ _ _ _ _ _ _ _ _ _ _ _ _ _ _ _ _ _ _ _ _ _ hP hS hR (xI_setOld hI hr hok (Or.inr rfl) (Or.inl rfl) (Or.inl rfl)) (lv_sub hl [1, 2, 3, 4, 5] rfl))
          · exact False.elim (absurd (e1 ▸ ho2) (rg_out_no hr (by decide)))
          · exact False.elim (hnk2 hok)
        · refine W.eq (g2 := F0 m 289 ls [.int 1]) rfl ?_
          refine lv_istore (lv' := [(5, .int 1), (4, .int (nI i)), (0, .ref sc), (1, .ref (ly_a y 0)), (2, .ref (ly_a y 5)), (3, .ref (ly_a y 4))]) hK.1.1 hK.1.2.1 dL_law_289 hl (by decide) rfl (fun ls hl => ?_)
          refine lv_aload_n hK.1.1 hK.1.2.1 dL_law_291 rfl (lv_at hl 4 rfl) ?_
          refine lv_aload_n hK.1.1 hK.1.2.1 dL_law_292 rfl (lv_at hl 2 rfl) ?_
          refine lv_iload hK.1.1 hK.1.2.1 dL_law_293 (lv_at hl 1 rfl) ?_
          refine lv_iconst (v := 1) hK.1.1 hK.1.2.1 dL_law_295 (by decide) ?_
          refine lv_iadd hK.1.1 hK.1.2.1 dL_law_296 ?_
          rw [show nI i + 1 = nI (i + 1) from nI_add i 1]
          refine va_ti hK.1.1 hK.1.2.1 hT hS (vp_in_nI (show i + 1 < n9 by omega) (by omega)) (v := .int (sf (i + 1))) (by rw [nI_clamp (by omega)]) dL_law_297 ?_
          refine lv_aload_n hK.1.1 hK.1.2.1 dL_law_298 rfl (lv_at hl 2 rfl) ?_
          refine lv_iload hK.1.1 hK.1.2.1 dL_law_299 (lv_at hl 1 rfl) ?_
          refine lv_iconst (v := 2) hK.1.1 hK.1.2.1 dL_law_301 (by decide) ?_
          refine lv_iadd hK.1.1 hK.1.2.1 dL_law_302 ?_
          rw [show nI i + 2 = nI (i + 2) from nI_add i 2]
          refine va_ti hK.1.1 hK.1.2.1 hT hS (vp_in_nI (show i + 2 < n9 by omega) (by omega)) (v := .int (sf (i + 2))) (by rw [nI_clamp (by omega)]) dL_law_303 ?_
          refine lv_aload_n hK.1.1 hK.1.2.1 dL_law_304 rfl (lv_at hl 2 rfl) ?_
          refine lv_iload hK.1.1 hK.1.2.1 dL_law_305 (lv_at hl 1 rfl) ?_
          refine lv_iconst (v := 3) hK.1.1 hK.1.2.1 dL_law_307 (by decide) ?_
          refine lv_iadd hK.1.1 hK.1.2.1 dL_law_308 ?_
          rw [show nI i + 3 = nI (i + 3) from nI_add i 3]
          refine va_ti hK.1.1 hK.1.2.1 hT hS (vp_in_nI (show i + 3 < n9 by omega) (by omega)) (v := .int (sf (i + 3))) (by rw [nI_clamp (by omega)]) dL_law_309 ?_
          refine lv_aload_n hK.1.1 hK.1.2.1 dL_law_310 rfl (lv_at hl 2 rfl) ?_
          refine lv_iload hK.1.1 hK.1.2.1 dL_law_311 (lv_at hl 1 rfl) ?_
          refine lv_iconst (v := 4) hK.1.1 hK.1.2.1 dL_law_313 (by decide) ?_
          refine lv_iadd hK.1.1 hK.1.2.1 dL_law_314 ?_
          rw [show nI i + 4 = nI (i + 4) from nI_add i 4]
          refine va_ti hK.1.1 hK.1.2.1 hT hS (vp_in_nI (show i + 4 < n9 by omega) (by omega)) (v := .int (sf (i + 4))) (by rw [nI_clamp (by omega)]) dL_law_315 ?_
          refine lv_if_eq (tgt := 323) hK.1.1 hK.1.2.1 dL_law_316 (by decide) (fun c => absurd c c249_1) (fun _ => ?_)
          refine lv_iconst (v := 1) hK.1.1 hK.1.2.1 dL_law_319 (by decide) ?_
          refine lv_goto (tgt := 324) hK.1.1 hK.1.2.1 dL_law_320 (by decide) ?_
          refine lv_aload_n hK.1.1 hK.1.2.1 dL_law_324 rfl (lv_at hl 2 rfl) ?_
          refine lv_iload hK.1.1 hK.1.2.1 dL_law_325 (lv_at hl 1 rfl) ?_
          refine lv_iconst (v := 5) hK.1.1 hK.1.2.1 dL_law_327 (by decide) ?_
          refine lv_iadd hK.1.1 hK.1.2.1 dL_law_328 ?_
          rw [show nI i + 5 = nI (i + 5) from nI_add i 5]
          refine va_ti hK.1.1 hK.1.2.1 hT hS (vp_in_nI (show i + 5 < n9 by omega) (by omega)) (v := .int (sf (i + 5))) (by rw [nI_clamp (by omega)]) dL_law_329 ?_
          refine lv_if_eq (tgt := 337) hK.1.1 hK.1.2.1 dL_law_330 (by decide) (fun _ => ?_) (fun c => absurd c263_5 c)
          refine lv_iconst (v := 0) hK.1.1 hK.1.2.1 dL_law_337 (by decide) ?_
          refine lv_aload_n hK.1.1 hK.1.2.1 dL_law_338 rfl (lv_at hl 2 rfl) ?_
          refine lv_iload hK.1.1 hK.1.2.1 dL_law_339 (lv_at hl 1 rfl) ?_
          refine lv_bipush (v := 6) hK.1.1 hK.1.2.1 dL_law_341 (by decide) ?_
          refine lv_iadd hK.1.1 hK.1.2.1 dL_law_343 ?_
          rw [show nI i + 6 = nI (i + 6) from nI_add i 6]
          refine va_ti hK.1.1 hK.1.2.1 hT hS (vp_in_nI (show i + 6 < n9 by omega) (by omega)) (v := .int (sf (i + 6))) (by rw [nI_clamp (by omega)]) dL_law_344 ?_
          refine lv_if_eq (tgt := 352) hK.1.1 hK.1.2.1 dL_law_345 (by decide) (fun _ => ?_) (fun c => absurd c278_6 c)
          refine lv_iconst (v := 0) hK.1.1 hK.1.2.1 dL_law_352 (by decide) ?_
          refine gk_callV0 (n := 6) (As := [.int (sf (i + 1)), .int (sf (i + 2)), .int (sf (i + 3)), .int 1, .int 0, .int 0]) (rest := []) hK (c_X5_setOld l hR (i := (sf (i + 1))) (kp := (sf (i + 2))) (gr := (sf (i + 3))) (b1 := 1) (b2 := 0) (b3 := 0) (Or.inr rfl) (Or.inl rfl) (Or.inl rfl)) (gk_gV q_7_6 q_7_7 q_7_8 q_1_5 q_7_9) ⟨rfl, by decide +kernel, by decide +kernel, by decide +kernel⟩ ⟨(Nat.le_of_ble_eq_true rfl), (Nat.le_of_ble_eq_true rfl)⟩ hP hS (gk_recv hK.2.2.1.1 hP hR.2.2.2.2.2.2.2.2.1 rfl) rfl hl.1 rfl (Nat.le_of_ble_eq_true rfl) dL_law_353 ⟨(by show (cells + 16) + 0 ≤ 601024; omega), (by show (slots + 128) + 0 ≤ 7293034; omega)⟩ (fun v G1 H locs hw hP hS => ?_)
          obtain ⟨rfl, hw⟩ := hw
          rcases hw with ⟨r2, hr2, e2, hok2, hR⟩ | ⟨ho2, hR⟩ | ⟨hno2, hnk2, hR⟩
          · exact False.elim (absurd (e2 ▸ ho) (rg_out_no hr2 (by decide)))
          · refine W.eq (g2 := F0 m 356 ls []) rfl ?_
            refine lv_aload_n hK.1.1 hK.1.2.1 dL_law_356 rfl (lv_at hl 4 rfl) ?_
            refine gk_callV0 (n := 0) (As := []) (rest := []) hK (c_X5_thrown l hR) (gk_gV q_6_14 q_6_15 q_6_16 q_1_5 q_6_17) ⟨rfl, by decide +kernel, by decide +kernel, by decide +kernel⟩ ⟨(Nat.le_of_ble_eq_true rfl), (Nat.le_of_ble_eq_true rfl)⟩ hP hS (gk_recv hK.2.2.1.1 hP hR.2.2.2.2.2.2.2.2.1 rfl) rfl hl.1 rfl (Nat.le_of_ble_eq_true rfl) dL_law_357 ⟨(by show ((cells + 16) + 0) + 0 ≤ 601024; omega), (by show ((slots + 128) + 0) + 0 ≤ 7293034; omega)⟩ (fun v G1 H locs hw hP hS => ?_)
            obtain ⟨rfl, hG9⟩ := hw
            rw [hG9] at hP
            refine W.eq (g2 := F0 m 360 ls [.int 1]) rfl ?_
            refine lv_iload hK.1.1 hK.1.2.1 dL_law_360 (lv_at hl 0 rfl) ?_
            refine lv_icmp_eq (tgt := 367) hK.1.1 hK.1.2.1 dL_law_362 (by decide) (fun _ => ?_) (fun c => absurd (by decide) c)
            refine lv_goto (tgt := 1428) hK.1.1 hK.1.2.1 dL_law_367 (by decide) ?_
            exact W.widen (show (((cells + 16) + 0) + 0) ≤ cells + 100 by omega) (show (((slots + 128) + 0) + 0) ≤ slots + 8000 by omega) (kk ls _ _ _ _ _ _ _ _ _ _ _ _ _ _ _ _ _ _ _ _ _ _ hP hS hR (xI_mono hI) (lv_sub hl [1, 2, 3, 4, 5] rfl))
          · exact False.elim (hno2 ho)
        · refine W.eq (g2 := F0 m 289 ls [.int 2]) rfl ?_
          refine lv_istore (lv' := [(5, .int 2), (4, .int (nI i)), (0, .ref sc), (1, .ref (ly_a y 0)), (2, .ref (ly_a y 5)), (3, .ref (ly_a y 4))]) hK.1.1 hK.1.2.1 dL_law_289 hl (by decide) rfl (fun ls hl => ?_)
          refine lv_aload_n hK.1.1 hK.1.2.1 dL_law_291 rfl (lv_at hl 4 rfl) ?_
          refine lv_aload_n hK.1.1 hK.1.2.1 dL_law_292 rfl (lv_at hl 2 rfl) ?_
          refine lv_iload hK.1.1 hK.1.2.1 dL_law_293 (lv_at hl 1 rfl) ?_
          refine lv_iconst (v := 1) hK.1.1 hK.1.2.1 dL_law_295 (by decide) ?_
          refine lv_iadd hK.1.1 hK.1.2.1 dL_law_296 ?_
          rw [show nI i + 1 = nI (i + 1) from nI_add i 1]
          refine va_ti hK.1.1 hK.1.2.1 hT hS (vp_in_nI (show i + 1 < n9 by omega) (by omega)) (v := .int (sf (i + 1))) (by rw [nI_clamp (by omega)]) dL_law_297 ?_
          refine lv_aload_n hK.1.1 hK.1.2.1 dL_law_298 rfl (lv_at hl 2 rfl) ?_
          refine lv_iload hK.1.1 hK.1.2.1 dL_law_299 (lv_at hl 1 rfl) ?_
          refine lv_iconst (v := 2) hK.1.1 hK.1.2.1 dL_law_301 (by decide) ?_
          refine lv_iadd hK.1.1 hK.1.2.1 dL_law_302 ?_
          rw [show nI i + 2 = nI (i + 2) from nI_add i 2]
          refine va_ti hK.1.1 hK.1.2.1 hT hS (vp_in_nI (show i + 2 < n9 by omega) (by omega)) (v := .int (sf (i + 2))) (by rw [nI_clamp (by omega)]) dL_law_303 ?_
          refine lv_aload_n hK.1.1 hK.1.2.1 dL_law_304 rfl (lv_at hl 2 rfl) ?_
          refine lv_iload hK.1.1 hK.1.2.1 dL_law_305 (lv_at hl 1 rfl) ?_
          refine lv_iconst (v := 3) hK.1.1 hK.1.2.1 dL_law_307 (by decide) ?_
          refine lv_iadd hK.1.1 hK.1.2.1 dL_law_308 ?_
          rw [show nI i + 3 = nI (i + 3) from nI_add i 3]
          refine va_ti hK.1.1 hK.1.2.1 hT hS (vp_in_nI (show i + 3 < n9 by omega) (by omega)) (v := .int (sf (i + 3))) (by rw [nI_clamp (by omega)]) dL_law_309 ?_
          refine lv_aload_n hK.1.1 hK.1.2.1 dL_law_310 rfl (lv_at hl 2 rfl) ?_
          refine lv_iload hK.1.1 hK.1.2.1 dL_law_311 (lv_at hl 1 rfl) ?_
          refine lv_iconst (v := 4) hK.1.1 hK.1.2.1 dL_law_313 (by decide) ?_
          refine lv_iadd hK.1.1 hK.1.2.1 dL_law_314 ?_
          rw [show nI i + 4 = nI (i + 4) from nI_add i 4]
          refine va_ti hK.1.1 hK.1.2.1 hT hS (vp_in_nI (show i + 4 < n9 by omega) (by omega)) (v := .int (sf (i + 4))) (by rw [nI_clamp (by omega)]) dL_law_315 ?_
          refine lv_if_eq (tgt := 323) hK.1.1 hK.1.2.1 dL_law_316 (by decide) (fun c => absurd c c249_1) (fun _ => ?_)
          refine lv_iconst (v := 1) hK.1.1 hK.1.2.1 dL_law_319 (by decide) ?_
          refine lv_goto (tgt := 324) hK.1.1 hK.1.2.1 dL_law_320 (by decide) ?_
          refine lv_aload_n hK.1.1 hK.1.2.1 dL_law_324 rfl (lv_at hl 2 rfl) ?_
          refine lv_iload hK.1.1 hK.1.2.1 dL_law_325 (lv_at hl 1 rfl) ?_
          refine lv_iconst (v := 5) hK.1.1 hK.1.2.1 dL_law_327 (by decide) ?_
          refine lv_iadd hK.1.1 hK.1.2.1 dL_law_328 ?_
          rw [show nI i + 5 = nI (i + 5) from nI_add i 5]
          refine va_ti hK.1.1 hK.1.2.1 hT hS (vp_in_nI (show i + 5 < n9 by omega) (by omega)) (v := .int (sf (i + 5))) (by rw [nI_clamp (by omega)]) dL_law_329 ?_
          refine lv_if_eq (tgt := 337) hK.1.1 hK.1.2.1 dL_law_330 (by decide) (fun _ => ?_) (fun c => absurd c263_5 c)
          refine lv_iconst (v := 0) hK.1.1 hK.1.2.1 dL_law_337 (by decide) ?_
          refine lv_aload_n hK.1.1 hK.1.2.1 dL_law_338 rfl (lv_at hl 2 rfl) ?_
          refine lv_iload hK.1.1 hK.1.2.1 dL_law_339 (lv_at hl 1 rfl) ?_
          refine lv_bipush (v := 6) hK.1.1 hK.1.2.1 dL_law_341 (by decide) ?_
          refine lv_iadd hK.1.1 hK.1.2.1 dL_law_343 ?_
          rw [show nI i + 6 = nI (i + 6) from nI_add i 6]
          refine va_ti hK.1.1 hK.1.2.1 hT hS (vp_in_nI (show i + 6 < n9 by omega) (by omega)) (v := .int (sf (i + 6))) (by rw [nI_clamp (by omega)]) dL_law_344 ?_
          refine lv_if_eq (tgt := 352) hK.1.1 hK.1.2.1 dL_law_345 (by decide) (fun _ => ?_) (fun c => absurd c278_6 c)
          refine lv_iconst (v := 0) hK.1.1 hK.1.2.1 dL_law_352 (by decide) ?_
          refine gk_callV0 (n := 6) (As := [.int (sf (i + 1)), .int (sf (i + 2)), .int (sf (i + 3)), .int 1, .int 0, .int 0]) (rest := []) hK (c_X5_setOld l hR (i := (sf (i + 1))) (kp := (sf (i + 2))) (gr := (sf (i + 3))) (b1 := 1) (b2 := 0) (b3 := 0) (Or.inr rfl) (Or.inl rfl) (Or.inl rfl)) (gk_gV q_7_6 q_7_7 q_7_8 q_1_5 q_7_9) ⟨rfl, by decide +kernel, by decide +kernel, by decide +kernel⟩ ⟨(Nat.le_of_ble_eq_true rfl), (Nat.le_of_ble_eq_true rfl)⟩ hP hS (gk_recv hK.2.2.1.1 hP hR.2.2.2.2.2.2.2.2.1 rfl) rfl hl.1 rfl (Nat.le_of_ble_eq_true rfl) dL_law_353 ⟨(by show (cells + 16) + 0 ≤ 601024; omega), (by show (slots + 128) + 0 ≤ 7293034; omega)⟩ (fun v G1 H locs hw hP hS => ?_)
          obtain ⟨rfl, hw⟩ := hw
          rcases hw with ⟨r2, hr2, e2, hok2, hR⟩ | ⟨ho2, hR⟩ | ⟨hno2, hnk2, hR⟩
          · exact False.elim (hnk hok2)
          · exact False.elim (hno ho2)
          · refine W.eq (g2 := F0 m 356 ls []) rfl ?_
            refine lv_aload_n hK.1.1 hK.1.2.1 dL_law_356 rfl (lv_at hl 4 rfl) ?_
            refine gk_callV0 (n := 0) (As := []) (rest := []) hK (c_X5_thrown l hR) (gk_gV q_6_14 q_6_15 q_6_16 q_1_5 q_6_17) ⟨rfl, by decide +kernel, by decide +kernel, by decide +kernel⟩ ⟨(Nat.le_of_ble_eq_true rfl), (Nat.le_of_ble_eq_true rfl)⟩ hP hS (gk_recv hK.2.2.1.1 hP hR.2.2.2.2.2.2.2.2.1 rfl) rfl hl.1 rfl (Nat.le_of_ble_eq_true rfl) dL_law_357 ⟨(by show ((cells + 16) + 0) + 0 ≤ 601024; omega), (by show ((slots + 128) + 0) + 0 ≤ 7293034; omega)⟩ (fun v G1 H locs hw hP hS => ?_)
            obtain ⟨rfl, hG9⟩ := hw
            rw [hG9] at hP
            refine W.eq (g2 := F0 m 360 ls [.int 2]) rfl ?_
            refine lv_iload hK.1.1 hK.1.2.1 dL_law_360 (lv_at hl 0 rfl) ?_
            refine lv_icmp_eq (tgt := 367) hK.1.1 hK.1.2.1 dL_law_362 (by decide) (fun _ => ?_) (fun c => absurd (by decide) c)
            refine lv_goto (tgt := 1428) hK.1.1 hK.1.2.1 dL_law_367 (by decide) ?_
            exact W.widen (show (((cells + 16) + 0) + 0) ≤ cells + 100 by omega) (show (((slots + 128) + 0) + 0) ≤ slots + 8000 by omega) (kk ls _ _ _ _ _ _ _ _ _ _ _ _ _ _ _ _ _ _ _ _ _ _ hP hS hR (xI_mono hI) (lv_sub hl [1, 2, 3, 4, 5] rfl))
      · refine lv_iconst (v := 1) hK.1.1 hK.1.2.1 dL_law_281 (by decide) ?_
        refine lv_goto (tgt := 286) hK.1.1 hK.1.2.1 dL_law_282 (by decide) ?_
        refine gk_callSW (n := 7) (As := [.ref (ly_a y 0), .int (sf (i + 1)), .int (sf (i + 2)), .int (sf (i + 3)), .int 1, .int 0, .int 1]) (rest := []) hK (c_L_setOld l hfl hR (i := (sf (i + 1))) (kp := (sf (i + 2))) (gr := (sf (i + 3))) (b1 := 1) (b2 := 0) (b3 := 1) (Or.inr rfl) (Or.inl rfl) (Or.inr rfl)) (gk_gS q_6_18 q_6_19 q_5_0 q_6_20) ⟨by decide +kernel, by decide +kernel, by decide +kernel⟩ ⟨(Nat.le_of_ble_eq_true rfl), (Nat.le_of_ble_eq_true rfl)⟩ hP hS rfl hl.1 rfl (Nat.le_of_ble_eq_true rfl) dL_law_286 ⟨(by show cells + 16 ≤ 601024; omega), (by show slots + 128 ≤ 7293034; omega)⟩ (fun v G1 H locs hw hP hS => ?_)
        rcases hw with ⟨r, hr, e1, hok, rfl, hR⟩ | ⟨ho, rfl, hR⟩ | ⟨⟨hno, hnk⟩, rfl, hR⟩
        · refine W.eq (g2 := F0 m 289 ls [.int 0]) rfl ?_
          refine lv_istore (lv' := [(5, .int 0), (4, .int (nI i)), (0, .ref sc), (1, .ref (ly_a y 0)), (2, .ref (ly_a y 5)), (3, .ref (ly_a y 4))]) hK.1.1 hK.1.2.1 dL_law_289 hl (by decide) rfl (fun ls hl => ?_)
          refine lv_aload_n hK.1.1 hK.1.2.1 dL_law_291 rfl (lv_at hl 4 rfl) ?_
          refine lv_aload_n hK.1.1 hK.1.2.1 dL_law_292 rfl (lv_at hl 2 rfl) ?_
          refine lv_iload hK.1.1 hK.1.2.1 dL_law_293 (lv_at hl 1 rfl) ?_
          refine lv_iconst (v := 1) hK.1.1 hK.1.2.1 dL_law_295 (by decide) ?_
          refine lv_iadd hK.1.1 hK.1.2.1 dL_law_296 ?_
          rw [show nI i + 1 = nI (i + 1) from nI_add i 1]
          refine va_ti hK.1.1 hK.1.2.1 hT hS (vp_in_nI (show i + 1 < n9 by omega) (by omega)) (v := .int (sf (i + 1))) (by rw [nI_clamp (by omega)]) dL_law_297 ?_
          refine lv_aload_n hK.1.1 hK.1.2.1 dL_law_298 rfl (lv_at hl 2 rfl) ?_
          refine lv_iload hK.1.1 hK.1.2.1 dL_law_299 (lv_at hl 1 rfl) ?_
          refine lv_iconst (v := 2) hK.1.1 hK.1.2.1 dL_law_301 (by decide) ?_
          refine lv_iadd hK.1.1 hK.1.2.1 dL_law_302 ?_
          rw [show nI i + 2 = nI (i + 2) from nI_add i 2]
          refine va_ti hK.1.1 hK.1.2.1 hT hS (vp_in_nI (show i + 2 < n9 by omega) (by omega)) (v := .int (sf (i + 2))) (by rw [nI_clamp (by omega)]) dL_law_303 ?_
          refine lv_aload_n hK.1.1 hK.1.2.1 dL_law_304 rfl (lv_at hl 2 rfl) ?_
          refine lv_iload hK.1.1 hK.1.2.1 dL_law_305 (lv_at hl 1 rfl) ?_
          refine lv_iconst (v := 3) hK.1.1 hK.1.2.1 dL_law_307 (by decide) ?_
          refine lv_iadd hK.1.1 hK.1.2.1 dL_law_308 ?_
          rw [show nI i + 3 = nI (i + 3) from nI_add i 3]
          refine va_ti hK.1.1 hK.1.2.1 hT hS (vp_in_nI (show i + 3 < n9 by omega) (by omega)) (v := .int (sf (i + 3))) (by rw [nI_clamp (by omega)]) dL_law_309 ?_
          refine lv_aload_n hK.1.1 hK.1.2.1 dL_law_310 rfl (lv_at hl 2 rfl) ?_
          refine lv_iload hK.1.1 hK.1.2.1 dL_law_311 (lv_at hl 1 rfl) ?_
          refine lv_iconst (v := 4) hK.1.1 hK.1.2.1 dL_law_313 (by decide) ?_
          refine lv_iadd hK.1.1 hK.1.2.1 dL_law_314 ?_
          rw [show nI i + 4 = nI (i + 4) from nI_add i 4]
          refine va_ti hK.1.1 hK.1.2.1 hT hS (vp_in_nI (show i + 4 < n9 by omega) (by omega)) (v := .int (sf (i + 4))) (by rw [nI_clamp (by omega)]) dL_law_315 ?_
          refine lv_if_eq (tgt := 323) hK.1.1 hK.1.2.1 dL_law_316 (by decide) (fun c => absurd c c249_1) (fun _ => ?_)
          refine lv_iconst (v := 1) hK.1.1 hK.1.2.1 dL_law_319 (by decide) ?_
          refine lv_goto (tgt := 324) hK.1.1 hK.1.2.1 dL_law_320 (by decide) ?_
          refine lv_aload_n hK.1.1 hK.1.2.1 dL_law_324 rfl (lv_at hl 2 rfl) ?_
          refine lv_iload hK.1.1 hK.1.2.1 dL_law_325 (lv_at hl 1 rfl) ?_
          refine lv_iconst (v := 5) hK.1.1 hK.1.2.1 dL_law_327 (by decide) ?_
          refine lv_iadd hK.1.1 hK.1.2.1 dL_law_328 ?_
          rw [show nI i + 5 = nI (i + 5) from nI_add i 5]
          refine va_ti hK.1.1 hK.1.2.1 hT hS (vp_in_nI (show i + 5 < n9 by omega) (by omega)) (v := .int (sf (i + 5))) (by rw [nI_clamp (by omega)]) dL_law_329 ?_
          refine lv_if_eq (tgt := 337) hK.1.1 hK.1.2.1 dL_law_330 (by decide) (fun _ => ?_) (fun c => absurd c263_5 c)
          refine lv_iconst (v := 0) hK.1.1 hK.1.2.1 dL_law_337 (by decide) ?_
          refine lv_aload_n hK.1.1 hK.1.2.1 dL_law_338 rfl (lv_at hl 2 rfl) ?_
          refine lv_iload hK.1.1 hK.1.2.1 dL_law_339 (lv_at hl 1 rfl) ?_
          refine lv_bipush (v := 6) hK.1.1 hK.1.2.1 dL_law_341 (by decide) ?_
          refine lv_iadd hK.1.1 hK.1.2.1 dL_law_343 ?_
          rw [show nI i + 6 = nI (i + 6) from nI_add i 6]
          refine va_ti hK.1.1 hK.1.2.1 hT hS (vp_in_nI (show i + 6 < n9 by omega) (by omega)) (v := .int (sf (i + 6))) (by rw [nI_clamp (by omega)]) dL_law_344 ?_
          refine lv_if_eq (tgt := 352) hK.1.1 hK.1.2.1 dL_law_345 (by decide) (fun c => absurd c c278_6) (fun _ => ?_)
          refine lv_iconst (v := 1) hK.1.1 hK.1.2.1 dL_law_348 (by decide) ?_
          refine lv_goto (tgt := 353) hK.1.1 hK.1.2.1 dL_law_349 (by decide) ?_
          refine gk_callV0 (n := 6) (As := [.int (sf (i + 1)), .int (sf (i + 2)), .int (sf (i + 3)), .int 1, .int 0, .int 1]) (rest := []) hK (c_X5_setOld l hR (i := (sf (i + 1))) (kp := (sf (i + 2))) (gr := (sf (i + 3))) (b1 := 1) (b2 := 0) (b3 := 1) (Or.inr rfl) (Or.inl rfl) (Or.inr rfl)) (gk_gV q_7_6 q_7_7 q_7_8 q_1_5 q_7_9) ⟨rfl, by decide +kernel, by decide +kernel, by decide +kernel⟩ ⟨(Nat.le_of_ble_eq_true rfl), (Nat.le_of_ble_eq_true rfl)⟩ hP hS (gk_recv hK.2.2.1.1 hP hR.2.2.2.2.2.2.2.2.1 rfl) rfl hl.1 rfl (Nat.le_of_ble_eq_true rfl) dL_law_353 ⟨(by show (cells + 16) + 0 ≤ 601024; omega), (by show (slots + 128) + 0 ≤ 7293034; omega)⟩ (fun v G1 H locs hw hP hS => ?_)
          obtain ⟨rfl, hw⟩ := hw
          rcases hw with ⟨r2, hr2, e2, hok2, hR⟩ | ⟨ho2, hR⟩ | ⟨hno2, hnk2, hR⟩
          · obtain rfl : r = r2 := (nI_eq (by omega) (by omega)).mp (e1.symm.trans e2)
            refine W.eq (g2 := F0 m 356 ls []) rfl ?_
            refine lv_aload_n hK.1.1 hK.1.2.1 dL_law_356 rfl (lv_at hl 4 rfl) ?_
            refine gk_callV0 (n := 0) (As := []) (rest := []) hK (c_X5_thrown l hR) (gk_gV q_6_14 q_6_15 q_6_16 q_1_5 q_6_17) ⟨rfl, by decide +kernel, by decide +kernel, by decide +kernel⟩ ⟨(Nat.le_of_ble_eq_true rfl), (Nat.le_of_ble_eq_true rfl)⟩ hP hS (gk_recv hK.2.2.1.1 hP hR.2.2.2.2.2.2.2.2.1 rfl) rfl hl.1 rfl (Nat.le_of_ble_eq_true rfl) dL_law_357 ⟨(by show ((cells + 16) + 0) + 0 ≤ 601024; omega), (by show ((slots + 128) + 0) + 0 ≤ 7293034; omega)⟩ (fun v G1 H locs hw hP hS => ?_)
            obtain ⟨rfl, hG9⟩ := hw
            rw [hG9] at hP
            refine W.eq (g2 := F0 m 360 ls [.int 0]) rfl ?_
            refine lv_iload hK.1.1 hK.1.2.1 dL_law_360 (lv_at hl 0 rfl) ?_
            refine lv_icmp_eq (tgt := 367) hK.1.1 hK.1.2.1 dL_law_362 (by decide) (fun _ => ?_) (fun c => absurd (by decide) c)
            refine lv_goto (tgt := 1428) hK.1.1 hK.1.2.1 dL_law_367 (by decide) ?_
            exact W.widen (show (((cells + 16) + 0) + 0) ≤ cells + 100 by omega) (show (((slots + 128) + 0) + 0) ≤ slots + 8000 by omega) (kk ls _ _ _ _ _ _ _ _ _ _ _ _ _ _ _ _ _ _ _ _ _ _ hP hS hR (xI_setOld hI hr hok (Or.inr rfl) (Or.inl rfl) (Or.inr rfl)) (lv_sub hl [1, 2, 3, 4, 5] rfl))
          · exact False.elim (absurd (e1 ▸ ho2) (rg_out_no hr (by decide)))
          · exact False.elim (hnk2 hok)
        · refine W.eq (g2 := F0 m 289 ls [.int 1]) rfl ?_
          refine lv_istore (lv' := [(5, .int 1), (4, .int (nI i)), (0, .ref sc), (1, .ref (ly_a y 0)), (2, .ref (ly_a y 5)), (3, .ref (ly_a y 4))]) hK.1.1 hK.1.2.1 dL_law_289 hl (by decide) rfl (fun ls hl => ?_)
          refine lv_aload_n hK.1.1 hK.1.2.1 dL_law_291 rfl (lv_at hl 4 rfl) ?_
          refine lv_aload_n hK.1.1 hK.1.2.1 dL_law_292 rfl (lv_at hl 2 rfl) ?_
          refine lv_iload hK.1.1 hK.1.2.1 dL_law_293 (lv_at hl 1 rfl) ?_
          refine lv_iconst (v := 1) hK.1.1 hK.1.2.1 dL_law_295 (by decide) ?_
          refine lv_iadd hK.1.1 hK.1.2.1 dL_law_296 ?_
          rw [show nI i + 1 = nI (i + 1) from nI_add i 1]
          refine va_ti hK.1.1 hK.1.2.1 hT hS (vp_in_nI (show i + 1 < n9 by omega) (by omega)) (v := .int (sf (i + 1))) (by rw [nI_clamp (by omega)]) dL_law_297 ?_
          refine lv_aload_n hK.1.1 hK.1.2.1 dL_law_298 rfl (lv_at hl 2 rfl) ?_
          refine lv_iload hK.1.1 hK.1.2.1 dL_law_299 (lv_at hl 1 rfl) ?_
          refine lv_iconst (v := 2) hK.1.1 hK.1.2.1 dL_law_301 (by decide) ?_
          refine lv_iadd hK.1.1 hK.1.2.1 dL_law_302 ?_
          rw [show nI i + 2 = nI (i + 2) from nI_add i 2]
          refine va_ti hK.1.1 hK.1.2.1 hT hS (vp_in_nI (show i + 2 < n9 by omega) (by omega)) (v := .int (sf (i + 2))) (by rw [nI_clamp (by omega)]) dL_law_303 ?_
          refine lv_aload_n hK.1.1 hK.1.2.1 dL_law_304 rfl (lv_at hl 2 rfl) ?_
          refine lv_iload hK.1.1 hK.1.2.1 dL_law_305 (lv_at hl 1 rfl) ?_
          refine lv_iconst (v := 3) hK.1.1 hK.1.2.1 dL_law_307 (by decide) ?_
          refine lv_iadd hK.1.1 hK.1.2.1 dL_law_308 ?_
          rw [show nI i + 3 = nI (i + 3) from nI_add i 3]
          refine va_ti hK.1.1 hK.1.2.1 hT hS (vp_in_nI (show i + 3 < n9 by omega) (by omega)) (v := .int (sf (i + 3))) (by rw [nI_clamp (by omega)]) dL_law_309 ?_
          refine lv_aload_n hK.1.1 hK.1.2.1 dL_law_310 rfl (lv_at hl 2 rfl) ?_
          refine lv_iload hK.1.1 hK.1.2.1 dL_law_311 (lv_at hl 1 rfl) ?_
          refine lv_iconst (v := 4) hK.1.1 hK.1.2.1 dL_law_313 (by decide) ?_
          refine lv_iadd hK.1.1 hK.1.2.1 dL_law_314 ?_
          rw [show nI i + 4 = nI (i + 4) from nI_add i 4]
          refine va_ti hK.1.1 hK.1.2.1 hT hS (vp_in_nI (show i + 4 < n9 by omega) (by omega)) (v := .int (sf (i + 4))) (by rw [nI_clamp (by omega)]) dL_law_315 ?_
          refine lv_if_eq (tgt := 323) hK.1.1 hK.1.2.1 dL_law_316 (by decide) (fun c => absurd c c249_1) (fun _ => ?_)
          refine lv_iconst (v := 1) hK.1.1 hK.1.2.1 dL_law_319 (by decide) ?_
          refine lv_goto (tgt := 324) hK.1.1 hK.1.2.1 dL_law_320 (by decide) ?_
          refine lv_aload_n hK.1.1 hK.1.2.1 dL_law_324 rfl (lv_at hl 2 rfl) ?_
          refine lv_iload hK.1.1 hK.1.2.1 dL_law_325 (lv_at hl 1 rfl) ?_
          refine lv_iconst (v := 5) hK.1.1 hK.1.2.1 dL_law_327 (by decide) ?_
          refine lv_iadd hK.1.1 hK.1.2.1 dL_law_328 ?_
          rw [show nI i + 5 = nI (i + 5) from nI_add i 5]
          refine va_ti hK.1.1 hK.1.2.1 hT hS (vp_in_nI (show i + 5 < n9 by omega) (by omega)) (v := .int (sf (i + 5))) (by rw [nI_clamp (by omega)]) dL_law_329 ?_
          refine lv_if_eq (tgt := 337) hK.1.1 hK.1.2.1 dL_law_330 (by decide) (fun _ => ?_) (fun c => absurd c263_5 c)
          refine lv_iconst (v := 0) hK.1.1 hK.1.2.1 dL_law_337 (by decide) ?_
          refine lv_aload_n hK.1.1 hK.1.2.1 dL_law_338 rfl (lv_at hl 2 rfl) ?_
          refine lv_iload hK.1.1 hK.1.2.1 dL_law_339 (lv_at hl 1 rfl) ?_
          refine lv_bipush (v := 6) hK.1.1 hK.1.2.1 dL_law_341 (by decide) ?_
          refine lv_iadd hK.1.1 hK.1.2.1 dL_law_343 ?_
          rw [show nI i + 6 = nI (i + 6) from nI_add i 6]
          refine va_ti hK.1.1 hK.1.2.1 hT hS (vp_in_nI (show i + 6 < n9 by omega) (by omega)) (v := .int (sf (i + 6))) (by rw [nI_clamp (by omega)]) dL_law_344 ?_
          refine lv_if_eq (tgt := 352) hK.1.1 hK.1.2.1 dL_law_345 (by decide) (fun c => absurd c c278_6) (fun _ => ?_)
          refine lv_iconst (v := 1) hK.1.1 hK.1.2.1 dL_law_348 (by decide) ?_
          refine lv_goto (tgt := 353) hK.1.1 hK.1.2.1 dL_law_349 (by decide) ?_
          refine gk_callV0 (n := 6) (As := [.int (sf (i + 1)), .int (sf (i + 2)), .int (sf (i + 3)), .int 1, .int 0, .int 1]) (rest := []) hK (c_X5_setOld l hR (i := (sf (i + 1))) (kp := (sf (i + 2))) (gr := (sf (i + 3))) (b1 := 1) (b2 := 0) (b3 := 1) (Or.inr rfl) (Or.inl rfl) (Or.inr rfl)) (gk_gV q_7_6 q_7_7 q_7_8 q_1_5 q_7_9) ⟨rfl, by decide +kernel, by decide +kernel, by decide +kernel⟩ ⟨(Nat.le_of_ble_eq_true rfl), (Nat.le_of_ble_eq_true rfl)⟩ hP hS (gk_recv hK.2.2.1.1 hP hR.2.2.2.2.2.2.2.2.1 rfl) rfl hl.1 rfl (Nat.le_of_ble_eq_true rfl) dL_law_353 ⟨(by show (cells + 16) + 0 ≤ 601024; omega), (by show (slots + 128) + 0 ≤ 7293034; omega)⟩ (fun v G1 H locs hw hP hS => ?_)
          obtain ⟨rfl, hw⟩ := hw
          rcases hw with ⟨r2, hr2, e2, hok2, hR⟩ | ⟨ho2, hR⟩ | ⟨hno2, hnk2, hR⟩
          · exact False.elim (absurd (e2 ▸ ho) (rg_out_no hr2 (by decide)))
          · refine W.eq (g2 := F0 m 356 ls []) rfl ?_
            refine lv_aload_n hK.1.1 hK.1.2.1 dL_law_356 rfl (lv_at hl 4 rfl) ?_
            refine gk_callV0 (n := 0) (As := []) (rest := []) hK (c_X5_thrown l hR) (gk_gV q_6_14 q_6_15 q_6_16 q_1_5 q_6_17) ⟨rfl, by decide +kernel, by decide +kernel, by decide +kernel⟩ ⟨(Nat.le_of_ble_eq_true rfl), (Nat.le_of_ble_eq_true rfl)⟩ hP hS (gk_recv hK.2.2.1.1 hP hR.2.2.2.2.2.2.2.2.1 rfl) rfl hl.1 rfl (Nat.le_of_ble_eq_true rfl) dL_law_357 ⟨(by show ((cells + 16) + 0) + 0 ≤ 601024; omega), (by show ((slots + 128) + 0) + 0 ≤ 7293034; omega)⟩ (fun v G1 H locs hw hP hS => ?_)
            obtain ⟨rfl, hG9⟩ := hw
            rw [hG9] at hP
            refine W.eq (g2 := F0 m 360 ls [.int 1]) rfl ?_
            refine lv_iload hK.1.1 hK.1.2.1 dL_law_360 (lv_at hl 0 rfl) ?_
            refine lv_icmp_eq (tgt := 367) hK.1.1 hK.1.2.1 dL_law_362 (by decide) (fun _ => ?_) (fun c => absurd (by decide) c)
            refine lv_goto (tgt := 1428) hK.1.1 hK.1.2.1 dL_law_367 (by decide) ?_
            exact W.widen (show (((cells + 16) + 0) + 0) ≤ cells + 100 by omega) (show (((slots + 128) + 0) + 0) ≤ slots + 8000 by omega) (kk ls _ _ _ _ _ _ _ _ _ _ _ _ _ _ _ _ _ _ _ _ _ _ hP hS hR (xI_mono hI) (lv_sub hl [1, 2, 3, 4, 5] rfl))
          · exact False.elim (hno2 ho)
        · refine W.eq (g2 := F0 m 289 ls [.int 2]) rfl ?_
          refine lv_istore (lv' := [(5, .int 2), (4, .int (nI i)), (0, .ref sc), (1, .ref (ly_a y 0)), (2, .ref (ly_a y 5)), (3, .ref (ly_a y 4))]) hK.1.1 hK.1.2.1 dL_law_289 hl (by decide) rfl (fun ls hl => ?_)
          refine lv_aload_n hK.1.1 hK.1.2.1 dL_law_291 rfl (lv_at hl 4 rfl) ?_
          refine lv_aload_n hK.1.1 hK.1.2.1 dL_law_292 rfl (lv_at hl 2 rfl) ?_
          refine lv_iload hK.1.1 hK.1.2.1 dL_law_293 (lv_at hl 1 rfl) ?_
          refine lv_iconst (v := 1) hK.1.1 hK.1.2.1 dL_law_295 (by decide) ?_
          refine lv_iadd hK.1.1 hK.1.2.1 dL_law_296 ?_
          rw [show nI i + 1 = nI (i + 1) from nI_add i 1]
          refine va_ti hK.1.1 hK.1.2.1 hT hS (vp_in_nI (show i + 1 < n9 by omega) (by omega)) (v := .int (sf (i + 1))) (by rw [nI_clamp (by omega)]) dL_law_297 ?_
          refine lv_aload_n hK.1.1 hK.1.2.1 dL_law_298 rfl (lv_at hl 2 rfl) ?_
          refine lv_iload hK.1.1 hK.1.2.1 dL_law_299 (lv_at hl 1 rfl) ?_
          refine lv_iconst (v := 2) hK.1.1 hK.1.2.1 dL_law_301 (by decide) ?_
          refine lv_iadd hK.1.1 hK.1.2.1 dL_law_302 ?_
          rw [show nI i + 2 = nI (i + 2) from nI_add i 2]
          refine va_ti hK.1.1 hK.1.2.1 hT hS (vp_in_nI (show i + 2 < n9 by omega) (by omega)) (v := .int (sf (i + 2))) (by rw [nI_clamp (by omega)]) dL_law_303 ?_
          refine lv_aload_n hK.1.1 hK.1.2.1 dL_law_304 rfl (lv_at hl 2 rfl) ?_
          refine lv_iload hK.1.1 hK.1.2.1 dL_law_305 (lv_at hl 1 rfl) ?_
          refine lv_iconst (v := 3) hK.1.1 hK.1.2.1 dL_law_307 (by decide) ?_
          refine lv_iadd hK.1.1 hK.1.2.1 dL_law_308 ?_
          rw [show nI i + 3 = nI (i + 3) from nI_add i 3]
          refine va_ti hK.1.1 hK.1.2.1 hT hS (vp_in_nI (show i + 3 < n9 by omega) (by omega)) (v := .int (sf (i + 3))) (by rw [nI_clamp (by omega)]) dL_law_309 ?_
          refine lv_aload_n hK.1.1 hK.1.2.1 dL_law_310 rfl (lv_at hl 2 rfl) ?_
          refine lv_iload hK.1.1 hK.1.2.1 dL_law_311 (lv_at hl 1 rfl) ?_
          refine lv_iconst (v := 4) hK.1.1 hK.1.2.1 dL_law_313 (by decide) ?_
          refine lv_iadd hK.1.1 hK.1.2.1 dL_law_314 ?_
          rw [show nI i + 4 = nI (i + 4) from nI_add i 4]
          refine va_ti hK.1.1 hK.1.2.1 hT hS (vp_in_nI (show i + 4 < n9 by omega) (by omega)) (v := .int (sf (i + 4))) (by rw [nI_clamp (by omega)]) dL_law_315 ?_
          refine lv_if_eq (tgt := 323) hK.1.1 hK.1.2.1 dL_law_316 (by decide) (fun c => absurd c c249_1) (fun _ => ?_)
          refine lv_iconst (v := 1) hK.1.1 hK.1.2.1 dL_law_319 (by decide) ?_
          refine lv_goto (tgt := 324) hK.1.1 hK.1.2.1 dL_law_320 (by decide) ?_
          refine lv_aload_n hK.1.1 hK.1.2.1 dL_law_324 rfl (lv_at hl 2 rfl) ?_
          refine lv_iload hK.1.1 hK.1.2.1 dL_law_325 (lv_at hl 1 rfl) ?_
          refine lv_iconst (v := 5) hK.1.1 hK.1.2.1 dL_law_327 (by decide) ?_
          refine lv_iadd hK.1.1 hK.1.2.1 dL_law_328 ?_
          rw [show nI i + 5 = nI (i + 5) from nI_add i 5]
          refine va_ti hK.1.1 hK.1.2.1 hT hS (vp_in_nI (show i + 5 < n9 by omega) (by omega)) (v := .int (sf (i + 5))) (by rw [nI_clamp (by omega)]) dL_law_329 ?_
          refine lv_if_eq (tgt := 337) hK.1.1 hK.1.2.1 dL_law_330 (by decide) (fun _ => ?_) (fun c => absurd c263_5 c)
          refine lv_iconst (v := 0) hK.1.1 hK.1.2.1 dL_law_337 (by decide) ?_
          refine lv_aload_n hK.1.1 hK.1.2.1 dL_law_338 rfl (lv_at hl 2 rfl) ?_
          refine lv_iload hK.1.1 hK.1.2.1 dL_law_339 (lv_at hl 1 rfl) ?_
          refine lv_bipush (v := 6) hK.1.1 hK.1.2.1 dL_law_341 (by decide) ?_
          refine lv_iadd hK.1.1 hK.1.2.1 dL_law_343 ?_
          rw [show nI i + 6 = nI (i + 6) from nI_add i 6]
          refine va_ti hK.1.1 hK.1.2.1 hT hS (vp_in_nI (show i + 6 < n9 by omega) (by omega)) (v := .int (sf (i + 6))) (by rw [nI_clamp (by omega)]) dL_law_344 ?_
          refine lv_if_eq (tgt := 352) hK.1.1 hK.1.2.1 dL_law_345 (by decide) (fun c => absurd c c278_6) (fun _ => ?_)
          refine lv_iconst (v := 1) hK.1.1 hK.1.2.1 dL_law_348 (by decide) ?_
          refine lv_goto (tgt := 353) hK.1.1 hK.1.2.1 dL_law_349 (by decide) ?_
          refine gk_callV0 (n := 6) (As := [.int (sf (i + 1)), .int (sf (i + 2)), .int (sf (i + 3)), .int 1, .int 0, .int 1]) (rest := []) hK (c_X5_setOld l hR (i := (sf (i + 1))) (kp := (sf (i + 2))) (gr := (sf (i + 3))) (b1 := 1) (b2 := 0) (b3 := 1) (Or.inr rfl) (Or.inl rfl) (Or.inr rfl)) (gk_gV q_7_6 q_7_7 q_7_8 q_1_5 q_7_9) ⟨rfl, by decide +kernel, by decide +kernel, by decide +kernel⟩ ⟨(Nat.le_of_ble_eq_true rfl), (Nat.le_of_ble_eq_true rfl)⟩ hP hS (gk_recv hK.2.2.1.1 hP hR.2.2.2.2.2.2.2.2.1 rfl) rfl hl.1 rfl (Nat.le_of_ble_eq_true rfl) dL_law_353 ⟨(by show (cells + 16) + 0 ≤ 601024; omega), (by show (slots + 128) + 0 ≤ 7293034; omega)⟩ (fun v G1 H locs hw hP hS => ?_)
          obtain ⟨rfl, hw⟩ := hw
          rcases hw with ⟨r2, hr2, e2, hok2, hR⟩ | ⟨ho2, hR⟩ | ⟨hno2, hnk2, hR⟩
          · exact False.elim (hnk hok2)
          · exact False.elim (hno ho2)
          · refine W.eq (g2 := F0 m 356 ls []) rfl ?_
            refine lv_aload_n hK.1.1 hK.1.2.1 dL_law_356 rfl (lv_at hl 4 rfl) ?_
            refine gk_callV0 (n := 0) (As := []) (rest := []) hK (c_X5_thrown l hR) (gk_gV q_6_14 q_6_15 q_6_16 q_1_5 q_6_17) ⟨rfl, by decide +kernel, by decide +kernel, by decide +kernel⟩ ⟨(Nat.le_of_ble_eq_true rfl), (Nat.le_of_ble_eq_true rfl)⟩ hP hS (gk_recv hK.2.2.1.1 hP hR.2.2.2.2.2.2.2.2.1 rfl) rfl hl.1 rfl (Nat.le_of_ble_eq_true rfl) dL_law_357 ⟨(by show ((cells + 16) + 0) + 0 ≤ 601024; omega), (by show ((slots + 128) + 0) + 0 ≤ 7293034; omega)⟩ (fun v G1 H locs hw hP hS => ?_)
            obtain ⟨rfl, hG9⟩ := hw
            rw [hG9] at hP
            refine W.eq (g2 := F0 m 360 ls [.int 2]) rfl ?_
            refine lv_iload hK.1.1 hK.1.2.1 dL_law_360 (lv_at hl 0 rfl) ?_
            refine lv_icmp_eq (tgt := 367) hK.1.1 hK.1.2.1 dL_law_362 (by decide) (fun _ => ?_) (fun c => absurd (by decide) c)
            refine lv_goto (tgt := 1428) hK.1.1 hK.1.2.1 dL_law_367 (by decide) ?_
            exact W.widen (show (((cells + 16) + 0) + 0) ≤ cells + 100 by omega) (show (((slots + 128) + 0) + 0) ≤ slots + 8000 by omega) (kk ls _ _ _ _ _ _ _ _ _ _ _ _ _ _ _ _ _ _ _ _ _ _ hP hS hR (xI_mono hI) (lv_sub hl [1, 2, 3, 4, 5] rfl))
    · refine lv_iconst (v := 1) hK.1.1 hK.1.2.1 dL_law_266 (by decide) ?_
      refine lv_goto (tgt := 271) hK.1.1 hK.1.2.1 dL_law_267 (by decide) ?_
      refine lv_aload_n hK.1.1 hK.1.2.1 dL_law_271 rfl (lv_at hl 1 rfl) ?_
      refine lv_iload hK.1.1 hK.1.2.1 dL_law_272 (lv_at hl 0 rfl) ?_
      refine lv_bipush (v := 6) hK.1.1 hK.1.2.1 dL_law_274 (by decide) ?_
      refine lv_iadd hK.1.1 hK.1.2.1 dL_law_276 ?_
      rw [show nI i + 6 = nI (i + 6) from nI_add i 6]
      refine va_ti hK.1.1 hK.1.2.1 hT hS (vp_in_nI (show i + 6 < n9 by omega) (by omega)) (v := .int (sf (i + 6))) (by rw [nI_clamp (by omega)]) dL_law_277 ?_
      refine lv_if_eq (tgt := 285) hK.1.1 hK.1.2.1 dL_law_278 (by decide) (fun c278_7 => ?_) (fun c278_7 => ?_)
      · refine lv_iconst (v := 0) hK.1.1 hK.1.2.1 dL_law_285 (by decide) ?_
        refine gk_callSW (n := 7) (As := [.ref (ly_a y 0), .int (sf (i + 1)), .int (sf (i + 2)), .int (sf (i + 3)), .int 1, .int 1, .int 0]) (rest := []) hK (c_L_setOld l hfl hR (i := (sf (i + 1))) (kp := (sf (i + 2))) (gr := (sf (i + 3))) (b1 := 1) (b2 := 1) (b3 := 0) (Or.inr rfl) (Or.inr rfl) (Or.inl rfl)) (gk_gS q_6_18 q_6_19 q_5_0 q_6_20) ⟨by decide +kernel, by decide +kernel, by decide +kernel⟩ ⟨(Nat.le_of_ble_eq_true rfl), (Nat.le_of_ble_eq_true rfl)⟩ hP hS rfl hl.1 rfl (Nat.le_of_ble_eq_true rfl) dL_law_286 ⟨(by show cells + 16 ≤ 601024; omega), (by show slots + 128 ≤ 7293034; omega)⟩ (fun v G1 H locs hw hP hS => ?_)
        rcases hw with ⟨r, hr, e1, hok, rfl, hR⟩ | ⟨ho, rfl, hR⟩ | ⟨⟨hno, hnk⟩, rfl, hR⟩
        · refine W.eq (g2 := F0 m 289 ls [.int 0]) rfl ?_
          refine lv_istore (lv' := [(5, .int 0), (4, .int (nI i)), (0, .ref sc), (1, .ref (ly_a y 0)), (2, .ref (ly_a y 5)), (3, .ref (ly_a y 4))]) hK.1.1 hK.1.2.1 dL_law_289 hl (by decide) rfl (fun ls hl => ?_)
          refine lv_aload_n hK.1.1 hK.1.2.1 dL_law_291 rfl (lv_at hl 4 rfl) ?_
          refine lv_aload_n hK.1.1 hK.1.2.1 dL_law_292 rfl (lv_at hl 2 rfl) ?_
          refine lv_iload hK.1.1 hK.1.2.1 dL_law_293 (lv_at hl 1 rfl) ?_
          refine lv_iconst (v := 1) hK.1.1 hK.1.2.1 dL_law_295 (by decide) ?_
          refine lv_iadd hK.1.1 hK.1.2.1 dL_law_296 ?_
          rw [show nI i + 1 = nI (i + 1) from nI_add i 1]
          refine va_ti hK.1.1 hK.1.2.1 hT hS (vp_in_nI (show i + 1 < n9 by omega) (by omega)) (v := .int (sf (i + 1))) (by rw [nI_clamp (by omega)]) dL_law_297 ?_
          refine lv_aload_n hK.1.1 hK.1.2.1 dL_law_298 rfl (lv_at hl 2 rfl) ?_
          refine lv_iload hK.1.1 hK.1.2.1 dL_law_299 (lv_at hl 1 rfl) ?_
          refine lv_iconst (v := 2) hK.1.1 hK.1.2.1 dL_law_301 (by decide) ?_
          refine lv_iadd hK.1.1 hK.1.2.1 dL_law_302 ?_
          rw [show nI i + 2 = nI (i + 2) from nI_add i 2]
          refine va_ti hK.1.1 hK.1.2.1 hT hS (vp_in_nI (show i + 2 < n9 by omega) (by omega)) (v := .int (sf (i + 2))) (by rw [nI_clamp (by omega)]) dL_law_303 ?_
          refine lv_aload_n hK.1.1 hK.1.2.1 dL_law_304 rfl (lv_at hl 2 rfl) ?_
          refine lv_iload hK.1.1 hK.1.2.1 dL_law_305 (lv_at hl 1 rfl) ?_
          refine lv_iconst (v := 3) hK.1.1 hK.1.2.1 dL_law_307 (by decide) ?_
          refine lv_iadd hK.1.1 hK.1.2.1 dL_law_308 ?_
          rw [show nI i + 3 = nI (i + 3) from nI_add i 3]
          refine va_ti hK.1.1 hK.1.2.1 hT hS (vp_in_nI (show i + 3 < n9 by omega) (by omega)) (v := .int (sf (i + 3))) (by rw [nI_clamp (by omega)]) dL_law_309 ?_
          refine lv_aload_n hK.1.1 hK.1.2.1 dL_law_310 rfl (lv_at hl 2 rfl) ?_
          refine lv_iload hK.1.1 hK.1.2.1 dL_law_311 (lv_at hl 1 rfl) ?_
          refine lv_iconst (v := 4) hK.1.1 hK.1.2.1 dL_law_313 (by decide) ?_
          refine lv_iadd hK.1.1 hK.1.2.1 dL_law_314 ?_
          rw [show nI i + 4 = nI (i + 4) from nI_add i 4]
          refine va_ti hK.1.1 hK.1.2.1 hT hS (vp_in_nI (show i + 4 < n9 by omega) (by omega)) (v := .int (sf (i + 4))) (by rw [nI_clamp (by omega)]) dL_law_315 ?_
          refine lv_if_eq (tgt := 323) hK.1.1 hK.1.2.1 dL_law_316 (by decide) (fun c => absurd c c249_1) (fun _ => ?_)
          refine lv_iconst (v := 1) hK.1.1 hK.1.2.1 dL_law_319 (by decide) ?_
          refine lv_goto (tgt := 324) hK.1.1 hK.1.2.1 dL_law_320 (by decide) ?_
          refine lv_aload_n hK.1.1 hK.1.2.1 dL_law_324 rfl (lv_at hl 2 rfl) ?_
          refine lv_iload hK.1.1 hK.1.2.1 dL_law_325 (lv_at hl 1 rfl) ?_
          refine lv_iconst (v := 5) hK.1.1 hK.1.2.1 dL_law_327 (by decide) ?_
          refine lv_iadd hK.1.1 hK.1.2.1 dL_law_328 ?_
          rw [show nI i + 5 = nI (i + 5) from nI_add i 5]
          refine va_ti hK.1.1 hK.1.2.1 hT hS (vp_in_nI (show i + 5 < n9 by omega) (by omega)) (v := .int (sf (i + 5))) (by rw [nI_clamp (by omega)]) dL_law_329 ?_
          refine lv_if_eq (tgt := 337) hK.1.1 hK.1.2.1 dL_law_330 (by decide) (fun c => absurd c c263_5) (fun _ => ?_)
          refine lv_iconst (v := 1) hK.1.1 hK.1.2.1 dL_law_333 (by decide) ?_
          refine lv_goto (tgt := 338) hK.1.1 hK.1.2.1 dL_law_334 (by decide) ?_
          refine lv_aload_n hK.1.1 hK.1.2.1 dL_law_338 rfl (lv_at hl 2 rfl) ?_
          refine lv_iload hK.1.1 hK.1.2.1 dL_law_339 (lv_at hl 1 rfl) ?_
          refine lv_bipush (v := 6) hK.1.1 hK.1.2.1 dL_law_341 (by decide) ?_
          refine lv_iadd hK.1.1 hK.1.2.1 dL_law_343 ?_
          rw [show nI i + 6 = nI (i + 6) from nI_add i 6]
          refine va_ti hK.1.1 hK.1.2.1 hT hS (vp_in_nI (show i + 6 < n9 by omega) (by omega)) (v := .int (sf (i + 6))) (by rw [nI_clamp (by omega)]) dL_law_344 ?_
          refine lv_if_eq (tgt := 352) hK.1.1 hK.1.2.1 dL_law_345 (by decide) (fun _ => ?_) (fun c => absurd c278_7 c)
          refine lv_iconst (v := 0) hK.1.1 hK.1.2.1 dL_law_352 (by decide) ?_
          refine gk_callV0 (n := 6) (As := [.int (sf (i + 1)), .int (sf (i + 2)), .int (sf (i + 3)), .int 1, .int 1, .int 0]) (rest := []) hK (c_X5_setOld l hR (i := (sf (i + 1))) (kp := (sf (i + 2))) (gr := (sf (i + 3))) (b1 := 1) (b2 := 1) (b3 := 0) (Or.inr rfl) (Or.inr rfl) (Or.inl rfl)) (gk_gV q_7_6 q_7_7 q_7_8 q_1_5 q_7_9) ⟨rfl, by decide +kernel, by decide +kernel, by decide +kernel⟩ ⟨(Nat.le_of_ble_eq_true rfl), (Nat.le_of_ble_eq_true rfl)⟩ hP hS (gk_recv hK.2.2.1.1 hP hR.2.2.2.2.2.2.2.2.1 rfl) rfl hl.1 rfl (Nat.le_of_ble_eq_true rfl) dL_law_353 ⟨(by show (cells + 16) + 0 ≤ 601024; omega), (by show (slots + 128) + 0 ≤ 7293034; omega)⟩ (fun v G1 H locs hw hP hS => ?_)
          obtain ⟨rfl, hw⟩ := hw
          rcases hw with ⟨r2, hr2, e2, hok2, hR⟩ | ⟨ho2, hR⟩ | ⟨hno2, hnk2, hR⟩
          · obtain rfl : r = r2 := (nI_eq (by omega) (by omega)).mp (e1.symm.trans e2)
            refine W.eq (g2 := F0 m 356 ls []) rfl ?_
            refine lv_aload_n hK.1.1 hK.1.2.1 dL_law_356 rfl (lv_at hl 4 rfl) ?_
            refine gk_callV0 (n := 0) (As := []) (rest := []) hK (c_X5_thrown l hR) (gk_gV q_6_14 q_6_15 q_6_16 q_1_5 q_6_17) ⟨rfl, by decide +kernel, by decide +kernel, by decide +kernel⟩ ⟨(Nat.le_of_ble_eq_true rfl), (Nat.le_of_ble_eq_true rfl)⟩ hP hS (gk_recv hK.2.2.1.1 hP hR.2.2.2.2.2.2.2.2.1 rfl) rfl hl.1 rfl (Nat.le_of_ble_eq_true rfl) dL_law_357 ⟨(by show ((cells + 16) + 0) + 0 ≤ 601024; omega), (by show ((slots + 128) + 0) + 0 ≤ 7293034; omega)⟩ (fun v G1 H locs hw hP hS => ?_)
            obtain ⟨rfl, hG9⟩ := hw
            rw [hG9] at hP
            refine W.eq (g2 := F0 m 360 ls [.int 0]) rfl ?_
            refine lv_iload hK.1.1 hK.1.2.1 dL_law_360 (lv_at hl 0 rfl) ?_
            refine lv_icmp_eq (tgt := 367) hK.1.1 hK.1.2.1 dL_law_362 (by decide) (fun _ => ?_) (fun c => absurd (by decide) c)
            refine lv_goto (tgt := 1428) hK.1.1 hK.1.2.1 dL_law_367 (by decide) ?_
            exact W.widen (show (((cells + 16) + 0) + 0) ≤ cells + 100 by omega) (show (((slots + 128) + 0) + 0) ≤ slots + 8000 by omega) (kk ls _ _ _ _ _ _ _ _ _ _ _ _ _ _ _ _ _ _ _ _ _ _ hP hS hR (xI_setOld hI hr hok (Or.inr rfl) (Or.inr rfl) (Or.inl rfl)) (lv_sub hl [1, 2, 3, 4, 5] rfl))
          · exact False.elim (absurd (e1 ▸ ho2) (rg_out_no hr (by decide)))
          · exact False.elim (hnk2 hok)
        · refine W.eq (g2 := F0 m 289 ls [.int 1]) rfl ?_
          refine lv_istore (lv' := [(5, .int 1), (4, .int (nI i)), (0, .ref sc), (1, .ref (ly_a y 0)), (2, .ref (ly_a y 5)), (3, .ref (ly_a y 4))]) hK.1.1 hK.1.2.1 dL_law_289 hl (by decide) rfl (fun ls hl => ?_)
          refine lv_aload_n hK.1.1 hK.1.2.1 dL_law_291 rfl (lv_at hl 4 rfl) ?_
          refine lv_aload_n hK.1.1 hK.1.2.1 dL_law_292 rfl (lv_at hl 2 rfl) ?_
          refine lv_iload hK.1.1 hK.1.2.1 dL_law_293 (lv_at hl 1 rfl) ?_
          refine lv_iconst (v := 1) hK.1.1 hK.1.2.1 dL_law_295 (by decide) ?_
          refine lv_iadd hK.1.1 hK.1.2.1 dL_law_296 ?_
          rw [show nI i + 1 = nI (i + 1) from nI_add i 1]
          refine va_ti hK.1.1 hK.1.2.1 hT hS (vp_in_nI (show i + 1 < n9 by omega) (by omega)) (v := .int (sf (i + 1))) (by rw [nI_clamp (by omega)]) dL_law_297 ?_
          refine lv_aload_n hK.1.1 hK.1.2.1 dL_law_298 rfl (lv_at hl 2 rfl) ?_
          refine lv_iload hK.1.1 hK.1.2.1 dL_law_299 (lv_at hl 1 rfl) ?_
          refine lv_iconst (v := 2) hK.1.1 hK.1.2.1 dL_law_301 (by decide) ?_
          refine lv_iadd hK.1.1 hK.1.2.1 dL_law_302 ?_
          rw [show nI i + 2 = nI (i + 2) from nI_add i 2]
          refine va_ti hK.1.1 hK.1.2.1 hT hS (vp_in_nI (show i + 2 < n9 by omega) (by omega)) (v := .int (sf (i + 2))) (by rw [nI_clamp (by omega)]) dL_law_303 ?_
          refine lv_aload_n hK.1.1 hK.1.2.1 dL_law_304 rfl (lv_at hl 2 rfl) ?_
          refine lv_iload hK.1.1 hK.1.2.1 dL_law_305 (lv_at hl 1 rfl) ?_
          refine lv_iconst (v := 3) hK.1.1 hK.1.2.1 dL_law_307 (by decide) ?_
          refine lv_iadd hK.1.1 hK.1.2.1 dL_law_308 ?_
          rw [show nI i + 3 = nI (i + 3) from nI_add i 3]
          refine va_ti hK.1.1 hK.1.2.1 hT hS (vp_in_nI (show i + 3 < n9 by omega) (by omega)) (v := .int (sf (i + 3))) (by rw [nI_clamp (by omega)]) dL_law_309 ?_
          refine lv_aload_n hK.1.1 hK.1.2.1 dL_law_310 rfl (lv_at hl 2 rfl) ?_
          refine lv_iload hK.1.1 hK.1.2.1 dL_law_311 (lv_at hl 1 rfl) ?_
          refine lv_iconst (v := 4) hK.1.1 hK.1.2.1 dL_law_313 (by decide) ?_
          refine lv_iadd hK.1.1 hK.1.2.1 dL_law_314 ?_
          rw [show nI i + 4 = nI (i + 4) from nI_add i 4]
          refine va_ti hK.1.1 hK.1.2.1 hT hS (vp_in_nI (show i + 4 < n9 by omega) (by omega)) (v := .int (sf (i + 4))) (by rw [nI_clamp (by omega)]) dL_law_315 ?_
          refine lv_if_eq (tgt := 323) hK.1.1 hK.1.2.1 dL_law_316 (by decide) (fun c => absurd c c249_1) (fun _ => ?_)
          refine lv_iconst (v := 1) hK.1.1 hK.1.2.1 dL_law_319 (by decide) ?_
          refine lv_goto (tgt := 324) hK.1.1 hK.1.2.1 dL_law_320 (by decide) ?_
          refine lv_aload_n hK.1.1 hK.1.2.1 dL_law_324 rfl (lv_at hl 2 rfl) ?_
          refine lv_iload hK.1.1 hK.1.2.1 dL_law_325 (lv_at hl 1 rfl) ?_
          refine lv_iconst (v := 5) hK.1.1 hK.1.2.1 dL_law_327 (by decide) ?_
          refine lv_iadd hK.1.1 hK.1.2.1 dL_law_328 ?_
          rw [show nI i + 5 = nI (i + 5) from nI_add i 5]
          refine va_ti hK.1.1 hK.1.2.1 hT hS (vp_in_nI (show i + 5 < n9 by omega) (by omega)) (v := .int (sf (i + 5))) (by rw [nI_clamp (by omega)]) dL_law_329 ?_
          refine lv_if_eq (tgt := 337) hK.1.1 hK.1.2.1 dL_law_330 (by decide) (fun c => absurd c c263_5) (fun _ => ?_)
          refine lv_iconst (v := 1) hK.1.1 hK.1.2.1 dL_law_333 (by decide) ?_
          refine lv_goto (tgt := 338) hK.1.1 hK.1.2.1 dL_law_334 (by decide) ?_
          refine lv_aload_n hK.1.1 hK.1.2.1 dL_law_338 rfl (lv_at hl 2 rfl) ?_
          refine lv_iload hK.1.1 hK.1.2.1 dL_law_339 (lv_at hl 1 rfl) ?_
          refine lv_bipush (v := 6) hK.1.1 hK.1.2.1 dL_law_341 (by decide) ?_
          refine lv_iadd hK.1.1 hK.1.2.1 dL_law_343 ?_
          rw [show nI i + 6 = nI (i + 6) from nI_add i 6]
          refine va_ti hK.1.1 hK.1.2.1 hT hS (vp_in_nI (show i + 6 < n9 by omega) (by omega)) (v := .int (sf (i + 6))) (by rw [nI_clamp (by omega)]) dL_law_344 ?_
          refine lv_if_eq (tgt := 352) hK.1.1 hK.1.2.1 dL_law_345 (by decide) (fun _ => ?_) (fun c => absurd c278_7 c)
          refine lv_iconst (v := 0) hK.1.1 hK.1.2.1 dL_law_352 (by decide) ?_
          refine gk_callV0 (n := 6) (As := [.int (sf (i + 1)), .int (sf (i + 2)), .int (sf (i + 3)), .int 1, .int 1, .int 0]) (rest := []) hK (c_X5_setOld l hR (i := (sf (i + 1))) (kp := (sf (i + 2))) (gr := (sf (i + 3))) (b1 := 1) (b2 := 1) (b3 := 0) (Or.inr rfl) (Or.inr rfl) (Or.inl rfl)) (gk_gV q_7_6 q_7_7 q_7_8 q_1_5 q_7_9) ⟨rfl, by decide +kernel, by decide +kernel, by decide +kernel⟩ ⟨(Nat.le_of_ble_eq_true rfl), (Nat.le_of_ble_eq_true rfl)⟩ hP hS (gk_recv hK.2.2.1.1 hP hR.2.2.2.2.2.2.2.2.1 rfl) rfl hl.1 rfl (Nat.le_of_ble_eq_true rfl) dL_law_353 ⟨(by show (cells + 16) + 0 ≤ 601024; omega), (by show (slots + 128) + 0 ≤ 7293034; omega)⟩ (fun v G1 H locs hw hP hS => ?_)
          obtain ⟨rfl, hw⟩ := hw
          rcases hw with ⟨r2, hr2, e2, hok2, hR⟩ | ⟨ho2, hR⟩ | ⟨hno2, hnk2, hR⟩
          · exact False.elim (absurd (e2 ▸ ho) (rg_out_no hr2 (by decide)))
          · refine W.eq (g2 := F0 m 356 ls []) rfl ?_
            refine lv_aload_n hK.1.1 hK.1.2.1 dL_law_356 rfl (lv_at hl 4 rfl) ?_
            refine gk_callV0 (n := 0) (As := []) (rest := []) hK (c_X5_thrown l hR) (gk_gV q_6_14 q_6_15 q_6_16 q_1_5 q_6_17) ⟨rfl, by decide +kernel, by decide +kernel, by decide +kernel⟩ ⟨(Nat.le_of_ble_eq_true rfl), (Nat.le_of_ble_eq_true rfl)⟩ hP hS (gk_recv hK.2.2.1.1 hP hR.2.2.2.2.2.2.2.2.1 rfl) rfl hl.1 rfl (Nat.le_of_ble_eq_true rfl) dL_law_357 ⟨(by show ((cells + 16) + 0) + 0 ≤ 601024; omega), (by show ((slots + 128) + 0) + 0 ≤ 7293034; omega)⟩ (fun v G1 H locs hw hP hS => ?_)
            obtain ⟨rfl, hG9⟩ := hw
            rw [hG9] at hP
            refine W.eq (g2 := F0 m 360 ls [.int 1]) rfl ?_
            refine lv_iload hK.1.1 hK.1.2.1 dL_law_360 (lv_at hl 0 rfl) ?_
            refine lv_icmp_eq (tgt := 367) hK.1.1 hK.1.2.1 dL_law_362 (by decide) (fun _ => ?_) (fun c => absurd (by decide) c)
            refine lv_goto (tgt := 1428) hK.1.1 hK.1.2.1 dL_law_367 (by decide) ?_
            exact W.widen (show (((cells + 16) + 0) + 0) ≤ cells + 100 by omega) (show (((slots + 128) + 0) + 0) ≤ slots + 8000 by omega) (kk ls _ _ _ _ _ _ _ _ _ _ _ _ _ _ _ _ _ _ _ _ _ _ hP hS hR (xI_mono hI) (lv_sub hl [1, 2, 3, 4, 5] rfl))
          · exact False.elim (hno2 ho)
        · refine W.eq (g2 := F0 m 289 ls [.int 2]) rfl ?_
          refine lv_istore (lv' := [(5, .int 2), (4, .int (nI i)), (0, .ref sc), (1, .ref (ly_a y 0)), (2, .ref (ly_a y 5)), (3, .ref (ly_a y 4))]) hK.1.1 hK.1.2.1 dL_law_289 hl (by decide) rfl (fun ls hl => ?_)
          refine lv_aload_n hK.1.1 hK.1.2.1 dL_law_291 rfl (lv_at hl 4 rfl) ?_
          refine lv_aload_n hK.1.1 hK.1.2.1 dL_law_292 rfl (lv_at hl 2 rfl) ?_
          refine lv_iload hK.1.1 hK.1.2.1 dL_law_293 (lv_at hl 1 rfl) ?_
          refine lv_iconst (v := 1) hK.1.1 hK.1.2.1 dL_law_295 (by decide) ?_
          refine lv_iadd hK.1.1 hK.1.2.1 dL_law_296 ?_
          rw [show nI i + 1 = nI (i + 1) from nI_add i 1]
          refine va_ti hK.1.1 hK.1.2.1 hT hS (vp_in_nI (show i + 1 < n9 by omega) (by omega)) (v := .int (sf (i + 1))) (by rw [nI_clamp (by omega)]) dL_law_297 ?_
          refine lv_aload_n hK.1.1 hK.1.2.1 dL_law_298 rfl (lv_at hl 2 rfl) ?_
          refine lv_iload hK.1.1 hK.1.2.1 dL_law_299 (lv_at hl 1 rfl) ?_
          refine lv_iconst (v := 2) hK.1.1 hK.1.2.1 dL_law_301 (by decide) ?_
          refine lv_iadd hK.1.1 hK.1.2.1 dL_law_302 ?_
          rw [show nI i + 2 = nI (i + 2) from nI_add i 2]
          refine va_ti hK.1.1 hK.1.2.1 hT hS (vp_in_nI (show i + 2 < n9 by omega) (by omega)) (v := .int (sf (i + 2))) (by rw [nI_clamp (by omega)]) dL_law_303 ?_
          refine lv_aload_n hK.1.1 hK.1.2.1 dL_law_304 rfl (lv_at hl 2 rfl) ?_
          refine lv_iload hK.1.1 hK.1.2.1 dL_law_305 (lv_at hl 1 rfl) ?_
          refine lv_iconst (v := 3) hK.1.1 hK.1.2.1 dL_law_307 (by decide) ?_
          refine lv_iadd hK.1.1 hK.1.2.1 dL_law_308 ?_
          rw [show nI i + 3 = nI (i + 3) from nI_add i 3]
          refine va_ti hK.1.1 hK.1.2.1 hT hS (vp_in_nI (show i + 3 < n9 by omega) (by omega)) (v := .int (sf (i + 3))) (by rw [nI_clamp (by omega)]) dL_law_309 ?_
          refine lv_aload_n hK.1.1 hK.1.2.1 dL_law_310 rfl (lv_at hl 2 rfl) ?_
          refine lv_iload hK.1.1 hK.1.2.1 dL_law_311 (lv_at hl 1 rfl) ?_
          refine lv_iconst (v := 4) hK.1.1 hK.1.2.1 dL_law_313 (by decide) ?_
          refine lv_iadd hK.1.1 hK.1.2.1 dL_law_314 ?_
          rw [show nI i + 4 = nI (i + 4) from nI_add i 4]
          refine va_ti hK.1.1 hK.1.2.1 hT hS (vp_in_nI (show i + 4 < n9 by omega) (by omega)) (v := .int (sf (i + 4))) (by rw [nI_clamp (by omega)]) dL_law_315 ?_
          refine lv_if_eq (tgt := 323) hK.1.1 hK.1.2.1 dL_law_316 (by decide) (fun c => absurd c c249_1) (fun _ => ?_)
          refine lv_iconst (v := 1) hK.1.1 hK.1.2.1 dL_law_319 (by decide) ?_
          refine lv_goto (tgt := 324) hK.1.1 hK.1.2.1 dL_law_320 (by decide) ?_
          refine lv_aload_n hK.1.1 hK.1.2.1 dL_law_324 rfl (lv_at hl 2 rfl) ?_
          refine lv_iload hK.1.1 hK.1.2.1 dL_law_325 (lv_at hl 1 rfl) ?_
          refine lv_iconst (v := 5) hK.1.1 hK.1.2.1 dL_law_327 (by decide) ?_
          refine lv_iadd hK.1.1 hK.1.2.1 dL_law_328 ?_
          rw [show nI i + 5 = nI (i + 5) from nI_add i 5]
          refine va_ti hK.1.1 hK.1.2.1 hT hS (vp_in_nI (show i + 5 < n9 by omega) (by omega)) (v := .int (sf (i + 5))) (by rw [nI_clamp (by omega)]) dL_law_329 ?_
          refine lv_if_eq (tgt := 337) hK.1.1 hK.1.2.1 dL_law_330 (by decide) (fun c => absurd c c263_5) (fun _ => ?_)
          refine lv_iconst (v := 1) hK.1.1 hK.1.2.1 dL_law_333 (by decide) ?_
          refine lv_goto (tgt := 338) hK.1.1 hK.1.2.1 dL_law_334 (by decide) ?_
          refine lv_aload_n hK.1.1 hK.1.2.1 dL_law_338 rfl (lv_at hl 2 rfl) ?_
          refine lv_iload hK.1.1 hK.1.2.1 dL_law_339 (lv_at hl 1 rfl) ?_
          refine lv_bipush (v := 6) hK.1.1 hK.1.2.1 dL_law_341 (by decide) ?_
          refine lv_iadd hK.1.1 hK.1.2.1 dL_law_343 ?_
          rw [show nI i + 6 = nI (i + 6) from nI_add i 6]
          refine va_ti hK.1.1 hK.1.2.1 hT hS (vp_in_nI (show i + 6 < n9 by omega) (by omega)) (v := .int (sf (i + 6))) (by rw [nI_clamp (by omega)]) dL_law_344 ?_
          refine lv_if_eq (tgt := 352) hK.1.1 hK.1.2.1 dL_law_345 (by decide) (fun _ => ?_) (fun c => absurd c278_7 c)
          refine lv_iconst (v := 0) hK.1.1 hK.1.2.1 dL_law_352 (by decide) ?_
          refine gk_callV0 (n := 6) (As := [.int (sf (i + 1)), .int (sf (i + 2)), .int (sf (i + 3)), .int 1, .int 1, .int 0]) (rest := []) hK (c_X5_setOld l hR (i := (sf (i + 1))) (kp := (sf (i + 2))) (gr := (sf (i + 3))) (b1 := 1) (b2 := 1) (b3 := 0) (Or.inr rfl) (Or.inr rfl) (Or.inl rfl)) (gk_gV q_7_6 q_7_7 q_7_8 q_1_5 q_7_9) ⟨rfl, by decide +kernel, by decide +kernel, by decide +kernel⟩ ⟨(Nat.le_of_ble_eq_true rfl), (Nat.le_of_ble_eq_true rfl)⟩ hP hS (gk_recv hK.2.2.1.1 hP hR.2.2.2.2.2.2.2.2.1 rfl) rfl hl.1 rfl (Nat.le_of_ble_eq_true rfl) dL_law_353 ⟨(by show (cells + 16) + 0 ≤ 601024; omega), (by show (slots + 128) + 0 ≤ 7293034; omega)⟩ (fun v G1 H locs hw hP hS => ?_)
          obtain ⟨rfl, hw⟩ := hw
          rcases hw with ⟨r2, hr2, e2, hok2, hR⟩ | ⟨ho2, hR⟩ | ⟨hno2, hnk2, hR⟩
          · exact False.elim (hnk hok2)
          · exact False.elim (hno ho2)
          · refine W.eq (g2 := F0 m 356 ls []) rfl ?_
            refine lv_aload_n hK.1.1 hK.1.2.1 dL_law_356 rfl (lv_at hl 4 rfl) ?_
            refine gk_callV0 (n := 0) (As := []) (rest := []) hK (c_X5_thrown l hR) (gk_gV q_6_14 q_6_15 q_6_16 q_1_5 q_6_17) ⟨rfl, by decide +kernel, by decide +kernel, by decide +kernel⟩ ⟨(Nat.le_of_ble_eq_true rfl), (Nat.le_of_ble_eq_true rfl)⟩ hP hS (gk_recv hK.2.2.1.1 hP hR.2.2.2.2.2.2.2.2.1 rfl) rfl hl.1 rfl (Nat.le_of_ble_eq_true rfl) dL_law_357 ⟨(by show ((cells + 16) + 0) + 0 ≤ 601024; omega), (by show ((slots + 128) + 0) + 0 ≤ 7293034; omega)⟩ (fun v G1 H locs hw hP hS => ?_)
            obtain ⟨rfl, hG9⟩ := hw
            rw [hG9] at hP
            refine W.eq (g2 := F0 m 360 ls [.int 2]) rfl ?_
            refine lv_iload hK.1.1 hK.1.2.1 dL_law_360 (lv_at hl 0 rfl) ?_
            refine lv_icmp_eq (tgt := 367) hK.1.1 hK.1.2.1 dL_law_362 (by decide) (fun _ => ?_) (fun c => absurd (by decide) c)
            refine lv_goto (tgt := 1428) hK.1.1 hK.1.2.1 dL_law_367 (by decide) ?_
            exact W.widen (show (((cells + 16) + 0) + 0) ≤ cells + 100 by omega) (show (((slots + 128) + 0) + 0) ≤ slots + 8000 by omega) (kk ls _ _ _ _ _ _ _ _ _ _ _ _ _ _ _ _ _ _ _ _ _ _ hP hS hR (xI_mono hI) (lv_sub hl [1, 2, 3, 4, 5] rfl))
      · refine lv_iconst (v := 1) hK.1.1 hK.1.2.1 dL_law_281 (by decide) ?_
        refine lv_goto (tgt := 286) hK.1.1 hK.1.2.1 dL_law_282 (by decide) ?_
        refine gk_callSW (n := 7) (As := [.ref (ly_a y 0), .int (sf (i + 1)), .int (sf (i + 2)), .int (sf (i + 3)), .int 1, .int 1, .int 1]) (rest := []) hK (c_L_setOld l hfl hR (i := (sf (i + 1))) (kp := (sf (i + 2))) (gr := (sf (i + 3))) (b1 := 1) (b2 := 1) (b3 := 1) (Or.inr rfl) (Or.inr rfl) (Or.inr rfl)) (gk_gS q_6_18 q_6_19 q_5_0 q_6_20) ⟨by decide +kernel, by decide +kernel, by decide +kernel⟩ ⟨(Nat.le_of_ble_eq_true rfl), (Nat.le_of_ble_eq_true rfl)⟩ hP hS rfl hl.1 rfl (Nat.le_of_ble_eq_true rfl) dL_law_286 ⟨(by show cells + 16 ≤ 601024; omega), (by show slots + 128 ≤ 7293034; omega)⟩ (fun v G1 H locs hw hP hS => ?_)
        rcases hw with ⟨r, hr, e1, hok, rfl, hR⟩ | ⟨ho, rfl, hR⟩ | ⟨⟨hno, hnk⟩, rfl, hR⟩
        · refine W.eq (g2 := F0 m 289 ls [.int 0]) rfl ?_
          refine lv_istore (lv' := [(5, .int 0), (4, .int (nI i)), (0, .ref sc), (1, .ref (ly_a y 0)), (2, .ref (ly_a y 5)), (3, .ref (ly_a y 4))]) hK.1.1 hK.1.2.1 dL_law_289 hl (by decide) rfl (fun ls hl => ?_)
          refine lv_aload_n hK.1.1 hK.1.2.1 dL_law_291 rfl (lv_at hl 4 rfl) ?_
          refine lv_aload_n hK.1.1 hK.1.2.1 dL_law_292 rfl (lv_at hl 2 rfl) ?_
          refine lv_iload hK.1.1 hK.1.2.1 dL_law_293 (lv_at hl 1 rfl) ?_
          refine lv_iconst (v := 1) hK.1.1 hK.1.2.1 dL_law_295 (by decide) ?_
          refine lv_iadd hK.1.1 hK.1.2.1 dL_law_296 ?_
          rw [show nI i + 1 = nI (i + 1) from nI_add i 1]
          refine va_ti hK.1.1 hK.1.2.1 hT hS (vp_in_nI (show i + 1 < n9 by omega) (by omega)) (v := .int (sf (i + 1))) (by rw [nI_clamp (by omega)]) dL_law_297 ?_
          refine lv_aload_n hK.1.1 hK.1.2.1 dL_law_298 rfl (lv_at hl 2 rfl) ?_
          refine lv_iload hK.1.1 hK.1.2.1 dL_law_299 (lv_at hl 1 rfl) ?_
          refine lv_iconst (v := 2) hK.1.1 hK.1.2.1 dL_law_301 (by decide) ?_
          refine lv_iadd hK.1.1 hK.1.2.1 dL_law_302 ?_
          rw [show nI i + 2 = nI (i + 2) from nI_add i 2]
          refine va_ti hK.1.1 hK.1.2.1 hT hS (vp_in_nI (show i + 2 < n9 by omega) (by omega)) (v := .int (sf (i + 2))) (by rw [nI_clamp (by omega)]) dL_law_303 ?_
          refine lv_aload_n hK.1.1 hK.1.2.1 dL_law_304 rfl (lv_at hl 2 rfl) ?_
          refine lv_iload hK.1.1 hK.1.2.1 dL_law_305 (lv_at hl 1 rfl) ?_
          refine lv_iconst (v := 3) hK.1.1 hK.1.2.1 dL_law_307 (by decide) ?_
          refine lv_iadd hK.1.1 hK.1.2.1 dL_law_308 ?_
          rw [show nI i + 3 = nI (i + 3) from nI_add i 3]
          refine va_ti hK.1.1 hK.1.2.1 hT hS (vp_in_nI (show i + 3 < n9 by omega) (by omega)) (v := .int (sf (i + 3))) (by rw [nI_clamp (by omega)]) dL_law_309 ?_
          refine lv_aload_n hK.1.1 hK.1.2.1 dL_law_310 rfl (lv_at hl 2 rfl) ?_
          refine lv_iload hK.1.1 hK.1.2.1 dL_law_311 (lv_at hl 1 rfl) ?_
          refine lv_iconst (v := 4) hK.1.1 hK.1.2.1 dL_law_313 (by decide) ?_
          refine lv_iadd hK.1.1 hK.1.2.1 dL_law_314 ?_
          rw [show nI i + 4 = nI (i + 4) from nI_add i 4]
          refine va_ti hK.1.1 hK.1.2.1 hT hS (vp_in_nI (show i + 4 < n9 by omega) (by omega)) (v := .int (sf (i + 4))) (by rw [nI_clamp (by omega)]) dL_law_315 ?_
          refine lv_if_eq (tgt := 323) hK.1.1 hK.1.2.1 dL_law_316 (by decide) (fun c => absurd c c249_1) (fun _ => ?_)
          refine lv_iconst (v := 1) hK.1.1 hK.1.2.1 dL_law_319 (by decide) ?_
          refine lv_goto (tgt := 324) hK.1.1 hK.1.2.1 dL_law_320 (by decide) ?_
          refine lv_aload_n hK.1.1 hK.1.2.1 dL_law_324 rfl (lv_at hl 2 rfl) ?_
          refine lv_iload hK.1.1 hK.1.2.1 dL_law_325 (lv_at hl 1 rfl) ?_
          refine lv_iconst (v := 5) hK.1.1 hK.1.2.1 dL_law_327 (by decide) ?_
          refine lv_iadd hK.1.1 hK.1.2.1 dL_law_328 ?_
          rw [show nI i + 5 = nI (i + 5) from nI_add i 5]
          refine va_ti hK.1.1 hK.1.2.1 hT hS (vp_in_nI (show i + 5 < n9 by omega) (by omega)) (v := .int (sf (i + 5))) (by rw [nI_clamp (by omega)]) dL_law_329 ?_
          refine lv_if_eq (tgt := 337) hK.1.1 hK.1.2.1 dL_law_330 (by decide) (fun c => absurd c c263_5) (fun _ => ?_)
          refine lv_iconst (v := 1) hK.1.1 hK.1.2.1 dL_law_333 (by decide) ?_
          refine lv_goto (tgt := 338) hK.1.1 hK.1.2.1 dL_law_334 (by decide) ?_
          refine lv_aload_n hK.1.1 hK.1.2.1 dL_law_338 rfl (lv_at hl 2 rfl) ?_
          refine lv_iload hK.1.1 hK.1.2.1 dL_law_339 (lv_at hl 1 rfl) ?_
          refine lv_bipush (v := 6) hK.1.1 hK.1.2.1 dL_law_341 (by decide) ?_
          refine lv_iadd hK.1.1 hK.1.2.1 dL_law_343 ?_
          rw [show nI i + 6 = nI (i + 6) from nI_add i 6]
          refine va_ti hK.1.1 hK.1.2.1 hT hS (vp_in_nI (show i + 6 < n9 by omega) (by omega)) (v := .int (sf (i + 6))) (by rw [nI_clamp (by omega)]) dL_law_344 ?_
          refine lv_if_eq (tgt := 352) hK.1.1 hK.1.2.1 dL_law_345 (by decide) (fun c => absurd c c278_7) (fun _ => ?_)
          refine lv_iconst (v := 1) hK.1.1 hK.1.2.1 dL_law_348 (by decide) ?_
          refine lv_goto (tgt := 353) hK.1.1 hK.1.2.1 dL_law_349 (by decide) ?_
          refine gk_callV0 (n := 6) (As := [.int (sf (i + 1)), .int (sf (i + 2)), .int (sf (i + 3)), .int 1, .int 1, .int 1]) (rest := []) hK (c_X5_setOld l hR (i := (sf (i + 1))) (kp := (sf (i + 2))) (gr := (sf (i + 3))) (b1 := 1) (b2 := 1) (b3 := 1) (Or.inr rfl) (Or.inr rfl) (Or.inr rfl)) (gk_gV q_7_6 q_7_7 q_7_8 q_1_5 q_7_9) ⟨rfl, by decide +kernel, by decide +kernel, by decide +kernel⟩ ⟨(Nat.le_of_ble_eq_true rfl), (Nat.le_of_ble_eq_true rfl)⟩ hP hS (gk_recv hK.2.2.1.1 hP hR.2.2.2.2.2.2.2.2.1 rfl) rfl hl.1 rfl (Nat.le_of_ble_eq_true rfl) dL_law_353 ⟨(by show (cells + 16) + 0 ≤ 601024; omega), (by show (slots + 128) + 0 ≤ 7293034; omega)⟩ (fun v G1 H locs hw hP hS => ?_)
          obtain ⟨rfl, hw⟩ := hw
          rcases hw with ⟨r2, hr2, e2, hok2, hR⟩ | ⟨ho2, hR⟩ | ⟨hno2, hnk2, hR⟩
          · obtain rfl : r = r2 := (nI_eq (by omega) (by omega)).mp (e1.symm.trans e2)
            refine W.eq (g2 := F0 m 356 ls []) rfl ?_
            refine lv_aload_n hK.1.1 hK.1.2.1 dL_law_356 rfl (lv_at hl 4 rfl) ?_
            refine gk_callV0 (n := 0) (As := []) (rest := []) hK (c_X5_thrown l hR) (gk_gV q_6_14 q_6_15 q_6_16 q_1_5 q_6_17) ⟨rfl, by decide +kernel, by decide +kernel, by decide +kernel⟩ ⟨(Nat.le_of_ble_eq_true rfl), (Nat.le_of_ble_eq_true rfl)⟩ hP hS (gk_recv hK.2.2.1.1 hP hR.2.2.2.2.2.2.2.2.1 rfl) rfl hl.1 rfl (Nat.le_of_ble_eq_true rfl) dL_law_357 ⟨(by show ((cells + 16) + 0) + 0 ≤ 601024; omega), (by show ((slots + 128) + 0) + 0 ≤ 7293034; omega)⟩ (fun v G1 H locs hw hP hS => ?_)
            obtain ⟨rfl, hG9⟩ := hw
            rw [hG9] at hP
            refine W.eq (g2 := F0 m 360 ls [.int 0]) rfl ?_
            refine lv_iload hK.1.1 hK.1.2.1 dL_law_360 (lv_at hl 0 rfl) ?_
            refine lv_icmp_eq (tgt := 367) hK.1.1 hK.1.2.1 dL_law_362 (by decide) (fun _ => ?_) (fun c => absurd (by decide) c)
            refine lv_goto (tgt := 1428) hK.1.1 hK.1.2.1 dL_law_367 (by decide) ?_
            exact W.widen (show (((cells + 16) + 0) + 0) ≤ cells + 100 by omega) (show (((slots + 128) + 0) + 0) ≤ slots + 8000 by omega) (kk ls _ _ _ _ _ _ _ _ _ _ _ _ _ _ _ _ _ _ _ _ _ _ hP hS hR (xI_setOld hI hr hok (Or.inr rfl) (Or.inr rfl) (Or.inr rfl)) (lv_sub hl [1, 2, 3, 4, 5] rfl))
          · exact False.elim (absurd (e1 ▸ ho2) (rg_out_no hr (by decide)))
          · exact False.elim (hnk2 hok)
        · refine W.eq (g2 := F0 m 289 ls [.int 1]) rfl ?_
          refine lv_istore (lv' := [(5, .int 1), (4, .int (nI i)), (0, .ref sc), (1, .ref (ly_a y 0)), (2, .ref (ly_a y 5)), (3, .ref (ly_a y 4))]) hK.1.1 hK.1.2.1 dL_law_289 hl (by decide) rfl (fun ls hl => ?_)
          refine lv_aload_n hK.1.1 hK.1.2.1 dL_law_291 rfl (lv_at hl 4 rfl) ?_
          refine lv_aload_n hK.1.1 hK.1.2.1 dL_law_292 rfl (lv_at hl 2 rfl) ?_
          refine lv_iload hK.1.1 hK.1.2.1 dL_law_293 (lv_at hl 1 rfl) ?_
          refine lv_iconst (v := 1) hK.1.1 hK.1.2.1 dL_law_295 (by decide) ?_
          refine lv_iadd hK.1.1 hK.1.2.1 dL_law_296 ?_
          rw [show nI i + 1 = nI (i + 1) from nI_add i 1]
          refine va_ti hK.1.1 hK.1.2.1 hT hS (vp_in_nI (show i + 1 < n9 by omega) (by omega)) (v := .int (sf (i + 1))) (by rw [nI_clamp (by omega)]) dL_law_297 ?_
          refine lv_aload_n hK.1.1 hK.1.2.1 dL_law_298 rfl (lv_at hl 2 rfl) ?_
          refine lv_iload hK.1.1 hK.1.2.1 dL_law_299 (lv_at hl 1 rfl) ?_
          refine lv_iconst (v := 2) hK.1.1 hK.1.2.1 dL_law_301 (by decide) ?_
          refine lv_iadd hK.1.1 hK.1.2.1 dL_law_302 ?_
          rw [show nI i + 2 = nI (i + 2) from nI_add i 2]
          refine va_ti hK.1.1 hK.1.2.1 hT hS (vp_in_nI (show i + 2 < n9 by omega) (by omega)) (v := .int (sf (i + 2))) (by rw [nI_clamp (by omega)]) dL_law_303 ?_
          refine lv_aload_n hK.1.1 hK.1.2.1 dL_law_304 rfl (lv_at hl 2 rfl) ?_
          refine lv_iload hK.1.1 hK.1.2.1 dL_law_305 (lv_at hl 1 rfl) ?_
          refine lv_iconst (v := 3) hK.1.1 hK.1.2.1 dL_law_307 (by decide) ?_
          refine lv_iadd hK.1.1 hK.1.2.1 dL_law_308 ?_
          rw [show nI i + 3 = nI (i + 3) from nI_add i 3]
          refine va_ti hK.1.1 hK.1.2.1 hT hS (vp_in_nI (show i + 3 < n9 by omega) (by omega)) (v := .int (sf (i + 3))) (by rw [nI_clamp (by omega)]) dL_law_309 ?_
          refine lv_aload_n hK.1.1 hK.1.2.1 dL_law_310 rfl (lv_at hl 2 rfl) ?_
          refine lv_iload hK.1.1 hK.1.2.1 dL_law_311 (lv_at hl 1 rfl) ?_
          refine lv_iconst (v := 4) hK.1.1 hK.1.2.1 dL_law_313 (by decide) ?_
          refine lv_iadd hK.1.1 hK.1.2.1 dL_law_314 ?_
          rw [show nI i + 4 = nI (i + 4) from nI_add i 4]
          refine va_ti hK.1.1 hK.1.2.1 hT hS (vp_in_nI (show i + 4 < n9 by omega) (by omega)) (v := .int (sf (i + 4))) (by rw [nI_clamp (by omega)]) dL_law_315 ?_
          refine lv_if_eq (tgt := 323) hK.1.1 hK.1.2.1 dL_law_316 (by decide) (fun c => absurd c c249_1) (fun _ => ?_)
          refine lv_iconst (v := 1) hK.1.1 hK.1.2.1 dL_law_319 (by decide) ?_
          refine lv_goto (tgt := 324) hK.1.1 hK.1.2.1 dL_law_320 (by decide) ?_
          refine lv_aload_n hK.1.1 hK.1.2.1 dL_law_324 rfl (lv_at hl 2 rfl) ?_
          refine lv_iload hK.1.1 hK.1.2.1 dL_law_325 (lv_at hl 1 rfl) ?_
          refine lv_iconst (v := 5) hK.1.1 hK.1.2.1 dL_law_327 (by decide) ?_
          refine lv_iadd hK.1.1 hK.1.2.1 dL_law_328 ?_
          rw [show nI i + 5 = nI (i + 5) from nI_add i 5]
          refine va_ti hK.1.1 hK.1.2.1 hT hS (vp_in_nI (show i + 5 < n9 by omega) (by omega)) (v := .int (sf (i + 5))) (by rw [nI_clamp (by omega)]) dL_law_329 ?_
          refine lv_if_eq (tgt := 337) hK.1.1 hK.1.2.1 dL_law_330 (by decide) (fun c => absurd c c263_5) (fun _ => ?_)
          refine lv_iconst (v := 1) hK.1.1 hK.1.2.1 dL_law_333 (by decide) ?_
          refine lv_goto (tgt := 338) hK.1.1 hK.1.2.1 dL_law_334 (by decide) ?_
          refine lv_aload_n hK.1.1 hK.1.2.1 dL_law_338 rfl (lv_at hl 2 rfl) ?_
          refine lv_iload hK.1.1 hK.1.2.1 dL_law_339 (lv_at hl 1 rfl) ?_
          refine lv_bipush (v := 6) hK.1.1 hK.1.2.1 dL_law_341 (by decide) ?_
          refine lv_iadd hK.1.1 hK.1.2.1 dL_law_343 ?_
          rw [show nI i + 6 = nI (i + 6) from nI_add i 6]
          refine va_ti hK.1.1 hK.1.2.1 hT hS (vp_in_nI (show i + 6 < n9 by omega) (by omega)) (v := .int (sf (i + 6))) (by rw [nI_clamp (by omega)]) dL_law_344 ?_
          refine lv_if_eq (tgt := 352) hK.1.1 hK.1.2.1 dL_law_345 (by decide) (fun c => absurd c c278_7) (fun _ => ?_)
          refine lv_iconst (v := 1) hK.1.1 hK.1.2.1 dL_law_348 (by decide) ?_
          refine lv_goto (tgt := 353) hK.1.1 hK.1.2.1 dL_law_349 (by decide) ?_
          refine gk_callV0 (n := 6) (As := [.int (sf (i + 1)), .int (sf (i + 2)), .int (sf (i + 3)), .int 1, .int 1, .int 1]) (rest := []) hK (c_X5_setOld l hR (i := (sf (i + 1))) (kp := (sf (i + 2))) (gr := (sf (i + 3))) (b1 := 1) (b2 := 1) (b3 := 1) (Or.inr rfl) (Or.inr rfl) (Or.inr rfl)) (gk_gV q_7_6 q_7_7 q_7_8 q_1_5 q_7_9) ⟨rfl, by decide +kernel, by decide +kernel, by decide +kernel⟩ ⟨(Nat.le_of_ble_eq_true rfl), (Nat.le_of_ble_eq_true rfl)⟩ hP hS (gk_recv hK.2.2.1.1 hP hR.2.2.2.2.2.2.2.2.1 rfl) rfl hl.1 rfl (Nat.le_of_ble_eq_true rfl) dL_law_353 ⟨(by show (cells + 16) + 0 ≤ 601024; omega), (by show (slots + 128) + 0 ≤ 7293034; omega)⟩ (fun v G1 H locs hw hP hS => ?_)
          obtain ⟨rfl, hw⟩ := hw
          rcases hw with ⟨r2, hr2, e2, hok2, hR⟩ | ⟨ho2, hR⟩ | ⟨hno2, hnk2, hR⟩
          · exact False.elim (absurd (e2 ▸ ho) (rg_out_no hr2 (by decide)))
          · refine W.eq (g2 := F0 m 356 ls []) rfl ?_
            refine lv_aload_n hK.1.1 hK.1.2.1 dL_law_356 rfl (lv_at hl 4 rfl) ?_
            refine gk_callV0 (n := 0) (As := []) (rest := []) hK (c_X5_thrown l hR) (gk_gV q_6_14 q_6_15 q_6_16 q_1_5 q_6_17) ⟨rfl, by decide +kernel, by decide +kernel, by decide +kernel⟩ ⟨(Nat.le_of_ble_eq_true rfl), (Nat.le_of_ble_eq_true rfl)⟩ hP hS (gk_recv hK.2.2.1.1 hP hR.2.2.2.2.2.2.2.2.1 rfl) rfl hl.1 rfl (Nat.le_of_ble_eq_true rfl) dL_law_357 ⟨(by show ((cells + 16) + 0) + 0 ≤ 601024; omega), (by show ((slots + 128) + 0) + 0 ≤ 7293034; omega)⟩ (fun v G1 H locs hw hP hS => ?_)
            obtain ⟨rfl, hG9⟩ := hw
            rw [hG9] at hP
            refine W.eq (g2 := F0 m 360 ls [.int 1]) rfl ?_
            refine lv_iload hK.1.1 hK.1.2.1 dL_law_360 (lv_at hl 0 rfl) ?_
            refine lv_icmp_eq (tgt := 367) hK.1.1 hK.1.2.1 dL_law_362 (by decide) (fun _ => ?_) (fun c => absurd (by decide) c)
            refine lv_goto (tgt := 1428) hK.1.1 hK.1.2.1 dL_law_367 (by decide) ?_
            exact W.widen (show (((cells + 16) + 0) + 0) ≤ cells + 100 by omega) (show (((slots + 128) + 0) + 0) ≤ slots + 8000 by omega) (kk ls _ _ _ _ _ _ _ _ _ _ _ _ _ _ _ _ _ _ _ _ _ _ hP hS hR (xI_mono hI) (lv_sub hl [1, 2, 3, 4, 5] rfl))
          · exact False.elim (hno2 ho)
        · refine W.eq (g2 := F0 m 289 ls [.int 2]) rfl ?_
          refine lv_istore (lv' := [(5, .int 2), (4, .int (nI i)), (0, .ref sc), (1, .ref (ly_a y 0)), (2, .ref (ly_a y 5)), (3, .ref (ly_a y 4))]) hK.1.1 hK.1.2.1 dL_law_289 hl (by decide) rfl (fun ls hl => ?_)
          refine lv_aload_n hK.1.1 hK.1.2.1 dL_law_291 rfl (lv_at hl 4 rfl) ?_
          refine lv_aload_n hK.1.1 hK.1.2.1 dL_law_292 rfl (lv_at hl 2 rfl) ?_
          refine lv_iload hK.1.1 hK.1.2.1 dL_law_293 (lv_at hl 1 rfl) ?_
          refine lv_iconst (v := 1) hK.1.1 hK.1.2.1 dL_law_295 (by decide) ?_
          refine lv_iadd hK.1.1 hK.1.2.1 dL_law_296 ?_
          rw [show nI i + 1 = nI (i + 1) from nI_add i 1]
          refine va_ti hK.1.1 hK.1.2.1 hT hS (vp_in_nI (show i + 1 < n9 by omega) (by omega)) (v := .int (sf (i + 1))) (by rw [nI_clamp (by omega)]) dL_law_297 ?_
          refine lv_aload_n hK.1.1 hK.1.2.1 dL_law_298 rfl (lv_at hl 2 rfl) ?_
          refine lv_iload hK.1.1 hK.1.2.1 dL_law_299 (lv_at hl 1 rfl) ?_
          refine lv_iconst (v := 2) hK.1.1 hK.1.2.1 dL_law_301 (by decide) ?_
          refine lv_iadd hK.1.1 hK.1.2.1 dL_law_302 ?_
          rw [show nI i + 2 = nI (i + 2) from nI_add i 2]
          refine va_ti hK.1.1 hK.1.2.1 hT hS (vp_in_nI (show i + 2 < n9 by omega) (by omega)) (v := .int (sf (i + 2))) (by rw [nI_clamp (by omega)]) dL_law_303 ?_
          refine lv_aload_n hK.1.1 hK.1.2.1 dL_law_304 rfl (lv_at hl 2 rfl) ?_
          refine lv_iload hK.1.1 hK.1.2.1 dL_law_305 (lv_at hl 1 rfl) ?_
          refine lv_iconst (v := 3) hK.1.1 hK.1.2.1 dL_law_307 (by decide) ?_
          refine lv_iadd hK.1.1 hK.1.2.1 dL_law_308 ?_
          rw [show nI i + 3 = nI (i + 3) from nI_add i 3]
          refine va_ti hK.1.1 hK.1.2.1 hT hS (vp_in_nI (show i + 3 < n9 by omega) (by omega)) (v := .int (sf (i + 3))) (by rw [nI_clamp (by omega)]) dL_law_309 ?_
          refine lv_aload_n hK.1.1 hK.1.2.1 dL_law_310 rfl (lv_at hl 2 rfl) ?_
          refine lv_iload hK.1.1 hK.1.2.1 dL_law_311 (lv_at hl 1 rfl) ?_
          refine lv_iconst (v := 4) hK.1.1 hK.1.2.1 dL_law_313 (by decide) ?_
          refine lv_iadd hK.1.1 hK.1.2.1 dL_law_314 ?_
          rw [show nI i + 4 = nI (i + 4) from nI_add i 4]
          refine va_ti hK.1.1 hK.1.2.1 hT hS (vp_in_nI (show i + 4 < n9 by omega) (by omega)) (v := .int (sf (i + 4))) (by rw [nI_clamp (by omega)]) dL_law_315 ?_
          refine lv_if_eq (tgt := 323) hK.1.1 hK.1.2.1 dL_law_316 (by decide) (fun c => absurd c c249_1) (fun _ => ?_)
          refine lv_iconst (v := 1) hK.1.1 hK.1.2.1 dL_law_319 (by decide) ?_
          refine lv_goto (tgt := 324) hK.1.1 hK.1.2.1 dL_law_320 (by decide) ?_
          refine lv_aload_n hK.1.1 hK.1.2.1 dL_law_324 rfl (lv_at hl 2 rfl) ?_
          refine lv_iload hK.1.1 hK.1.2.1 dL_law_325 (lv_at hl 1 rfl) ?_
          refine lv_iconst (v := 5) hK.1.1 hK.1.2.1 dL_law_327 (by decide) ?_
          refine lv_iadd hK.1.1 hK.1.2.1 dL_law_328 ?_
          rw [show nI i + 5 = nI (i + 5) from nI_add i 5]
          refine va_ti hK.1.1 hK.1.2.1 hT hS (vp_in_nI (show i + 5 < n9 by omega) (by omega)) (v := .int (sf (i + 5))) (by rw [nI_clamp (by omega)]) dL_law_329 ?_
          refine lv_if_eq (tgt := 337) hK.1.1 hK.1.2.1 dL_law_330 (by decide) (fun c => absurd c c263_5) (fun _ => ?_)
          refine lv_iconst (v := 1) hK.1.1 hK.1.2.1 dL_law_333 (by decide) ?_
          refine lv_goto (tgt := 338) hK.1.1 hK.1.2.1 dL_law_334 (by decide) ?_
          refine lv_aload_n hK.1.1 hK.1.2.1 dL_law_338 rfl (lv_at hl 2 rfl) ?_
          refine lv_iload hK.1.1 hK.1.2.1 dL_law_339 (lv_at hl 1 rfl) ?_
          refine lv_bipush (v := 6) hK.1.1 hK.1.2.1 dL_law_341 (by decide) ?_
          refine lv_iadd hK.1.1 hK.1.2.1 dL_law_343 ?_
          rw [show nI i + 6 = nI (i + 6) from nI_add i 6]
          refine va_ti hK.1.1 hK.1.2.1 hT hS (vp_in_nI (show i + 6 < n9 by omega) (by omega)) (v := .int (sf (i + 6))) (by rw [nI_clamp (by omega)]) dL_law_344 ?_
          refine lv_if_eq (tgt := 352) hK.1.1 hK.1.2.1 dL_law_345 (by decide) (fun c => absurd c c278_7) (fun _ => ?_)
          refine lv_iconst (v := 1) hK.1.1 hK.1.2.1 dL_law_348 (by decide) ?_
          refine lv_goto (tgt := 353) hK.1.1 hK.1.2.1 dL_law_349 (by decide) ?_
          refine gk_callV0 (n := 6) (As := [.int (sf (i + 1)), .int (sf (i + 2)), .int (sf (i + 3)), .int 1, .int 1, .int 1]) (rest := []) hK (c_X5_setOld l hR (i := (sf (i + 1))) (kp := (sf (i + 2))) (gr := (sf (i + 3))) (b1 := 1) (b2 := 1) (b3 := 1) (Or.inr rfl) (Or.inr rfl) (Or.inr rfl)) (gk_gV q_7_6 q_7_7 q_7_8 q_1_5 q_7_9) ⟨rfl, by decide +kernel, by decide +kernel, by decide +kernel⟩ ⟨(Nat.le_of_ble_eq_true rfl), (Nat.le_of_ble_eq_true rfl)⟩ hP hS (gk_recv hK.2.2.1.1 hP hR.2.2.2.2.2.2.2.2.1 rfl) rfl hl.1 rfl (Nat.le_of_ble_eq_true rfl) dL_law_353 ⟨(by show (cells + 16) + 0 ≤ 601024; omega), (by show (slots + 128) + 0 ≤ 7293034; omega)⟩ (fun v G1 H locs hw hP hS => ?_)
          obtain ⟨rfl, hw⟩ := hw
          rcases hw with ⟨r2, hr2, e2, hok2, hR⟩ | ⟨ho2, hR⟩ | ⟨hno2, hnk2, hR⟩
          · exact False.elim (hnk hok2)
          · exact False.elim (hno ho2)
          · refine W.eq (g2 := F0 m 356 ls []) rfl ?_
            refine lv_aload_n hK.1.1 hK.1.2.1 dL_law_356 rfl (lv_at hl 4 rfl) ?_
            refine gk_callV0 (n := 0) (As := []) (rest := []) hK (c_X5_thrown l hR) (gk_gV q_6_14 q_6_15 q_6_16 q_1_5 q_6_17) ⟨rfl, by decide +kernel, by decide +kernel, by decide +kernel⟩ ⟨(Nat.le_of_ble_eq_true rfl), (Nat.le_of_ble_eq_true rfl)⟩ hP hS (gk_recv hK.2.2.1.1 hP hR.2.2.2.2.2.2.2.2.1 rfl) rfl hl.1 rfl (Nat.le_of_ble_eq_true rfl) dL_law_357 ⟨(by show ((cells + 16) + 0) + 0 ≤ 601024; omega), (by show ((slots + 128) + 0) + 0 ≤ 7293034; omega)⟩ (fun v G1 H locs hw hP hS => ?_)
            obtain ⟨rfl, hG9⟩ := hw
            rw [hG9] at hP
            refine W.eq (g2 := F0 m 360 ls [.int 2]) rfl ?_
            refine lv_iload hK.1.1 hK.1.2.1 dL_law_360 (lv_at hl 0 rfl) ?_
            refine lv_icmp_eq (tgt := 367) hK.1.1 hK.1.2.1 dL_law_362 (by decide) (fun _ => ?_) (fun c => absurd (by decide) c)
            refine lv_goto (tgt := 1428) hK.1.1 hK.1.2.1 dL_law_367 (by decide) ?_
            exact W.widen (show (((cells + 16) + 0) + 0) ≤ cells + 100 by omega) (show (((slots + 128) + 0) + 0) ≤ slots + 8000 by omega) (kk ls _ _ _ _ _ _ _ _ _ _ _ _ _ _ _ _ _ _ _ _ _ _ hP hS hR (xI_mono hI) (lv_sub hl [1, 2, 3, 4, 5] rfl))
set_option maxHeartbeats 4000000 in
set_option maxRecDepth 100000 in
theorem lw_2 {p : Program} {l : Launch} {e : Env} {s : State} {m : MethodId} {args : Array Value} {below : List Frame} {meth : Method} {c : Code} {H : Heap} {locs : List Loc} {cells slots : Nat} {Q : State → Prop} {ls : Array Slot} {y : ly_T} {A : Nat → Prop} {G : gk_G} {td : Int32} {ru : Nat → Nat → Int32} {fr lv : Nat → Nat} {lt et tl : Nat → Int32} {hf hp : Nat → Option Nat} {ol : Nat → List Nat} {PS : Nat → Prop} {pf : Nat → Nat → Int32} {ov : Int64} {md mq mt : Int32} {mv : Nat → Nat → Int32} {row : List Nat} {fi : Nat → Nat} {N i n9 sc : Nat} {sf : Nat → Int32} (hfl : l.stackTraces = false) (hK : gk_K p s m c args cL_law RL 7 y A) (hT : va_T .int sc n9 (fun j => .int (sf j)) A s s.heap) (hP : gk_P (ly_D y) A G H) (hS : va_S A s.heap H locs) (hR : rp y G td ru fr lv lt et tl hf hp ol PS pf ov md mq mt mv) (hI : xI td ru fr (lv, lt, et, tl, ol, PS, pf) hf hp row fi md mq mv N) (hN : N < 512) (hc : cells + 100 ≤ 601024) (hs : slots + 8000 ≤ 7293034) (hi : i + 7 ≤ n9) (hn9 : n9 ≤ 3584) (hl : lv_has ls 7 [(4, .int (nI i)), (0, .ref sc), (1, .ref (ly_a y 0)), (2, .ref (ly_a y 5)), (3, .ref (ly_a y 4))]) (kk : ∀ (ls : Array Slot) (H : Heap) (locs : List Loc) (G : gk_G) (td : Int32) (ru : Nat → Nat → Int32) (fr lv : Nat → Nat) (lt et tl : Nat → Int32) (hf hp : Nat → Option Nat) (ol : Nat → List Nat) (PS : Nat → Prop) (pf : Nat → Nat → Int32) (ov : Int64) (md mq mt : Int32) (mv : Nat → Nat → Int32) (row : List Nat) (fi : Nat → Nat), gk_P (ly_D y) A G H → va_S A s.heap H locs → rp y G td ru fr lv lt et tl hf hp ol PS pf ov md mq mt mv → xI td ru fr (lv, lt, et, tl, ol, PS, pf) hf hp row fi md mq mv (N + 1) → lv_has ls 7 [(4, .int (nI i)), (0, .ref sc), (1, .ref (ly_a y 0)), (2, .ref (ly_a y 5)), (3, .ref (ly_a y 4))] → W p l e { frames := 12, cells := 601024, slots := 7293034, locals := 444 } s m args below meth c H locs (cells + 100) (slots + 8000) Q (F0 m 1428 ls [])) : W p l e { frames := 12, cells := 601024, slots := 7293034, locals := 444 } s m args below meth c H locs cells slots Q (F0 m 370 ls []) := by
  refine lv_aload_n hK.1.1 hK.1.2.1 dL_law_370 rfl (lv_at hl 2 rfl) ?_
  refine lv_aload_n hK.1.1 hK.1.2.1 dL_law_371 rfl (lv_at hl 1 rfl) ?_
  refine lv_iload hK.1.1 hK.1.2.1 dL_law_372 (lv_at hl 0 rfl) ?_
  refine lv_iconst (v := 1) hK.1.1 hK.1.2.1 dL_law_374 (by decide) ?_
  refine lv_iadd hK.1.1 hK.1.2.1 dL_law_375 ?_
  rw [show nI i + 1 = nI (i + 1) from nI_add i 1]
  refine va_ti hK.1.1 hK.1.2.1 hT hS (vp_in_nI (show i + 1 < n9 by omega) (by omega)) (v := .int (sf (i + 1))) (by rw [nI_clamp (by omega)]) dL_law_376 ?_
  refine lv_aload_n hK.1.1 hK.1.2.1 dL_law_377 rfl (lv_at hl 1 rfl) ?_
  refine lv_iload hK.1.1 hK.1.2.1 dL_law_378 (lv_at hl 0 rfl) ?_
  refine lv_iconst (v := 2) hK.1.1 hK.1.2.1 dL_law_380 (by decide) ?_
  refine lv_iadd hK.1.1 hK.1.2.1 dL_law_381 ?_
  rw [show nI i + 2 = nI (i + 2) from nI_add i 2]
  refine va_ti hK.1.1 hK.1.2.1 hT hS (vp_in_nI (show i + 2 < n9 by omega) (by omega)) (v := .int (sf (i + 2))) (by rw [nI_clamp (by omega)]) dL_law_382 ?_
  refine lv_aload_n hK.1.1 hK.1.2.1 dL_law_383 rfl (lv_at hl 4 rfl) ?_
  refine gk_callSW (n := 4) (As := [.ref (ly_a y 0), .int (sf (i + 1)), .int (sf (i + 2)), .ref (ly_a y 4)]) (rest := []) hK (c_L_give l hfl hR (i := (sf (i + 1))) (j := (sf (i + 2))) ) (gk_gS q_7_10 q_7_11 q_5_0 q_7_12) ⟨by decide +kernel, by decide +kernel, by decide +kernel⟩ ⟨(Nat.le_of_ble_eq_true rfl), (Nat.le_of_ble_eq_true rfl)⟩ hP hS rfl hl.1 rfl (Nat.le_of_ble_eq_true rfl) dL_law_384 ⟨(by show cells + 16 ≤ 601024; omega), (by show slots + 128 ≤ 7293034; omega)⟩ (fun v G1 H locs hw hP hS => ?_)
  rcases hw with ⟨f, r, hf5, hr3, e1, e2, rfl, hR⟩ | ⟨ho, rfl, hR⟩
  · refine W.eq (g2 := F0 m 387 ls [.int 0]) rfl ?_
    refine lv_istore (lv' := [(5, .int 0), (4, .int (nI i)), (0, .ref sc), (1, .ref (ly_a y 0)), (2, .ref (ly_a y 5)), (3, .ref (ly_a y 4))]) hK.1.1 hK.1.2.1 dL_law_387 hl (by decide) rfl (fun ls hl => ?_)
    refine lv_aload_n hK.1.1 hK.1.2.1 dL_law_389 rfl (lv_at hl 4 rfl) ?_
    refine lv_aload_n hK.1.1 hK.1.2.1 dL_law_390 rfl (lv_at hl 2 rfl) ?_
    refine lv_iload hK.1.1 hK.1.2.1 dL_law_391 (lv_at hl 1 rfl) ?_
    refine lv_iconst (v := 1) hK.1.1 hK.1.2.1 dL_law_393 (by decide) ?_
    refine lv_iadd hK.1.1 hK.1.2.1 dL_law_394 ?_
    rw [show nI i + 1 = nI (i + 1) from nI_add i 1]
    refine va_ti hK.1.1 hK.1.2.1 hT hS (vp_in_nI (show i + 1 < n9 by omega) (by omega)) (v := .int (sf (i + 1))) (by rw [nI_clamp (by omega)]) dL_law_395 ?_
    refine lv_aload_n hK.1.1 hK.1.2.1 dL_law_396 rfl (lv_at hl 2 rfl) ?_
    refine lv_iload hK.1.1 hK.1.2.1 dL_law_397 (lv_at hl 1 rfl) ?_
    refine lv_iconst (v := 2) hK.1.1 hK.1.2.1 dL_law_399 (by decide) ?_
    refine lv_iadd hK.1.1 hK.1.2.1 dL_law_400 ?_
    rw [show nI i + 2 = nI (i + 2) from nI_add i 2]
    refine va_ti hK.1.1 hK.1.2.1 hT hS (vp_in_nI (show i + 2 < n9 by omega) (by omega)) (v := .int (sf (i + 2))) (by rw [nI_clamp (by omega)]) dL_law_401 ?_
    refine gk_callV0 (n := 2) (As := [.int (sf (i + 1)), .int (sf (i + 2))]) (rest := []) hK (c_X5_give l hR (i := (sf (i + 1))) (j := (sf (i + 2))) ) (gk_gV q_7_23 q_8_0 q_8_1 q_1_5 q_8_2) ⟨rfl, by decide +kernel, by decide +kernel, by decide +kernel⟩ ⟨(Nat.le_of_ble_eq_true rfl), (Nat.le_of_ble_eq_true rfl)⟩ hP hS (gk_recv hK.2.2.1.1 hP hR.2.2.2.2.2.2.2.2.1 rfl) rfl hl.1 rfl (Nat.le_of_ble_eq_true rfl) dL_law_402 ⟨(by show (cells + 16) + 0 ≤ 601024; omega), (by show (slots + 128) + 0 ≤ 7293034; omega)⟩ (fun v G1 H locs hw hP hS => ?_)
    rcases hw with ⟨f2, r2, h2, hr2, e3, e4, rfl, hR⟩ | ⟨ho2, ⟨x, rfl⟩, hR⟩
    · obtain rfl : f = f2 := (nI_eq (by omega) (by omega)).mp (e1.symm.trans e3)
      obtain rfl : r = r2 := (nI_eq (by omega) (by omega)).mp (e2.symm.trans e4)
      refine W.eq (g2 := F0 m 405 ls [.int (mv 9 f)]) rfl ?_
      refine lv_istore (lv' := [(6, .int (mv 9 f)), (5, .int 0), (4, .int (nI i)), (0, .ref sc), (1, .ref (ly_a y 0)), (2, .ref (ly_a y 5)), (3, .ref (ly_a y 4))]) hK.1.1 hK.1.2.1 dL_law_405 hl (by decide) rfl (fun ls hl => ?_)
      refine lv_aload_n hK.1.1 hK.1.2.1 dL_law_407 rfl (lv_at hl 5 rfl) ?_
      refine gk_callV0 (n := 0) (As := []) (rest := []) hK (c_X5_thrown l hR) (gk_gV q_6_14 q_6_15 q_6_16 q_1_5 q_6_17) ⟨rfl, by decide +kernel, by decide +kernel, by decide +kernel⟩ ⟨(Nat.le_of_ble_eq_true rfl), (Nat.le_of_ble_eq_true rfl)⟩ hP hS (gk_recv hK.2.2.1.1 hP hR.2.2.2.2.2.2.2.2.1 rfl) rfl hl.1 rfl (Nat.le_of_ble_eq_true rfl) dL_law_408 ⟨(by show ((cells + 16) + 0) + 0 ≤ 601024; omega), (by show ((slots + 128) + 0) + 0 ≤ 7293034; omega)⟩ (fun v G1 H locs hw hP hS => ?_)
      obtain ⟨rfl, hG9⟩ := hw
      rw [hG9] at hP
      refine W.eq (g2 := F0 m 411 ls [.int 0]) rfl ?_
      refine lv_iload hK.1.1 hK.1.2.1 dL_law_411 (lv_at hl 1 rfl) ?_
      refine lv_icmp_eq (tgt := 418) hK.1.1 hK.1.2.1 dL_law_413 (by decide) (fun _ => ?_) (fun c => absurd (by decide) c)
      refine lv_iload hK.1.1 hK.1.2.1 dL_law_418 (lv_at hl 1 rfl) ?_
      refine lv_if_ne (tgt := 435) hK.1.1 hK.1.2.1 dL_law_420 (by decide) (fun c => absurd c (by decide)) (fun _ => ?_)
      refine lv_aload_n hK.1.1 hK.1.2.1 dL_law_423 rfl (lv_at hl 6 rfl) ?_
      refine lv_iconst (v := 0) hK.1.1 hK.1.2.1 dL_law_424 (by decide) ?_
      refine lo_get hK hP hR dL_law_425 ?_
      refine lv_iload hK.1.1 hK.1.2.1 dL_law_426 (lv_at hl 0 rfl) ?_
      refine lv_i2l hK.1.1 hK.1.2.1 dL_law_428 rfl ?_
      refine W.lcmp hK.1.1 hK.1.2.1 dL_law_429 ?_
      refine lv_if_eq (tgt := 435) hK.1.1 hK.1.2.1 dL_law_430 (by decide) (fun _ => ?_) (fun c => absurd (by rw [show mv 9 f = nI (fr f) from (hI.1.2.2.2.1 f hf5).1]; simp [lg_cmp]) c)
      refine lv_goto (tgt := 1428) hK.1.1 hK.1.2.1 dL_law_435 (by decide) ?_
      exact W.widen (show (((cells + 16) + 0) + 0) ≤ cells + 100 by omega) (show (((slots + 128) + 0) + 0) ≤ slots + 8000 by omega) (kk ls _ _ _ _ _ _ _ _ _ _ _ _ _ _ _ _ _ _ _ _ _ _ hP hS hR (xI_give hI hf5 hr3) (lv_sub hl [2, 3, 4, 5, 6] rfl))
    · exact False.elim (ho2.elim (fun z => rg_out_no hf5 (by decide) (by rw [← e1]; exact z)) (fun z => rg_out_no hr3 (by decide) (by rw [← e2]; exact z)))
  · refine W.eq (g2 := F0 m 387 ls [.int 1]) rfl ?_
    refine lv_istore (lv' := [(5, .int 1), (4, .int (nI i)), (0, .ref sc), (1, .ref (ly_a y 0)), (2, .ref (ly_a y 5)), (3, .ref (ly_a y 4))]) hK.1.1 hK.1.2.1 dL_law_387 hl (by decide) rfl (fun ls hl => ?_)
    refine lv_aload_n hK.1.1 hK.1.2.1 dL_law_389 rfl (lv_at hl 4 rfl) ?_
    refine lv_aload_n hK.1.1 hK.1.2.1 dL_law_390 rfl (lv_at hl 2 rfl) ?_
    refine lv_iload hK.1.1 hK.1.2.1 dL_law_391 (lv_at hl 1 rfl) ?_
    refine lv_iconst (v := 1) hK.1.1 hK.1.2.1 dL_law_393 (by decide) ?_
    refine lv_iadd hK.1.1 hK.1.2.1 dL_law_394 ?_
    rw [show nI i + 1 = nI (i + 1) from nI_add i 1]
    refine va_ti hK.1.1 hK.1.2.1 hT hS (vp_in_nI (show i + 1 < n9 by omega) (by omega)) (v := .int (sf (i + 1))) (by rw [nI_clamp (by omega)]) dL_law_395 ?_
    refine lv_aload_n hK.1.1 hK.1.2.1 dL_law_396 rfl (lv_at hl 2 rfl) ?_
    refine lv_iload hK.1.1 hK.1.2.1 dL_law_397 (lv_at hl 1 rfl) ?_
    refine lv_iconst (v := 2) hK.1.1 hK.1.2.1 dL_law_399 (by decide) ?_
    refine lv_iadd hK.1.1 hK.1.2.1 dL_law_400 ?_
    rw [show nI i + 2 = nI (i + 2) from nI_add i 2]
    refine va_ti hK.1.1 hK.1.2.1 hT hS (vp_in_nI (show i + 2 < n9 by omega) (by omega)) (v := .int (sf (i + 2))) (by rw [nI_clamp (by omega)]) dL_law_401 ?_
    refine gk_callV0 (n := 2) (As := [.int (sf (i + 1)), .int (sf (i + 2))]) (rest := []) hK (c_X5_give l hR (i := (sf (i + 1))) (j := (sf (i + 2))) ) (gk_gV q_7_23 q_8_0 q_8_1 q_1_5 q_8_2) ⟨rfl, by decide +kernel, by decide +kernel, by decide +kernel⟩ ⟨(Nat.le_of_ble_eq_true rfl), (Nat.le_of_ble_eq_true rfl)⟩ hP hS (gk_recv hK.2.2.1.1 hP hR.2.2.2.2.2.2.2.2.1 rfl) rfl hl.1 rfl (Nat.le_of_ble_eq_true rfl) dL_law_402 ⟨(by show (cells + 16) + 0 ≤ 601024; omega), (by show (slots + 128) + 0 ≤ 7293034; omega)⟩ (fun v G1 H locs hw hP hS => ?_)
    rcases hw with ⟨f2, r2, h2, hr2, e3, e4, rfl, hR⟩ | ⟨ho2, ⟨x, rfl⟩, hR⟩
    · exact False.elim (ho.elim (fun z => rg_out_no h2 (by decide) (by rw [← e3]; exact z)) (fun z => rg_out_no hr2 (by decide) (by rw [← e4]; exact z)))
    · refine W.eq (g2 := F0 m 405 ls [.int x]) rfl ?_
      refine lv_istore (lv' := [(6, .int x), (5, .int 1), (4, .int (nI i)), (0, .ref sc), (1, .ref (ly_a y 0)), (2, .ref (ly_a y 5)), (3, .ref (ly_a y 4))]) hK.1.1 hK.1.2.1 dL_law_405 hl (by decide) rfl (fun ls hl => ?_)
      refine lv_aload_n hK.1.1 hK.1.2.1 dL_law_407 rfl (lv_at hl 5 rfl) ?_
      refine gk_callV0 (n := 0) (As := []) (rest := []) hK (c_X5_thrown l hR) (gk_gV q_6_14 q_6_15 q_6_16 q_1_5 q_6_17) ⟨rfl, by decide +kernel, by decide +kernel, by decide +kernel⟩ ⟨(Nat.le_of_ble_eq_true rfl), (Nat.le_of_ble_eq_true rfl)⟩ hP hS (gk_recv hK.2.2.1.1 hP hR.2.2.2.2.2.2.2.2.1 rfl) rfl hl.1 rfl (Nat.le_of_ble_eq_true rfl) dL_law_408 ⟨(by show ((cells + 16) + 0) + 0 ≤ 601024; omega), (by show ((slots + 128) + 0) + 0 ≤ 7293034; omega)⟩ (fun v G1 H locs hw hP hS => ?_)
      obtain ⟨rfl, hG9⟩ := hw
      rw [hG9] at hP
      refine W.eq (g2 := F0 m 411 ls [.int 1]) rfl ?_
      refine lv_iload hK.1.1 hK.1.2.1 dL_law_411 (lv_at hl 1 rfl) ?_
      refine lv_icmp_eq (tgt := 418) hK.1.1 hK.1.2.1 dL_law_413 (by decide) (fun _ => ?_) (fun c => absurd (by decide) c)
      refine lv_iload hK.1.1 hK.1.2.1 dL_law_418 (lv_at hl 1 rfl) ?_
      refine lv_if_ne (tgt := 435) hK.1.1 hK.1.2.1 dL_law_420 (by decide) (fun _ => ?_) (fun c => absurd c (by decide))
      refine lv_goto (tgt := 1428) hK.1.1 hK.1.2.1 dL_law_435 (by decide) ?_
      exact W.widen (show (((cells + 16) + 0) + 0) ≤ cells + 100 by omega) (show (((slots + 128) + 0) + 0) ≤ slots + 8000 by omega) (kk ls _ _ _ _ _ _ _ _ _ _ _ _ _ _ _ _ _ _ _ _ _ _ hP hS hR (xI_mono hI) (lv_sub hl [2, 3, 4, 5, 6] rfl))
set_option maxHeartbeats 4000000 in
set_option maxRecDepth 100000 in
theorem lw_3 {p : Program} {l : Launch} {e : Env} {s : State} {m : MethodId} {args : Array Value} {below : List Frame} {meth : Method} {c : Code} {H : Heap} {locs : List Loc} {cells slots : Nat} {Q : State → Prop} {ls : Array Slot} {y : ly_T} {A : Nat → Prop} {G : gk_G} {td : Int32} {ru : Nat → Nat → Int32} {fr lv : Nat → Nat} {lt et tl : Nat → Int32} {hf hp : Nat → Option Nat} {ol : Nat → List Nat} {PS : Nat → Prop} {pf : Nat → Nat → Int32} {ov : Int64} {md mq mt : Int32} {mv : Nat → Nat → Int32} {row : List Nat} {fi : Nat → Nat} {N i n9 sc : Nat} {sf : Nat → Int32} (hfl : l.stackTraces = false) (hK : gk_K p s m c args cL_law RL 7 y A) (hT : va_T .int sc n9 (fun j => .int (sf j)) A s s.heap) (hP : gk_P (ly_D y) A G H) (hS : va_S A s.heap H locs) (hR : rp y G td ru fr lv lt et tl hf hp ol PS pf ov md mq mt mv) (hI : xI td ru fr (lv, lt, et, tl, ol, PS, pf) hf hp row fi md mq mv N) (hN : N < 512) (hc : cells + 100 ≤ 601024) (hs : slots + 8000 ≤ 7293034) (hi : i + 7 ≤ n9) (hn9 : n9 ≤ 3584) (hl : lv_has ls 7 [(4, .int (nI i)), (0, .ref sc), (1, .ref (ly_a y 0)), (2, .ref (ly_a y 5)), (3, .ref (ly_a y 4))]) (kk : ∀ (ls : Array Slot) (H : Heap) (locs : List Loc) (G : gk_G) (td : Int32) (ru : Nat → Nat → Int32) (fr lv : Nat → Nat) (lt et tl : Nat → Int32) (hf hp : Nat → Option Nat) (ol : Nat → List Nat) (PS : Nat → Prop) (pf : Nat → Nat → Int32) (ov : Int64) (md mq mt : Int32) (mv : Nat → Nat → Int32) (row : List Nat) (fi : Nat → Nat), gk_P (ly_D y) A G H → va_S A s.heap H locs → rp y G td ru fr lv lt et tl hf hp ol PS pf ov md mq mt mv → xI td ru fr (lv, lt, et, tl, ol, PS, pf) hf hp row fi md mq mv (N + 1) → lv_has ls 7 [(4, .int (nI i)), (0, .ref sc), (1, .ref (ly_a y 0)), (2, .ref (ly_a y 5)), (3, .ref (ly_a y 4))] → W p l e { frames := 12, cells := 601024, slots := 7293034, locals := 444 } s m args below meth c H locs (cells + 100) (slots + 8000) Q (F0 m 1428 ls [])) : W p l e { frames := 12, cells := 601024, slots := 7293034, locals := 444 } s m args below meth c H locs cells slots Q (F0 m 438 ls []) := by
  refine lv_aload_n hK.1.1 hK.1.2.1 dL_law_438 rfl (lv_at hl 2 rfl) ?_
  refine lv_aload_n hK.1.1 hK.1.2.1 dL_law_439 rfl (lv_at hl 1 rfl) ?_
  refine lv_iload hK.1.1 hK.1.2.1 dL_law_440 (lv_at hl 0 rfl) ?_
  refine lv_iconst (v := 1) hK.1.1 hK.1.2.1 dL_law_442 (by decide) ?_
  refine lv_iadd hK.1.1 hK.1.2.1 dL_law_443 ?_
  rw [show nI i + 1 = nI (i + 1) from nI_add i 1]
  refine va_ti hK.1.1 hK.1.2.1 hT hS (vp_in_nI (show i + 1 < n9 by omega) (by omega)) (v := .int (sf (i + 1))) (by rw [nI_clamp (by omega)]) dL_law_444 ?_
  refine lv_aload_n hK.1.1 hK.1.2.1 dL_law_445 rfl (lv_at hl 1 rfl) ?_
  refine lv_iload hK.1.1 hK.1.2.1 dL_law_446 (lv_at hl 0 rfl) ?_
  refine lv_iconst (v := 2) hK.1.1 hK.1.2.1 dL_law_448 (by decide) ?_
  refine lv_iadd hK.1.1 hK.1.2.1 dL_law_449 ?_
  rw [show nI i + 2 = nI (i + 2) from nI_add i 2]
  refine va_ti hK.1.1 hK.1.2.1 hT hS (vp_in_nI (show i + 2 < n9 by omega) (by omega)) (v := .int (sf (i + 2))) (by rw [nI_clamp (by omega)]) dL_law_450 ?_
  refine gk_callSW (n := 3) (As := [.ref (ly_a y 0), .int (sf (i + 1)), .int (sf (i + 2))]) (rest := []) hK (c_L_open l hfl hR (i := (sf (i + 1))) (j := (sf (i + 2))) ) (gk_gS q_8_6 q_8_7 q_5_0 q_8_8) ⟨by decide +kernel, by decide +kernel, by decide +kernel⟩ ⟨(Nat.le_of_ble_eq_true rfl), (Nat.le_of_ble_eq_true rfl)⟩ hP hS rfl hl.1 rfl (Nat.le_of_ble_eq_true rfl) dL_law_451 ⟨(by show cells + 16 ≤ 601024; omega), (by show slots + 128 ≤ 7293034; omega)⟩ (fun v G1 H locs hw hP hS => ?_)
  rcases hw with ⟨a, f, ha, hf5, e1, e2, rfl, hR⟩ | ⟨ho, rfl, hR⟩
  · refine W.eq (g2 := F0 m 454 ls [.int 0]) rfl ?_
    refine lv_istore (lv' := [(5, .int 0), (4, .int (nI i)), (0, .ref sc), (1, .ref (ly_a y 0)), (2, .ref (ly_a y 5)), (3, .ref (ly_a y 4))]) hK.1.1 hK.1.2.1 dL_law_454 hl (by decide) rfl (fun ls hl => ?_)
    refine lv_aload_n hK.1.1 hK.1.2.1 dL_law_456 rfl (lv_at hl 4 rfl) ?_
    refine lv_aload_n hK.1.1 hK.1.2.1 dL_law_457 rfl (lv_at hl 2 rfl) ?_
    refine lv_iload hK.1.1 hK.1.2.1 dL_law_458 (lv_at hl 1 rfl) ?_
    refine lv_iconst (v := 1) hK.1.1 hK.1.2.1 dL_law_460 (by decide) ?_
    refine lv_iadd hK.1.1 hK.1.2.1 dL_law_461 ?_
    rw [show nI i + 1 = nI (i + 1) from nI_add i 1]
    refine va_ti hK.1.1 hK.1.2.1 hT hS (vp_in_nI (show i + 1 < n9 by omega) (by omega)) (v := .int (sf (i + 1))) (by rw [nI_clamp (by omega)]) dL_law_462 ?_
    refine lv_aload_n hK.1.1 hK.1.2.1 dL_law_463 rfl (lv_at hl 2 rfl) ?_
    refine lv_iload hK.1.1 hK.1.2.1 dL_law_464 (lv_at hl 1 rfl) ?_
    refine lv_iconst (v := 2) hK.1.1 hK.1.2.1 dL_law_466 (by decide) ?_
    refine lv_iadd hK.1.1 hK.1.2.1 dL_law_467 ?_
    rw [show nI i + 2 = nI (i + 2) from nI_add i 2]
    refine va_ti hK.1.1 hK.1.2.1 hT hS (vp_in_nI (show i + 2 < n9 by omega) (by omega)) (v := .int (sf (i + 2))) (by rw [nI_clamp (by omega)]) dL_law_468 ?_
    refine gk_callV0 (n := 2) (As := [.int (sf (i + 1)), .int (sf (i + 2))]) (rest := []) hK (c_X5_open l hR (i := (sf (i + 1))) (j := (sf (i + 2))) ) (gk_gV q_8_20 q_8_21 q_8_22 q_1_5 q_8_23) ⟨rfl, by decide +kernel, by decide +kernel, by decide +kernel⟩ ⟨(Nat.le_of_ble_eq_true rfl), (Nat.le_of_ble_eq_true rfl)⟩ hP hS (gk_recv hK.2.2.1.1 hP hR.2.2.2.2.2.2.2.2.1 rfl) rfl hl.1 rfl (Nat.le_of_ble_eq_true rfl) dL_law_469 ⟨(by show (cells + 16) + 0 ≤ 601024; omega), (by show (slots + 128) + 0 ≤ 7293034; omega)⟩ (fun v G1 H locs hw hP hS => ?_)
    obtain ⟨rfl, hw⟩ := hw
    rcases hw with ⟨a2, f2, ha2, h2, e3, e4, hR⟩ | ⟨ho2, hR⟩
    · obtain rfl : a = a2 := (nI_eq (by omega) (by omega)).mp (e1.symm.trans e3)
      obtain rfl : f = f2 := (nI_eq (by omega) (by omega)).mp (e2.symm.trans e4)
      refine W.eq (g2 := F0 m 472 ls []) rfl ?_
      refine lv_aload_n hK.1.1 hK.1.2.1 dL_law_472 rfl (lv_at hl 4 rfl) ?_
      refine gk_callV0 (n := 0) (As := []) (rest := []) hK (c_X5_thrown l hR) (gk_gV q_6_14 q_6_15 q_6_16 q_1_5 q_6_17) ⟨rfl, by decide +kernel, by decide +kernel, by decide +kernel⟩ ⟨(Nat.le_of_ble_eq_true rfl), (Nat.le_of_ble_eq_true rfl)⟩ hP hS (gk_recv hK.2.2.1.1 hP hR.2.2.2.2.2.2.2.2.1 rfl) rfl hl.1 rfl (Nat.le_of_ble_eq_true rfl) dL_law_473 ⟨(by show ((cells + 16) + 0) + 0 ≤ 601024; omega), (by show ((slots + 128) + 0) + 0 ≤ 7293034; omega)⟩ (fun v G1 H locs hw hP hS => ?_)
      obtain ⟨rfl, hG9⟩ := hw
      rw [hG9] at hP
      refine W.eq (g2 := F0 m 476 ls [.int 0]) rfl ?_
      refine lv_iload hK.1.1 hK.1.2.1 dL_law_476 (lv_at hl 0 rfl) ?_
      refine lv_icmp_eq (tgt := 483) hK.1.1 hK.1.2.1 dL_law_478 (by decide) (fun _ => ?_) (fun c => absurd (by decide) c)
      refine lv_goto (tgt := 1428) hK.1.1 hK.1.2.1 dL_law_483 (by decide) ?_
      exact W.widen (show (((cells + 16) + 0) + 0) ≤ cells + 100 by omega) (show (((slots + 128) + 0) + 0) ≤ slots + 8000 by omega) (kk ls _ _ _ _ _ _ _ _ _ _ _ _ _ _ _ _ _ _ _ _ _ _ hP hS hR (xI_open hI ha hf5) (lv_sub hl [1, 2, 3, 4, 5] rfl))
    · exact False.elim (ho2.elim (fun z => rg_out_no ha (by decide) (by rw [← e1]; exact z)) (fun z => rg_out_no hf5 (by decide) (by rw [← e2]; exact z)))
  · refine W.eq (g2 := F0 m 454 ls [.int 1]) rfl ?_
    refine lv_istore (lv' := [(5, .int 1), (4, .int (nI i)), (0, .ref sc), (1, .ref (ly_a y 0)), (2, .ref (ly_a y 5)), (3, .ref (ly_a y 4))]) hK.1.1 hK.1.2.1 dL_law_454 hl (by decide) rfl (fun ls hl => ?_)
    refine lv_aload_n hK.1.1 hK.1.2.1 dL_law_456 rfl (lv_at hl 4 rfl) ?_
    refine lv_aload_n hK.1.1 hK.1.2.1 dL_law_457 rfl (lv_at hl 2 rfl) ?_
    refine lv_iload hK.1.1 hK.1.2.1 dL_law_458 (lv_at hl 1 rfl) ?_
    refine lv_iconst (v := 1) hK.1.1 hK.1.2.1 dL_law_460 (by decide) ?_
    refine lv_iadd hK.1.1 hK.1.2.1 dL_law_461 ?_
    rw [show nI i + 1 = nI (i + 1) from nI_add i 1]
    refine va_ti hK.1.1 hK.1.2.1 hT hS (vp_in_nI (show i + 1 < n9 by omega) (by omega)) (v := .int (sf (i + 1))) (by rw [nI_clamp (by omega)]) dL_law_462 ?_
    refine lv_aload_n hK.1.1 hK.1.2.1 dL_law_463 rfl (lv_at hl 2 rfl) ?_
    refine lv_iload hK.1.1 hK.1.2.1 dL_law_464 (lv_at hl 1 rfl) ?_
    refine lv_iconst (v := 2) hK.1.1 hK.1.2.1 dL_law_466 (by decide) ?_
    refine lv_iadd hK.1.1 hK.1.2.1 dL_law_467 ?_
    rw [show nI i + 2 = nI (i + 2) from nI_add i 2]
    refine va_ti hK.1.1 hK.1.2.1 hT hS (vp_in_nI (show i + 2 < n9 by omega) (by omega)) (v := .int (sf (i + 2))) (by rw [nI_clamp (by omega)]) dL_law_468 ?_
    refine gk_callV0 (n := 2) (As := [.int (sf (i + 1)), .int (sf (i + 2))]) (rest := []) hK (c_X5_open l hR (i := (sf (i + 1))) (j := (sf (i + 2))) ) (gk_gV q_8_20 q_8_21 q_8_22 q_1_5 q_8_23) ⟨rfl, by decide +kernel, by decide +kernel, by decide +kernel⟩ ⟨(Nat.le_of_ble_eq_true rfl), (Nat.le_of_ble_eq_true rfl)⟩ hP hS (gk_recv hK.2.2.1.1 hP hR.2.2.2.2.2.2.2.2.1 rfl) rfl hl.1 rfl (Nat.le_of_ble_eq_true rfl) dL_law_469 ⟨(by show (cells + 16) + 0 ≤ 601024; omega), (by show (slots + 128) + 0 ≤ 7293034; omega)⟩ (fun v G1 H locs hw hP hS => ?_)
    obtain ⟨rfl, hw⟩ := hw
    rcases hw with ⟨a2, f2, ha2, h2, e3, e4, hR⟩ | ⟨ho2, hR⟩
    · exact False.elim (ho.elim (fun z => rg_out_no ha2 (by decide) (by rw [← e3]; exact z)) (fun z => rg_out_no h2 (by decide) (by rw [← e4]; exact z)))
    · refine W.eq (g2 := F0 m 472 ls []) rfl ?_
      refine lv_aload_n hK.1.1 hK.1.2.1 dL_law_472 rfl (lv_at hl 4 rfl) ?_
      refine gk_callV0 (n := 0) (As := []) (rest := []) hK (c_X5_thrown l hR) (gk_gV q_6_14 q_6_15 q_6_16 q_1_5 q_6_17) ⟨rfl, by decide +kernel, by decide +kernel, by decide +kernel⟩ ⟨(Nat.le_of_ble_eq_true rfl), (Nat.le_of_ble_eq_true rfl)⟩ hP hS (gk_recv hK.2.2.1.1 hP hR.2.2.2.2.2.2.2.2.1 rfl) rfl hl.1 rfl (Nat.le_of_ble_eq_true rfl) dL_law_473 ⟨(by show ((cells + 16) + 0) + 0 ≤ 601024; omega), (by show ((slots + 128) + 0) + 0 ≤ 7293034; omega)⟩ (fun v G1 H locs hw hP hS => ?_)
      obtain ⟨rfl, hG9⟩ := hw
      rw [hG9] at hP
      refine W.eq (g2 := F0 m 476 ls [.int 1]) rfl ?_
      refine lv_iload hK.1.1 hK.1.2.1 dL_law_476 (lv_at hl 0 rfl) ?_
      refine lv_icmp_eq (tgt := 483) hK.1.1 hK.1.2.1 dL_law_478 (by decide) (fun _ => ?_) (fun c => absurd (by decide) c)
      refine lv_goto (tgt := 1428) hK.1.1 hK.1.2.1 dL_law_483 (by decide) ?_
      exact W.widen (show (((cells + 16) + 0) + 0) ≤ cells + 100 by omega) (show (((slots + 128) + 0) + 0) ≤ slots + 8000 by omega) (kk ls _ _ _ _ _ _ _ _ _ _ _ _ _ _ _ _ _ _ _ _ _ _ hP hS hR (xI_mono hI) (lv_sub hl [1, 2, 3, 4, 5] rfl))
set_option maxHeartbeats 4000000 in
set_option maxRecDepth 100000 in
theorem lw_4 {p : Program} {l : Launch} {e : Env} {s : State} {m : MethodId} {args : Array Value} {below : List Frame} {meth : Method} {c : Code} {H : Heap} {locs : List Loc} {cells slots : Nat} {Q : State → Prop} {ls : Array Slot} {y : ly_T} {A : Nat → Prop} {G : gk_G} {td : Int32} {ru : Nat → Nat → Int32} {fr lv : Nat → Nat} {lt et tl : Nat → Int32} {hf hp : Nat → Option Nat} {ol : Nat → List Nat} {PS : Nat → Prop} {pf : Nat → Nat → Int32} {ov : Int64} {md mq mt : Int32} {mv : Nat → Nat → Int32} {row : List Nat} {fi : Nat → Nat} {N i n9 sc : Nat} {sf : Nat → Int32} (hfl : l.stackTraces = false) (hK : gk_K p s m c args cL_law RL 7 y A) (hT : va_T .int sc n9 (fun j => .int (sf j)) A s s.heap) (hP : gk_P (ly_D y) A G H) (hS : va_S A s.heap H locs) (hR : rp y G td ru fr lv lt et tl hf hp ol PS pf ov md mq mt mv) (hI : xI td ru fr (lv, lt, et, tl, ol, PS, pf) hf hp row fi md mq mv N) (hN : N < 512) (hc : cells + 100 ≤ 601024) (hs : slots + 8000 ≤ 7293034) (hi : i + 7 ≤ n9) (hn9 : n9 ≤ 3584) (hl : lv_has ls 7 [(4, .int (nI i)), (0, .ref sc), (1, .ref (ly_a y 0)), (2, .ref (ly_a y 5)), (3, .ref (ly_a y 4))]) (kk : ∀ (ls : Array Slot) (H : Heap) (locs : List Loc) (G : gk_G) (td : Int32) (ru : Nat → Nat → Int32) (fr lv : Nat → Nat) (lt et tl : Nat → Int32) (hf hp : Nat → Option Nat) (ol : Nat → List Nat) (PS : Nat → Prop) (pf : Nat → Nat → Int32) (ov : Int64) (md mq mt : Int32) (mv : Nat → Nat → Int32) (row : List Nat) (fi : Nat → Nat), gk_P (ly_D y) A G H → va_S A s.heap H locs → rp y G td ru fr lv lt et tl hf hp ol PS pf ov md mq mt mv → xI td ru fr (lv, lt, et, tl, ol, PS, pf) hf hp row fi md mq mv (N + 1) → lv_has ls 7 [(4, .int (nI i)), (0, .ref sc), (1, .ref (ly_a y 0)), (2, .ref (ly_a y 5)), (3, .ref (ly_a y 4))] → W p l e { frames := 12, cells := 601024, slots := 7293034, locals := 444 } s m args below meth c H locs (cells + 100) (slots + 8000) Q (F0 m 1428 ls [])) : W p l e { frames := 12, cells := 601024, slots := 7293034, locals := 444 } s m args below meth c H locs cells slots Q (F0 m 486 ls []) := by
  refine lv_aload_n hK.1.1 hK.1.2.1 dL_law_486 rfl (lv_at hl 2 rfl) ?_
  refine lv_aload_n hK.1.1 hK.1.2.1 dL_law_487 rfl (lv_at hl 1 rfl) ?_
  refine lv_iload hK.1.1 hK.1.2.1 dL_law_488 (lv_at hl 0 rfl) ?_
  refine lv_iconst (v := 1) hK.1.1 hK.1.2.1 dL_law_490 (by decide) ?_
  refine lv_iadd hK.1.1 hK.1.2.1 dL_law_491 ?_
  rw [show nI i + 1 = nI (i + 1) from nI_add i 1]
  refine va_ti hK.1.1 hK.1.2.1 hT hS (vp_in_nI (show i + 1 < n9 by omega) (by omega)) (v := .int (sf (i + 1))) (by rw [nI_clamp (by omega)]) dL_law_492 ?_
  refine lv_aload_n hK.1.1 hK.1.2.1 dL_law_493 rfl (lv_at hl 4 rfl) ?_
  refine gk_callSW (n := 3) (As := [.ref (ly_a y 0), .int (sf (i + 1)), .ref (ly_a y 4)]) (rest := []) hK (c_L_shut l hfl hR (i := (sf (i + 1))) ) (gk_gS q_9_3 q_9_4 q_5_0 q_9_5) ⟨by decide +kernel, by decide +kernel, by decide +kernel⟩ ⟨(Nat.le_of_ble_eq_true rfl), (Nat.le_of_ble_eq_true rfl)⟩ hP hS rfl hl.1 rfl (Nat.le_of_ble_eq_true rfl) dL_law_494 ⟨(by show cells + 16 ≤ 601024; omega), (by show slots + 128 ≤ 7293034; omega)⟩ (fun v G1 H locs hw hP hS => ?_)
  rcases hw with ⟨a, ha, e1, rfl, hR⟩ | ⟨ho, rfl, hR⟩
  · refine W.eq (g2 := F0 m 497 ls [.int 0]) rfl ?_
    refine lv_istore (lv' := [(5, .int 0), (4, .int (nI i)), (0, .ref sc), (1, .ref (ly_a y 0)), (2, .ref (ly_a y 5)), (3, .ref (ly_a y 4))]) hK.1.1 hK.1.2.1 dL_law_497 hl (by decide) rfl (fun ls hl => ?_)
    refine lv_aload_n hK.1.1 hK.1.2.1 dL_law_499 rfl (lv_at hl 4 rfl) ?_
    refine lv_aload_n hK.1.1 hK.1.2.1 dL_law_500 rfl (lv_at hl 2 rfl) ?_
    refine lv_iload hK.1.1 hK.1.2.1 dL_law_501 (lv_at hl 1 rfl) ?_
    refine lv_iconst (v := 1) hK.1.1 hK.1.2.1 dL_law_503 (by decide) ?_
    refine lv_iadd hK.1.1 hK.1.2.1 dL_law_504 ?_
    rw [show nI i + 1 = nI (i + 1) from nI_add i 1]
    refine va_ti hK.1.1 hK.1.2.1 hT hS (vp_in_nI (show i + 1 < n9 by omega) (by omega)) (v := .int (sf (i + 1))) (by rw [nI_clamp (by omega)]) dL_law_505 ?_
    refine gk_callV0 (n := 1) (As := [.int (sf (i + 1))]) (rest := []) hK (c_X5_shut l hR (i := (sf (i + 1))) ) (gk_gV q_9_10 q_9_11 q_9_12 q_1_5 q_9_13) ⟨rfl, by decide +kernel, by decide +kernel, by decide +kernel⟩ ⟨(Nat.le_of_ble_eq_true rfl), (Nat.le_of_ble_eq_true rfl)⟩ hP hS (gk_recv hK.2.2.1.1 hP hR.2.2.2.2.2.2.2.2.1 rfl) rfl hl.1 rfl (Nat.le_of_ble_eq_true rfl) dL_law_506 ⟨(by show (cells + 16) + 0 ≤ 601024; omega), (by show (slots + 128) + 0 ≤ 7293034; omega)⟩ (fun v G1 H locs hw hP hS => ?_)
    rcases hw with ⟨a2, ha2, e2, rfl, hR⟩ | ⟨ho2, ⟨x, rfl⟩, hR⟩
    · obtain rfl : a = a2 := (nI_eq (by omega) (by omega)).mp (e1.symm.trans e2)
      refine W.eq (g2 := F0 m 509 ls [.int (rg_b (decide (¬ mv 18 a = -1)))]) rfl ?_
      refine lv_istore (lv' := [(6, .int (rg_b (decide (¬ mv 18 a = -1)))), (5, .int 0), (4, .int (nI i)), (0, .ref sc), (1, .ref (ly_a y 0)), (2, .ref (ly_a y 5)), (3, .ref (ly_a y 4))]) hK.1.1 hK.1.2.1 dL_law_509 hl (by decide) rfl (fun ls hl => ?_)
      refine lv_aload_n hK.1.1 hK.1.2.1 dL_law_511 rfl (lv_at hl 5 rfl) ?_
      refine gk_callV0 (n := 0) (As := []) (rest := []) hK (c_X5_thrown l hR) (gk_gV q_6_14 q_6_15 q_6_16 q_1_5 q_6_17) ⟨rfl, by decide +kernel, by decide +kernel, by decide +kernel⟩ ⟨(Nat.le_of_ble_eq_true rfl), (Nat.le_of_ble_eq_true rfl)⟩ hP hS (gk_recv hK.2.2.1.1 hP hR.2.2.2.2.2.2.2.2.1 rfl) rfl hl.1 rfl (Nat.le_of_ble_eq_true rfl) dL_law_512 ⟨(by show ((cells + 16) + 0) + 0 ≤ 601024; omega), (by show ((slots + 128) + 0) + 0 ≤ 7293034; omega)⟩ (fun v G1 H locs hw hP hS => ?_)
      obtain ⟨rfl, hG9⟩ := hw
      rw [hG9] at hP
      refine W.eq (g2 := F0 m 515 ls [.int 0]) rfl ?_
      refine lv_iload hK.1.1 hK.1.2.1 dL_law_515 (lv_at hl 1 rfl) ?_
      refine lv_icmp_eq (tgt := 522) hK.1.1 hK.1.2.1 dL_law_517 (by decide) (fun _ => ?_) (fun c => absurd (by decide) c)
      refine lv_iload hK.1.1 hK.1.2.1 dL_law_522 (lv_at hl 1 rfl) ?_
      refine lv_if_ne (tgt := 546) hK.1.1 hK.1.2.1 dL_law_524 (by decide) (fun c => absurd c (by decide)) (fun _ => ?_)
      refine lv_aload_n hK.1.1 hK.1.2.1 dL_law_527 rfl (lv_at hl 6 rfl) ?_
      refine lv_iconst (v := 0) hK.1.1 hK.1.2.1 dL_law_528 (by decide) ?_
      refine lo_get hK hP hR dL_law_529 ?_
      refine lv_iload hK.1.1 hK.1.2.1 dL_law_530 (lv_at hl 0 rfl) ?_
      refine lv_if_eq (tgt := 539) hK.1.1 hK.1.2.1 dL_law_532 (by decide) (fun c532_1 => ?_) (fun c532_1 => ?_)
      · refine lv_lconst (v := 0) hK.1.1 hK.1.2.1 dL_law_539 (by decide) ?_
        refine W.lcmp hK.1.1 hK.1.2.1 dL_law_540 ?_
        refine lv_if_eq (tgt := 546) hK.1.1 hK.1.2.1 dL_law_541 (by decide) (fun _ => ?_) (fun c => absurd (by rw [lg_zf (B := ((hp a).isSome)) (d := decide (¬ mv 18 a = -1)) (xI_shut_b hI ha) rfl c532_1]; simp [lg_cmp]) c)
        refine lv_goto (tgt := 1428) hK.1.1 hK.1.2.1 dL_law_546 (by decide) ?_
        exact W.widen (show (((cells + 16) + 0) + 0) ≤ cells + 100 by omega) (show (((slots + 128) + 0) + 0) ≤ slots + 8000 by omega) (kk ls _ _ _ _ _ _ _ _ _ _ _ _ _ _ _ _ _ _ _ _ _ _ hP hS hR (xI_shut hI ha) (lv_sub hl [2, 3, 4, 5, 6] rfl))
      · refine lv_lconst (v := 1) hK.1.1 hK.1.2.1 dL_law_535 (by decide) ?_
        refine lv_goto (tgt := 540) hK.1.1 hK.1.2.1 dL_law_536 (by decide) ?_
        refine W.lcmp hK.1.1 hK.1.2.1 dL_law_540 ?_
        refine lv_if_eq (tgt := 546) hK.1.1 hK.1.2.1 dL_law_541 (by decide) (fun _ => ?_) (fun c => absurd (by rw [lg_zt (B := ((hp a).isSome)) (d := decide (¬ mv 18 a = -1)) (xI_shut_b hI ha) rfl c532_1]; simp [lg_cmp]) c)
        refine lv_goto (tgt := 1428) hK.1.1 hK.1.2.1 dL_law_546 (by decide) ?_
        exact W.widen (show (((cells + 16) + 0) + 0) ≤ cells + 100 by omega) (show (((slots + 128) + 0) + 0) ≤ slots + 8000 by omega) (kk ls _ _ _ _ _ _ _ _ _ _ _ _ _ _ _ _ _ _ _ _ _ _ hP hS hR (xI_shut hI ha) (lv_sub hl [2, 3, 4, 5, 6] rfl))
    · exact False.elim (absurd (e1 ▸ ho2) (rg_out_no ha (by decide)))
  · refine W.eq (g2 := F0 m 497 ls [.int 1]) rfl ?_
    refine lv_istore (lv' := [(5, .int 1), (4, .int (nI i)), (0, .ref sc), (1, .ref (ly_a y 0)), (2, .ref (ly_a y 5)), (3, .ref (ly_a y 4))]) hK.1.1 hK.1.2.1 dL_law_497 hl (by decide) rfl (fun ls hl => ?_)
    refine lv_aload_n hK.1.1 hK.1.2.1 dL_law_499 rfl (lv_at hl 4 rfl) ?_
    refine lv_aload_n hK.1.1 hK.1.2.1 dL_law_500 rfl (lv_at hl 2 rfl) ?_
    refine lv_iload hK.1.1 hK.1.2.1 dL_law_501 (lv_at hl 1 rfl) ?_
    refine lv_iconst (v := 1) hK.1.1 hK.1.2.1 dL_law_503 (by decide) ?_
    refine lv_iadd hK.1.1 hK.1.2.1 dL_law_504 ?_
    rw [show nI i + 1 = nI (i + 1) from nI_add i 1]
    refine va_ti hK.1.1 hK.1.2.1 hT hS (vp_in_nI (show i + 1 < n9 by omega) (by omega)) (v := .int (sf (i + 1))) (by rw [nI_clamp (by omega)]) dL_law_505 ?_
    refine gk_callV0 (n := 1) (As := [.int (sf (i + 1))]) (rest := []) hK (c_X5_shut l hR (i := (sf (i + 1))) ) (gk_gV q_9_10 q_9_11 q_9_12 q_1_5 q_9_13) ⟨rfl, by decide +kernel, by decide +kernel, by decide +kernel⟩ ⟨(Nat.le_of_ble_eq_true rfl), (Nat.le_of_ble_eq_true rfl)⟩ hP hS (gk_recv hK.2.2.1.1 hP hR.2.2.2.2.2.2.2.2.1 rfl) rfl hl.1 rfl (Nat.le_of_ble_eq_true rfl) dL_law_506 ⟨(by show (cells + 16) + 0 ≤ 601024; omega), (by show (slots + 128) + 0 ≤ 7293034; omega)⟩ (fun v G1 H locs hw hP hS => ?_)
    rcases hw with ⟨a2, ha2, e2, rfl, hR⟩ | ⟨ho2, ⟨x, rfl⟩, hR⟩
    · exact False.elim (absurd (e2 ▸ ho) (rg_out_no ha2 (by decide)))
    · refine W.eq (g2 := F0 m 509 ls [.int x]) rfl ?_
      refine lv_istore (lv' := [(6, .int x), (5, .int 1), (4, .int (nI i)), (0, .ref sc), (1, .ref (ly_a y 0)), (2, .ref (ly_a y 5)), (3, .ref (ly_a y 4))]) hK.1.1 hK.1.2.1 dL_law_509 hl (by decide) rfl (fun ls hl => ?_)
      refine lv_aload_n hK.1.1 hK.1.2.1 dL_law_511 rfl (lv_at hl 5 rfl) ?_
      refine gk_callV0 (n := 0) (As := []) (rest := []) hK (c_X5_thrown l hR) (gk_gV q_6_14 q_6_15 q_6_16 q_1_5 q_6_17) ⟨rfl, by decide +kernel, by decide +kernel, by decide +kernel⟩ ⟨(Nat.le_of_ble_eq_true rfl), (Nat.le_of_ble_eq_true rfl)⟩ hP hS (gk_recv hK.2.2.1.1 hP hR.2.2.2.2.2.2.2.2.1 rfl) rfl hl.1 rfl (Nat.le_of_ble_eq_true rfl) dL_law_512 ⟨(by show ((cells + 16) + 0) + 0 ≤ 601024; omega), (by show ((slots + 128) + 0) + 0 ≤ 7293034; omega)⟩ (fun v G1 H locs hw hP hS => ?_)
      obtain ⟨rfl, hG9⟩ := hw
      rw [hG9] at hP
      refine W.eq (g2 := F0 m 515 ls [.int 1]) rfl ?_
      refine lv_iload hK.1.1 hK.1.2.1 dL_law_515 (lv_at hl 1 rfl) ?_
      refine lv_icmp_eq (tgt := 522) hK.1.1 hK.1.2.1 dL_law_517 (by decide) (fun _ => ?_) (fun c => absurd (by decide) c)
      refine lv_iload hK.1.1 hK.1.2.1 dL_law_522 (lv_at hl 1 rfl) ?_
      refine lv_if_ne (tgt := 546) hK.1.1 hK.1.2.1 dL_law_524 (by decide) (fun _ => ?_) (fun c => absurd c (by decide))
      refine lv_goto (tgt := 1428) hK.1.1 hK.1.2.1 dL_law_546 (by decide) ?_
      exact W.widen (show (((cells + 16) + 0) + 0) ≤ cells + 100 by omega) (show (((slots + 128) + 0) + 0) ≤ slots + 8000 by omega) (kk ls _ _ _ _ _ _ _ _ _ _ _ _ _ _ _ _ _ _ _ _ _ _ hP hS hR (xI_mono hI) (lv_sub hl [2, 3, 4, 5, 6] rfl))
set_option maxHeartbeats 4000000 in
set_option maxRecDepth 100000 in
theorem lw_5 {p : Program} {l : Launch} {e : Env} {s : State} {m : MethodId} {args : Array Value} {below : List Frame} {meth : Method} {c : Code} {H : Heap} {locs : List Loc} {cells slots : Nat} {Q : State → Prop} {ls : Array Slot} {y : ly_T} {A : Nat → Prop} {G : gk_G} {td : Int32} {ru : Nat → Nat → Int32} {fr lv : Nat → Nat} {lt et tl : Nat → Int32} {hf hp : Nat → Option Nat} {ol : Nat → List Nat} {PS : Nat → Prop} {pf : Nat → Nat → Int32} {ov : Int64} {md mq mt : Int32} {mv : Nat → Nat → Int32} {row : List Nat} {fi : Nat → Nat} {N i n9 sc : Nat} {sf : Nat → Int32} (hfl : l.stackTraces = false) (hK : gk_K p s m c args cL_law RL 7 y A) (hT : va_T .int sc n9 (fun j => .int (sf j)) A s s.heap) (hP : gk_P (ly_D y) A G H) (hS : va_S A s.heap H locs) (hR : rp y G td ru fr lv lt et tl hf hp ol PS pf ov md mq mt mv) (hI : xI td ru fr (lv, lt, et, tl, ol, PS, pf) hf hp row fi md mq mv N) (hN : N < 512) (hc : cells + 100 ≤ 601024) (hs : slots + 8000 ≤ 7293034) (hi : i + 7 ≤ n9) (hn9 : n9 ≤ 3584) (hl : lv_has ls 7 [(4, .int (nI i)), (0, .ref sc), (1, .ref (ly_a y 0)), (2, .ref (ly_a y 5)), (3, .ref (ly_a y 4))]) (kk : ∀ (ls : Array Slot) (H : Heap) (locs : List Loc) (G : gk_G) (td : Int32) (ru : Nat → Nat → Int32) (fr lv : Nat → Nat) (lt et tl : Nat → Int32) (hf hp : Nat → Option Nat) (ol : Nat → List Nat) (PS : Nat → Prop) (pf : Nat → Nat → Int32) (ov : Int64) (md mq mt : Int32) (mv : Nat → Nat → Int32) (row : List Nat) (fi : Nat → Nat), gk_P (ly_D y) A G H → va_S A s.heap H locs → rp y G td ru fr lv lt et tl hf hp ol PS pf ov md mq mt mv → xI td ru fr (lv, lt, et, tl, ol, PS, pf) hf hp row fi md mq mv (N + 1) → lv_has ls 7 [(4, .int (nI i)), (0, .ref sc), (1, .ref (ly_a y 0)), (2, .ref (ly_a y 5)), (3, .ref (ly_a y 4))] → W p l e { frames := 12, cells := 601024, slots := 7293034, locals := 444 } s m args below meth c H locs (cells + 100) (slots + 8000) Q (F0 m 1428 ls [])) : W p l e { frames := 12, cells := 601024, slots := 7293034, locals := 444 } s m args below meth c H locs cells slots Q (F0 m 549 ls []) := by
  refine lv_aload_n hK.1.1 hK.1.2.1 dL_law_549 rfl (lv_at hl 2 rfl) ?_
  refine lv_aload_n hK.1.1 hK.1.2.1 dL_law_550 rfl (lv_at hl 1 rfl) ?_
  refine lv_iload hK.1.1 hK.1.2.1 dL_law_551 (lv_at hl 0 rfl) ?_
  refine lv_iconst (v := 1) hK.1.1 hK.1.2.1 dL_law_553 (by decide) ?_
  refine lv_iadd hK.1.1 hK.1.2.1 dL_law_554 ?_
  rw [show nI i + 1 = nI (i + 1) from nI_add i 1]
  refine va_ti hK.1.1 hK.1.2.1 hT hS (vp_in_nI (show i + 1 < n9 by omega) (by omega)) (v := .int (sf (i + 1))) (by rw [nI_clamp (by omega)]) dL_law_555 ?_
  refine lv_aload_n hK.1.1 hK.1.2.1 dL_law_556 rfl (lv_at hl 4 rfl) ?_
  refine gk_callSW (n := 3) (As := [.ref (ly_a y 0), .int (sf (i + 1)), .ref (ly_a y 4)]) (rest := []) hK (c_L_tell l hfl hR (i := (sf (i + 1))) ) (gk_gS q_9_14 q_9_15 q_5_0 q_9_16) ⟨by decide +kernel, by decide +kernel, by decide +kernel⟩ ⟨(Nat.le_of_ble_eq_true rfl), (Nat.le_of_ble_eq_true rfl)⟩ hP hS rfl hl.1 rfl (Nat.le_of_ble_eq_true rfl) dL_law_557 ⟨(by show cells + 16 ≤ 601024; omega), (by show slots + 128 ≤ 7293034; omega)⟩ (fun v G1 H locs hw hP hS => ?_)
  rcases hw with ⟨a, f, ha, hf5, e1, hfa, rfl, hR⟩ | ⟨ho, rfl, hR⟩ | ⟨⟨a, ha, e1, hna⟩, rfl, hR⟩
  · refine W.eq (g2 := F0 m 560 ls [.int 0]) rfl ?_
    refine lv_istore (lv' := [(5, .int 0), (4, .int (nI i)), (0, .ref sc), (1, .ref (ly_a y 0)), (2, .ref (ly_a y 5)), (3, .ref (ly_a y 4))]) hK.1.1 hK.1.2.1 dL_law_560 hl (by decide) rfl (fun ls hl => ?_)
    refine lv_aload_n hK.1.1 hK.1.2.1 dL_law_562 rfl (lv_at hl 4 rfl) ?_
    refine lv_aload_n hK.1.1 hK.1.2.1 dL_law_563 rfl (lv_at hl 2 rfl) ?_
    refine lv_iload hK.1.1 hK.1.2.1 dL_law_564 (lv_at hl 1 rfl) ?_
    refine lv_iconst (v := 1) hK.1.1 hK.1.2.1 dL_law_566 (by decide) ?_
    refine lv_iadd hK.1.1 hK.1.2.1 dL_law_567 ?_
    rw [show nI i + 1 = nI (i + 1) from nI_add i 1]
    refine va_ti hK.1.1 hK.1.2.1 hT hS (vp_in_nI (show i + 1 < n9 by omega) (by omega)) (v := .int (sf (i + 1))) (by rw [nI_clamp (by omega)]) dL_law_568 ?_
    refine gk_callV0 (n := 1) (As := [.int (sf (i + 1))]) (rest := []) hK (c_X5_tell l hR (i := (sf (i + 1))) ) (gk_gV q_10_0 q_10_1 q_10_2 q_1_5 q_10_3) ⟨rfl, by decide +kernel, by decide +kernel, by decide +kernel⟩ ⟨(Nat.le_of_ble_eq_true rfl), (Nat.le_of_ble_eq_true rfl)⟩ hP hS (gk_recv hK.2.2.1.1 hP hR.2.2.2.2.2.2.2.2.1 rfl) rfl hl.1 rfl (Nat.le_of_ble_eq_true rfl) dL_law_569 ⟨(by show (cells + 16) + 0 ≤ 601024; omega), (by show (slots + 128) + 0 ≤ 7293034; omega)⟩ (fun v G1 H locs hw hP hS => ?_)
    rcases hw with ⟨a2, ha2, e2, hn2, rfl, hR⟩ | ⟨ho2, ⟨x, rfl⟩, hR⟩ | ⟨a2, ha2, e2, hn2, ⟨x, rfl⟩, hR⟩
    · obtain rfl : a = a2 := (nI_eq (by omega) (by omega)).mp (e1.symm.trans e2)
      refine W.eq (g2 := F0 m 572 ls [.int (rg_b (decide (¬ mv 19 a = -1)))]) rfl ?_
      refine lv_istore (lv' := [(6, .int (rg_b (decide (¬ mv 19 a = -1)))), (5, .int 0), (4, .int (nI i)), (0, .ref sc), (1, .ref (ly_a y 0)), (2, .ref (ly_a y 5)), (3, .ref (ly_a y 4))]) hK.1.1 hK.1.2.1 dL_law_572 hl (by decide) rfl (fun ls hl => ?_)
      refine lv_aload_n hK.1.1 hK.1.2.1 dL_law_574 rfl (lv_at hl 5 rfl) ?_
      refine gk_callV0 (n := 0) (As := []) (rest := []) hK (c_X5_thrown l hR) (gk_gV q_6_14 q_6_15 q_6_16 q_1_5 q_6_17) ⟨rfl, by decide +kernel, by decide +kernel, by decide +kernel⟩ ⟨(Nat.le_of_ble_eq_true rfl), (Nat.le_of_ble_eq_true rfl)⟩ hP hS (gk_recv hK.2.2.1.1 hP hR.2.2.2.2.2.2.2.2.1 rfl) rfl hl.1 rfl (Nat.le_of_ble_eq_true rfl) dL_law_575 ⟨(by show ((cells + 16) + 0) + 0 ≤ 601024; omega), (by show ((slots + 128) + 0) + 0 ≤ 7293034; omega)⟩ (fun v G1 H locs hw hP hS => ?_)
      obtain ⟨rfl, hG9⟩ := hw
      rw [hG9] at hP
      refine W.eq (g2 := F0 m 578 ls [.int 0]) rfl ?_
      refine lv_iload hK.1.1 hK.1.2.1 dL_law_578 (lv_at hl 1 rfl) ?_
      refine lv_icmp_eq (tgt := 585) hK.1.1 hK.1.2.1 dL_law_580 (by decide) (fun _ => ?_) (fun c => absurd (by decide) c)
      refine lv_iload hK.1.1 hK.1.2.1 dL_law_585 (lv_at hl 1 rfl) ?_
      refine lv_if_ne (tgt := 609) hK.1.1 hK.1.2.1 dL_law_587 (by decide) (fun c => absurd c (by decide)) (fun _ => ?_)
      refine lv_aload_n hK.1.1 hK.1.2.1 dL_law_590 rfl (lv_at hl 6 rfl) ?_
      refine lv_iconst (v := 0) hK.1.1 hK.1.2.1 dL_law_591 (by decide) ?_
      refine lo_get hK hP hR dL_law_592 ?_
      refine lv_iload hK.1.1 hK.1.2.1 dL_law_593 (lv_at hl 0 rfl) ?_
      refine lv_if_eq (tgt := 602) hK.1.1 hK.1.2.1 dL_law_595 (by decide) (fun c595_1 => ?_) (fun c595_1 => ?_)
      · refine lv_lconst (v := 0) hK.1.1 hK.1.2.1 dL_law_602 (by decide) ?_
        refine W.lcmp hK.1.1 hK.1.2.1 dL_law_603 ?_
        refine lv_if_eq (tgt := 609) hK.1.1 hK.1.2.1 dL_law_604 (by decide) (fun _ => ?_) (fun c => absurd (by rw [lg_zf (B := (decide (¬ hp a = some (lv f)))) (d := decide (¬ mv 19 a = -1)) (xI_tell_b hI hN ha hfa) rfl c595_1]; simp [lg_cmp]) c)
        refine lv_goto (tgt := 1428) hK.1.1 hK.1.2.1 dL_law_609 (by decide) ?_
        exact W.widen (show (((cells + 16) + 0) + 0) ≤ cells + 100 by omega) (show (((slots + 128) + 0) + 0) ≤ slots + 8000 by omega) (kk ls _ _ _ _ _ _ _ _ _ _ _ _ _ _ _ _ _ _ _ _ _ _ hP hS hR (xI_tell hI ha hfa) (lv_sub hl [2, 3, 4, 5, 6] rfl))
      · refine lv_lconst (v := 1) hK.1.1 hK.1.2.1 dL_law_598 (by decide) ?_
        refine lv_goto (tgt := 603) hK.1.1 hK.1.2.1 dL_law_599 (by decide) ?_
        refine W.lcmp hK.1.1 hK.1.2.1 dL_law_603 ?_
        refine lv_if_eq (tgt := 609) hK.1.1 hK.1.2.1 dL_law_604 (by decide) (fun _ => ?_) (fun c => absurd (by rw [lg_zt (B := (decide (¬ hp a = some (lv f)))) (d := decide (¬ mv 19 a = -1)) (xI_tell_b hI hN ha hfa) rfl c595_1]; simp [lg_cmp]) c)
        refine lv_goto (tgt := 1428) hK.1.1 hK.1.2.1 dL_law_609 (by decide) ?_
        exact W.widen (show (((cells + 16) + 0) + 0) ≤ cells + 100 by omega) (show (((slots + 128) + 0) + 0) ≤ slots + 8000 by omega) (kk ls _ _ _ _ _ _ _ _ _ _ _ _ _ _ _ _ _ _ _ _ _ _ hP hS hR (xI_tell hI ha hfa) (lv_sub hl [2, 3, 4, 5, 6] rfl))
    · exact False.elim (absurd (e1 ▸ ho2) (rg_out_no ha (by decide)))
    · exact False.elim (by obtain rfl : a = a2 := (nI_eq (by omega) (by omega)).mp (e1.symm.trans e2); rw [(xI_none hI ha).mpr hn2] at hfa; cases hfa)
  · refine W.eq (g2 := F0 m 560 ls [.int 1]) rfl ?_
    refine lv_istore (lv' := [(5, .int 1), (4, .int (nI i)), (0, .ref sc), (1, .ref (ly_a y 0)), (2, .ref (ly_a y 5)), (3, .ref (ly_a y 4))]) hK.1.1 hK.1.2.1 dL_law_560 hl (by decide) rfl (fun ls hl => ?_)
    refine lv_aload_n hK.1.1 hK.1.2.1 dL_law_562 rfl (lv_at hl 4 rfl) ?_
    refine lv_aload_n hK.1.1 hK.1.2.1 dL_law_563 rfl (lv_at hl 2 rfl) ?_
    refine lv_iload hK.1.1 hK.1.2.1 dL_law_564 (lv_at hl 1 rfl) ?_
    refine lv_iconst (v := 1) hK.1.1 hK.1.2.1 dL_law_566 (by decide) ?_
    refine lv_iadd hK.1.1 hK.1.2.1 dL_law_567 ?_
    rw [show nI i + 1 = nI (i + 1) from nI_add i 1]
    refine va_ti hK.1.1 hK.1.2.1 hT hS (vp_in_nI (show i + 1 < n9 by omega) (by omega)) (v := .int (sf (i + 1))) (by rw [nI_clamp (by omega)]) dL_law_568 ?_
    refine gk_callV0 (n := 1) (As := [.int (sf (i + 1))]) (rest := []) hK (c_X5_tell l hR (i := (sf (i + 1))) ) (gk_gV q_10_0 q_10_1 q_10_2 q_1_5 q_10_3) ⟨rfl, by decide +kernel, by decide +kernel, by decide +kernel⟩ ⟨(Nat.le_of_ble_eq_true rfl), (Nat.le_of_ble_eq_true rfl)⟩ hP hS (gk_recv hK.2.2.1.1 hP hR.2.2.2.2.2.2.2.2.1 rfl) rfl hl.1 rfl (Nat.le_of_ble_eq_true rfl) dL_law_569 ⟨(by show (cells + 16) + 0 ≤ 601024; omega), (by show (slots + 128) + 0 ≤ 7293034; omega)⟩ (fun v G1 H locs hw hP hS => ?_)
    rcases hw with ⟨a2, ha2, e2, hn2, rfl, hR⟩ | ⟨ho2, ⟨x, rfl⟩, hR⟩ | ⟨a2, ha2, e2, hn2, ⟨x, rfl⟩, hR⟩
    · exact False.elim (absurd (e2 ▸ ho) (rg_out_no ha2 (by decide)))
    · refine W.eq (g2 := F0 m 572 ls [.int x]) rfl ?_
      refine lv_istore (lv' := [(6, .int x), (5, .int 1), (4, .int (nI i)), (0, .ref sc), (1, .ref (ly_a y 0)), (2, .ref (ly_a y 5)), (3, .ref (ly_a y 4))]) hK.1.1 hK.1.2.1 dL_law_572 hl (by decide) rfl (fun ls hl => ?_)
      refine lv_aload_n hK.1.1 hK.1.2.1 dL_law_574 rfl (lv_at hl 5 rfl) ?_
      refine gk_callV0 (n := 0) (As := []) (rest := []) hK (c_X5_thrown l hR) (gk_gV q_6_14 q_6_15 q_6_16 q_1_5 q_6_17) ⟨rfl, by decide +kernel, by decide +kernel, by decide +kernel⟩ ⟨(Nat.le_of_ble_eq_true rfl), (Nat.le_of_ble_eq_true rfl)⟩ hP hS (gk_recv hK.2.2.1.1 hP hR.2.2.2.2.2.2.2.2.1 rfl) rfl hl.1 rfl (Nat.le_of_ble_eq_true rfl) dL_law_575 ⟨(by show ((cells + 16) + 0) + 0 ≤ 601024; omega), (by show ((slots + 128) + 0) + 0 ≤ 7293034; omega)⟩ (fun v G1 H locs hw hP hS => ?_)
      obtain ⟨rfl, hG9⟩ := hw
      rw [hG9] at hP
      refine W.eq (g2 := F0 m 578 ls [.int 1]) rfl ?_
      refine lv_iload hK.1.1 hK.1.2.1 dL_law_578 (lv_at hl 1 rfl) ?_
      refine lv_icmp_eq (tgt := 585) hK.1.1 hK.1.2.1 dL_law_580 (by decide) (fun _ => ?_) (fun c => absurd (by decide) c)
      refine lv_iload hK.1.1 hK.1.2.1 dL_law_585 (lv_at hl 1 rfl) ?_
      refine lv_if_ne (tgt := 609) hK.1.1 hK.1.2.1 dL_law_587 (by decide) (fun _ => ?_) (fun c => absurd c (by decide))
      refine lv_goto (tgt := 1428) hK.1.1 hK.1.2.1 dL_law_609 (by decide) ?_
      exact W.widen (show (((cells + 16) + 0) + 0) ≤ cells + 100 by omega) (show (((slots + 128) + 0) + 0) ≤ slots + 8000 by omega) (kk ls _ _ _ _ _ _ _ _ _ _ _ _ _ _ _ _ _ _ _ _ _ _ hP hS hR (xI_mono hI) (lv_sub hl [2, 3, 4, 5, 6] rfl))
    · exact False.elim (absurd (e2 ▸ ho) (rg_out_no ha2 (by decide)))
  · refine W.eq (g2 := F0 m 560 ls [.int 2]) rfl ?_
    refine lv_istore (lv' := [(5, .int 2), (4, .int (nI i)), (0, .ref sc), (1, .ref (ly_a y 0)), (2, .ref (ly_a y 5)), (3, .ref (ly_a y 4))]) hK.1.1 hK.1.2.1 dL_law_560 hl (by decide) rfl (fun ls hl => ?_)
    refine lv_aload_n hK.1.1 hK.1.2.1 dL_law_562 rfl (lv_at hl 4 rfl) ?_
    refine lv_aload_n hK.1.1 hK.1.2.1 dL_law_563 rfl (lv_at hl 2 rfl) ?_
    refine lv_iload hK.1.1 hK.1.2.1 dL_law_564 (lv_at hl 1 rfl) ?_
    refine lv_iconst (v := 1) hK.1.1 hK.1.2.1 dL_law_566 (by decide) ?_
    refine lv_iadd hK.1.1 hK.1.2.1 dL_law_567 ?_
    rw [show nI i + 1 = nI (i + 1) from nI_add i 1]
    refine va_ti hK.1.1 hK.1.2.1 hT hS (vp_in_nI (show i + 1 < n9 by omega) (by omega)) (v := .int (sf (i + 1))) (by rw [nI_clamp (by omega)]) dL_law_568 ?_
    refine gk_callV0 (n := 1) (As := [.int (sf (i + 1))]) (rest := []) hK (c_X5_tell l hR (i := (sf (i + 1))) ) (gk_gV q_10_0 q_10_1 q_10_2 q_1_5 q_10_3) ⟨rfl, by decide +kernel, by decide +kernel, by decide +kernel⟩ ⟨(Nat.le_of_ble_eq_true rfl), (Nat.le_of_ble_eq_true rfl)⟩ hP hS (gk_recv hK.2.2.1.1 hP hR.2.2.2.2.2.2.2.2.1 rfl) rfl hl.1 rfl (Nat.le_of_ble_eq_true rfl) dL_law_569 ⟨(by show (cells + 16) + 0 ≤ 601024; omega), (by show (slots + 128) + 0 ≤ 7293034; omega)⟩ (fun v G1 H locs hw hP hS => ?_)
    rcases hw with ⟨a2, ha2, e2, hn2, rfl, hR⟩ | ⟨ho2, ⟨x, rfl⟩, hR⟩ | ⟨a2, ha2, e2, hn2, ⟨x, rfl⟩, hR⟩
    · exact False.elim (by obtain rfl : a = a2 := (nI_eq (by omega) (by omega)).mp (e1.symm.trans e2); exact hn2 ((xI_none hI ha).mp hna))
    · exact False.elim (absurd (e1 ▸ ho2) (rg_out_no ha (by decide)))
    · refine W.eq (g2 := F0 m 572 ls [.int x]) rfl ?_
      refine lv_istore (lv' := [(6, .int x), (5, .int 2), (4, .int (nI i)), (0, .ref sc), (1, .ref (ly_a y 0)), (2, .ref (ly_a y 5)), (3, .ref (ly_a y 4))]) hK.1.1 hK.1.2.1 dL_law_572 hl (by decide) rfl (fun ls hl => ?_)
      refine lv_aload_n hK.1.1 hK.1.2.1 dL_law_574 rfl (lv_at hl 5 rfl) ?_
      refine gk_callV0 (n := 0) (As := []) (rest := []) hK (c_X5_thrown l hR) (gk_gV q_6_14 q_6_15 q_6_16 q_1_5 q_6_17) ⟨rfl, by decide +kernel, by decide +kernel, by decide +kernel⟩ ⟨(Nat.le_of_ble_eq_true rfl), (Nat.le_of_ble_eq_true rfl)⟩ hP hS (gk_recv hK.2.2.1.1 hP hR.2.2.2.2.2.2.2.2.1 rfl) rfl hl.1 rfl (Nat.le_of_ble_eq_true rfl) dL_law_575 ⟨(by show ((cells + 16) + 0) + 0 ≤ 601024; omega), (by show ((slots + 128) + 0) + 0 ≤ 7293034; omega)⟩ (fun v G1 H locs hw hP hS => ?_)
      obtain ⟨rfl, hG9⟩ := hw
      rw [hG9] at hP
      refine W.eq (g2 := F0 m 578 ls [.int 2]) rfl ?_
      refine lv_iload hK.1.1 hK.1.2.1 dL_law_578 (lv_at hl 1 rfl) ?_
      refine lv_icmp_eq (tgt := 585) hK.1.1 hK.1.2.1 dL_law_580 (by decide) (fun _ => ?_) (fun c => absurd (by decide) c)
      refine lv_iload hK.1.1 hK.1.2.1 dL_law_585 (lv_at hl 1 rfl) ?_
      refine lv_if_ne (tgt := 609) hK.1.1 hK.1.2.1 dL_law_587 (by decide) (fun _ => ?_) (fun c => absurd c (by decide))
      refine lv_goto (tgt := 1428) hK.1.1 hK.1.2.1 dL_law_609 (by decide) ?_
      exact W.widen (show (((cells + 16) + 0) + 0) ≤ cells + 100 by omega) (show (((slots + 128) + 0) + 0) ≤ slots + 8000 by omega) (kk ls _ _ _ _ _ _ _ _ _ _ _ _ _ _ _ _ _ _ _ _ _ _ hP hS hR (xI_mono hI) (lv_sub hl [2, 3, 4, 5, 6] rfl))
set_option maxHeartbeats 4000000 in
set_option maxRecDepth 100000 in
theorem lw_6 {p : Program} {l : Launch} {e : Env} {s : State} {m : MethodId} {args : Array Value} {below : List Frame} {meth : Method} {c : Code} {H : Heap} {locs : List Loc} {cells slots : Nat} {Q : State → Prop} {ls : Array Slot} {y : ly_T} {A : Nat → Prop} {G : gk_G} {td : Int32} {ru : Nat → Nat → Int32} {fr lv : Nat → Nat} {lt et tl : Nat → Int32} {hf hp : Nat → Option Nat} {ol : Nat → List Nat} {PS : Nat → Prop} {pf : Nat → Nat → Int32} {ov : Int64} {md mq mt : Int32} {mv : Nat → Nat → Int32} {row : List Nat} {fi : Nat → Nat} {N i n9 sc : Nat} {sf : Nat → Int32} (hfl : l.stackTraces = false) (hK : gk_K p s m c args cL_law RL 7 y A) (hT : va_T .int sc n9 (fun j => .int (sf j)) A s s.heap) (hP : gk_P (ly_D y) A G H) (hS : va_S A s.heap H locs) (hR : rp y G td ru fr lv lt et tl hf hp ol PS pf ov md mq mt mv) (hI : xI td ru fr (lv, lt, et, tl, ol, PS, pf) hf hp row fi md mq mv N) (hN : N < 512) (hc : cells + 100 ≤ 601024) (hs : slots + 8000 ≤ 7293034) (hi : i + 7 ≤ n9) (hn9 : n9 ≤ 3584) (hl : lv_has ls 7 [(4, .int (nI i)), (0, .ref sc), (1, .ref (ly_a y 0)), (2, .ref (ly_a y 5)), (3, .ref (ly_a y 4))]) (kk : ∀ (ls : Array Slot) (H : Heap) (locs : List Loc) (G : gk_G) (td : Int32) (ru : Nat → Nat → Int32) (fr lv : Nat → Nat) (lt et tl : Nat → Int32) (hf hp : Nat → Option Nat) (ol : Nat → List Nat) (PS : Nat → Prop) (pf : Nat → Nat → Int32) (ov : Int64) (md mq mt : Int32) (mv : Nat → Nat → Int32) (row : List Nat) (fi : Nat → Nat), gk_P (ly_D y) A G H → va_S A s.heap H locs → rp y G td ru fr lv lt et tl hf hp ol PS pf ov md mq mt mv → xI td ru fr (lv, lt, et, tl, ol, PS, pf) hf hp row fi md mq mv (N + 1) → lv_has ls 7 [(4, .int (nI i)), (0, .ref sc), (1, .ref (ly_a y 0)), (2, .ref (ly_a y 5)), (3, .ref (ly_a y 4))] → W p l e { frames := 12, cells := 601024, slots := 7293034, locals := 444 } s m args below meth c H locs (cells + 100) (slots + 8000) Q (F0 m 1428 ls [])) : W p l e { frames := 12, cells := 601024, slots := 7293034, locals := 444 } s m args below meth c H locs cells slots Q (F0 m 612 ls []) := by
  refine lv_aload_n hK.1.1 hK.1.2.1 dL_law_612 rfl (lv_at hl 2 rfl) ?_
  refine lv_aload_n hK.1.1 hK.1.2.1 dL_law_613 rfl (lv_at hl 1 rfl) ?_
  refine lv_iload hK.1.1 hK.1.2.1 dL_law_614 (lv_at hl 0 rfl) ?_
  refine lv_iconst (v := 1) hK.1.1 hK.1.2.1 dL_law_616 (by decide) ?_
  refine lv_iadd hK.1.1 hK.1.2.1 dL_law_617 ?_
  rw [show nI i + 1 = nI (i + 1) from nI_add i 1]
  refine va_ti hK.1.1 hK.1.2.1 hT hS (vp_in_nI (show i + 1 < n9 by omega) (by omega)) (v := .int (sf (i + 1))) (by rw [nI_clamp (by omega)]) dL_law_618 ?_
  refine lv_aload_n hK.1.1 hK.1.2.1 dL_law_619 rfl (lv_at hl 1 rfl) ?_
  refine lv_iload hK.1.1 hK.1.2.1 dL_law_620 (lv_at hl 0 rfl) ?_
  refine lv_iconst (v := 2) hK.1.1 hK.1.2.1 dL_law_622 (by decide) ?_
  refine lv_iadd hK.1.1 hK.1.2.1 dL_law_623 ?_
  rw [show nI i + 2 = nI (i + 2) from nI_add i 2]
  refine va_ti hK.1.1 hK.1.2.1 hT hS (vp_in_nI (show i + 2 < n9 by omega) (by omega)) (v := .int (sf (i + 2))) (by rw [nI_clamp (by omega)]) dL_law_624 ?_
  refine lv_aload_n hK.1.1 hK.1.2.1 dL_law_625 rfl (lv_at hl 4 rfl) ?_
  refine gk_callSW (n := 4) (As := [.ref (ly_a y 0), .int (sf (i + 1)), .int (sf (i + 2)), .ref (ly_a y 4)]) (rest := []) hK (c_L_write l hfl hR (i := (sf (i + 1))) (n := (sf (i + 2))) (xI_Lp hI)) (gk_gS q_10_4 q_10_5 q_5_0 q_10_6) ⟨by decide +kernel, by decide +kernel, by decide +kernel⟩ ⟨(Nat.le_of_ble_eq_true rfl), (Nat.le_of_ble_eq_true rfl)⟩ hP hS rfl hl.1 rfl (Nat.le_of_ble_eq_true rfl) dL_law_626 ⟨(by show cells + 16 ≤ 601024; omega), (by show slots + 128 ≤ 7293034; omega)⟩ (fun v G1 H locs hw hP hS => ?_)
  rcases hw with ⟨a, t, ha, e1, hat, hok, rfl, hR⟩ | ⟨ho, rfl, hR⟩ | ⟨⟨hno, hnk⟩, rfl, hR⟩ | ⟨⟨hok, a, ha, e1, hna⟩, rfl, hR⟩
  · refine W.eq (g2 := F0 m 629 ls [.int 0]) rfl ?_
    refine lv_istore (lv' := [(5, .int 0), (4, .int (nI i)), (0, .ref sc), (1, .ref (ly_a y 0)), (2, .ref (ly_a y 5)), (3, .ref (ly_a y 4))]) hK.1.1 hK.1.2.1 dL_law_629 hl (by decide) rfl (fun ls hl => ?_)
    refine lv_aload_n hK.1.1 hK.1.2.1 dL_law_631 rfl (lv_at hl 4 rfl) ?_
    refine lv_aload_n hK.1.1 hK.1.2.1 dL_law_632 rfl (lv_at hl 2 rfl) ?_
    refine lv_iload hK.1.1 hK.1.2.1 dL_law_633 (lv_at hl 1 rfl) ?_
    refine lv_iconst (v := 1) hK.1.1 hK.1.2.1 dL_law_635 (by decide) ?_
    refine lv_iadd hK.1.1 hK.1.2.1 dL_law_636 ?_
    rw [show nI i + 1 = nI (i + 1) from nI_add i 1]
    refine va_ti hK.1.1 hK.1.2.1 hT hS (vp_in_nI (show i + 1 < n9 by omega) (by omega)) (v := .int (sf (i + 1))) (by rw [nI_clamp (by omega)]) dL_law_637 ?_
    refine lv_aload_n hK.1.1 hK.1.2.1 dL_law_638 rfl (lv_at hl 2 rfl) ?_
    refine lv_iload hK.1.1 hK.1.2.1 dL_law_639 (lv_at hl 1 rfl) ?_
    refine lv_iconst (v := 2) hK.1.1 hK.1.2.1 dL_law_641 (by decide) ?_
    refine lv_iadd hK.1.1 hK.1.2.1 dL_law_642 ?_
    rw [show nI i + 2 = nI (i + 2) from nI_add i 2]
    refine va_ti hK.1.1 hK.1.2.1 hT hS (vp_in_nI (show i + 2 < n9 by omega) (by omega)) (v := .int (sf (i + 2))) (by rw [nI_clamp (by omega)]) dL_law_643 ?_
    refine gk_callV0 (n := 2) (As := [.int (sf (i + 1)), .int (sf (i + 2))]) (rest := []) hK (c_X5_write l hR (i := (sf (i + 1))) (n := (sf (i + 2))) (xI_18 hI) (xI_19 hI hN)) (gk_gV q_10_12 q_10_13 q_10_14 q_1_5 q_10_15) ⟨rfl, by decide +kernel, by decide +kernel, by decide +kernel⟩ ⟨(Nat.le_of_ble_eq_true rfl), (Nat.le_of_ble_eq_true rfl)⟩ hP hS (gk_recv hK.2.2.1.1 hP hR.2.2.2.2.2.2.2.2.1 rfl) rfl hl.1 rfl (Nat.le_of_ble_eq_true rfl) dL_law_644 ⟨(by show (cells + 16) + 0 ≤ 601024; omega), (by show (slots + 128) + 0 ≤ 7293034; omega)⟩ (fun v G1 H locs hw hP hS => ?_)
    rcases hw with ⟨a2, ha2, e2, hok2, hn2, ⟨h19, f2, hf52, h18, rfl, hR⟩ | ⟨q, hq4, h19, rfl, hR⟩⟩ | ⟨ho2, ⟨x, rfl⟩, hR⟩ | ⟨hno2, hnk2, ⟨x, rfl⟩, hR⟩ | ⟨hok2, a2, ha2, e2, hn2, ⟨x, rfl⟩, hR⟩
    · obtain rfl : a = a2 := (nI_eq (by omega) (by omega)).mp (e1.symm.trans e2)
      obtain ⟨f, hf5, g18, rfl⟩ : ∃ f, f < 5 ∧ mv 18 a = nI f ∧ t = lv f := by
        rcases xI_wr hI ha hat with ⟨-, z⟩ | ⟨k, hk, z, -⟩
        · exact z
        · have := (xI_q hI hN).2
          exact absurd (z.symm.trans h19) (m_nIn (by omega))
      obtain rfl : f = f2 := (nI_eq (by omega) (by omega)).mp (g18.symm.trans h18)
      refine W.eq (g2 := F0 m 647 ls [.int (mv 10 f + sf (i + 2))]) rfl ?_
      refine lv_istore (lv' := [(6, .int (mv 10 f + sf (i + 2))), (5, .int 0), (4, .int (nI i)), (0, .ref sc), (1, .ref (ly_a y 0)), (2, .ref (ly_a y 5)), (3, .ref (ly_a y 4))]) hK.1.1 hK.1.2.1 dL_law_647 hl (by decide) rfl (fun ls hl => ?_)
      refine lv_aload_n hK.1.1 hK.1.2.1 dL_law_649 rfl (lv_at hl 5 rfl) ?_
      refine gk_callV0 (n := 0) (As := []) (rest := []) hK (c_X5_thrown l hR) (gk_gV q_6_14 q_6_15 q_6_16 q_1_5 q_6_17) ⟨rfl, by decide +kernel, by decide +kernel, by decide +kernel⟩ ⟨(Nat.le_of_ble_eq_true rfl), (Nat.le_of_ble_eq_true rfl)⟩ hP hS (gk_recv hK.2.2.1.1 hP hR.2.2.2.2.2.2.2.2.1 rfl) rfl hl.1 rfl (Nat.le_of_ble_eq_true rfl) dL_law_650 ⟨(by show ((cells + 16) + 0) + 0 ≤ 601024; omega), (by show ((slots + 128) + 0) + 0 ≤ 7293034; omega)⟩ (fun v G1 H locs hw hP hS => ?_)
      obtain ⟨rfl, hG9⟩ := hw
      rw [hG9] at hP
      refine W.eq (g2 := F0 m 653 ls [.int 0]) rfl ?_
      refine lv_iload hK.1.1 hK.1.2.1 dL_law_653 (lv_at hl 1 rfl) ?_
      refine lv_icmp_eq (tgt := 660) hK.1.1 hK.1.2.1 dL_law_655 (by decide) (fun _ => ?_) (fun c => absurd (by decide) c)
      refine lv_iload hK.1.1 hK.1.2.1 dL_law_660 (lv_at hl 1 rfl) ?_
      refine lv_if_ne (tgt := 677) hK.1.1 hK.1.2.1 dL_law_662 (by decide) (fun c => absurd c (by decide)) (fun _ => ?_)
      refine lv_aload_n hK.1.1 hK.1.2.1 dL_law_665 rfl (lv_at hl 6 rfl) ?_
      refine lv_iconst (v := 0) hK.1.1 hK.1.2.1 dL_law_666 (by decide) ?_
      refine lo_get hK hP hR dL_law_667 ?_
      refine lv_iload hK.1.1 hK.1.2.1 dL_law_668 (lv_at hl 0 rfl) ?_
      refine lv_i2l hK.1.1 hK.1.2.1 dL_law_670 rfl ?_
      refine W.lcmp hK.1.1 hK.1.2.1 dL_law_671 ?_
      refine lv_if_eq (tgt := 677) hK.1.1 hK.1.2.1 dL_law_672 (by decide) (fun _ => ?_) (fun c => absurd (by rw [show mv 10 f = pf 0 (lv f) from (hI.1.2.2.2.1 f hf5).2.1]; simp [lg_cmp]) c)
      refine lv_goto (tgt := 1428) hK.1.1 hK.1.2.1 dL_law_677 (by decide) ?_
      exact W.widen (show (((cells + 16) + 0) + 0) ≤ cells + 100 by omega) (show (((slots + 128) + 0) + 0) ≤ slots + 8000 by omega) (kk ls _ _ _ _ _ _ _ _ _ _ _ _ _ _ _ _ _ _ _ _ _ _ hP hS hR (xI_write1 (a := 0) hI hN hf5 hok) (lv_sub hl [2, 3, 4, 5, 6] rfl))
    · obtain rfl : a = a2 := (nI_eq (by omega) (by omega)).mp (e1.symm.trans e2)
      have hk : row[q]? = some t := by
        rcases xI_wr hI ha hat with ⟨z, -⟩ | ⟨k, hk, z, hk2, -⟩
        · exact absurd (h19.symm.trans z) (m_nIn (by omega))
        · have := (xI_q hI hN).2
          obtain rfl : k = q := (nI_eq (by omega) (by omega)).mp (z.symm.trans h19)
          exact hk2
      refine W.eq (g2 := F0 m 647 ls [.int (mv 15 q + sf (i + 2))]) rfl ?_
      refine lv_istore (lv' := [(6, .int (mv 15 q + sf (i + 2))), (5, .int 0), (4, .int (nI i)), (0, .ref sc), (1, .ref (ly_a y 0)), (2, .ref (ly_a y 5)), (3, .ref (ly_a y 4))]) hK.1.1 hK.1.2.1 dL_law_647 hl (by decide) rfl (fun ls hl => ?_)
      refine lv_aload_n hK.1.1 hK.1.2.1 dL_law_649 rfl (lv_at hl 5 rfl) ?_
      refine gk_callV0 (n := 0) (As := []) (rest := []) hK (c_X5_thrown l hR) (gk_gV q_6_14 q_6_15 q_6_16 q_1_5 q_6_17) ⟨rfl, by decide +kernel, by decide +kernel, by decide +kernel⟩ ⟨(Nat.le_of_ble_eq_true rfl), (Nat.le_of_ble_eq_true rfl)⟩ hP hS (gk_recv hK.2.2.1.1 hP hR.2.2.2.2.2.2.2.2.1 rfl) rfl hl.1 rfl (Nat.le_of_ble_eq_true rfl) dL_law_650 ⟨(by show ((cells + 16) + 0) + 0 ≤ 601024; omega), (by show ((slots + 128) + 0) + 0 ≤ 7293034; omega)⟩ (fun v G1 H locs hw hP hS => ?_)
      obtain ⟨rfl, hG9⟩ := hw
      rw [hG9] at hP
      refine W.eq (g2 := F0 m 653 ls [.int 0]) rfl ?_
      refine lv_iload hK.1.1 hK.1.2.1 dL_law_653 (lv_at hl 1 rfl) ?_
      refine lv_icmp_eq (tgt := 660) hK.1.1 hK.1.2.1 dL_law_655 (by decide) (fun _ => ?_) (fun c => absurd (by decide) c)
      refine lv_iload hK.1.1 hK.1.2.1 dL_law_660 (lv_at hl 1 rfl) ?_
      refine lv_if_ne (tgt := 677) hK.1.1 hK.1.2.1 dL_law_662 (by decide) (fun c => absurd c (by decide)) (fun _ => ?_)
      refine lv_aload_n hK.1.1 hK.1.2.1 dL_law_665 rfl (lv_at hl 6 rfl) ?_
      refine lv_iconst (v := 0) hK.1.1 hK.1.2.1 dL_law_666 (by decide) ?_
      refine lo_get hK hP hR dL_law_667 ?_
      refine lv_iload hK.1.1 hK.1.2.1 dL_law_668 (lv_at hl 0 rfl) ?_
      refine lv_i2l hK.1.1 hK.1.2.1 dL_law_670 rfl ?_
      refine W.lcmp hK.1.1 hK.1.2.1 dL_law_671 ?_
      refine lv_if_eq (tgt := 677) hK.1.1 hK.1.2.1 dL_law_672 (by decide) (fun _ => ?_) (fun c => absurd (by rw [show mv 15 q = pf 0 t from (hI.1.2.2.2.2.1 q t hk).2.1]; simp [lg_cmp]) c)
      refine lv_goto (tgt := 1428) hK.1.1 hK.1.2.1 dL_law_677 (by decide) ?_
      exact W.widen (show (((cells + 16) + 0) + 0) ≤ cells + 100 by omega) (show (((slots + 128) + 0) + 0) ≤ slots + 8000 by omega) (kk ls _ _ _ _ _ _ _ _ _ _ _ _ _ _ _ _ _ _ _ _ _ _ hP hS hR (xI_write2 hI hk) (lv_sub hl [2, 3, 4, 5, 6] rfl))
    · exact False.elim (absurd (e1 ▸ ho2) (rg_out_no ha (by decide)))
    · exact False.elim (hnk2 hok)
    · exact False.elim (by obtain rfl : a = a2 := (nI_eq (by omega) (by omega)).mp (e1.symm.trans e2); rw [(xI_none2 hI ha).mpr hn2] at hat; cases hat)
  · refine W.eq (g2 := F0 m 629 ls [.int 1]) rfl ?_
    refine lv_istore (lv' := [(5, .int 1), (4, .int (nI i)), (0, .ref sc), (1, .ref (ly_a y 0)), (2, .ref (ly_a y 5)), (3, .ref (ly_a y 4))]) hK.1.1 hK.1.2.1 dL_law_629 hl (by decide) rfl (fun ls hl => ?_)
    refine lv_aload_n hK.1.1 hK.1.2.1 dL_law_631 rfl (lv_at hl 4 rfl) ?_
    refine lv_aload_n hK.1.1 hK.1.2.1 dL_law_632 rfl (lv_at hl 2 rfl) ?_
    refine lv_iload hK.1.1 hK.1.2.1 dL_law_633 (lv_at hl 1 rfl) ?_
    refine lv_iconst (v := 1) hK.1.1 hK.1.2.1 dL_law_635 (by decide) ?_
    refine lv_iadd hK.1.1 hK.1.2.1 dL_law_636 ?_
    rw [show nI i + 1 = nI (i + 1) from nI_add i 1]
    refine va_ti hK.1.1 hK.1.2.1 hT hS (vp_in_nI (show i + 1 < n9 by omega) (by omega)) (v := .int (sf (i + 1))) (by rw [nI_clamp (by omega)]) dL_law_637 ?_
    refine lv_aload_n hK.1.1 hK.1.2.1 dL_law_638 rfl (lv_at hl 2 rfl) ?_
    refine lv_iload hK.1.1 hK.1.2.1 dL_law_639 (lv_at hl 1 rfl) ?_
    refine lv_iconst (v := 2) hK.1.1 hK.1.2.1 dL_law_641 (by decide) ?_
    refine lv_iadd hK.1.1 hK.1.2.1 dL_law_642 ?_
    rw [show nI i + 2 = nI (i + 2) from nI_add i 2]
    refine va_ti hK.1.1 hK.1.2.1 hT hS (vp_in_nI (show i + 2 < n9 by omega) (by omega)) (v := .int (sf (i + 2))) (by rw [nI_clamp (by omega)]) dL_law_643 ?_
    refine gk_callV0 (n := 2) (As := [.int (sf (i + 1)), .int (sf (i + 2))]) (rest := []) hK (c_X5_write l hR (i := (sf (i + 1))) (n := (sf (i + 2))) (xI_18 hI) (xI_19 hI hN)) (gk_gV q_10_12 q_10_13 q_10_14 q_1_5 q_10_15) ⟨rfl, by decide +kernel, by decide +kernel, by decide +kernel⟩ ⟨(Nat.le_of_ble_eq_true rfl), (Nat.le_of_ble_eq_true rfl)⟩ hP hS (gk_recv hK.2.2.1.1 hP hR.2.2.2.2.2.2.2.2.1 rfl) rfl hl.1 rfl (Nat.le_of_ble_eq_true rfl) dL_law_644 ⟨(by show (cells + 16) + 0 ≤ 601024; omega), (by show (slots + 128) + 0 ≤ 7293034; omega)⟩ (fun v G1 H locs hw hP hS => ?_)
    rcases hw with ⟨a2, ha2, e2, hok2, hn2, ⟨h19, f2, hf52, h18, rfl, hR⟩ | ⟨q, hq4, h19, rfl, hR⟩⟩ | ⟨ho2, ⟨x, rfl⟩, hR⟩ | ⟨hno2, hnk2, ⟨x, rfl⟩, hR⟩ | ⟨hok2, a2, ha2, e2, hn2, ⟨x, rfl⟩, hR⟩
    · exact False.elim (absurd (e2 ▸ ho) (rg_out_no ha2 (by decide)))
    · exact False.elim (absurd (e2 ▸ ho) (rg_out_no ha2 (by decide)))
    · refine W.eq (g2 := F0 m 647 ls [.int x]) rfl ?_
      refine lv_istore (lv' := [(6, .int x), (5, .int 1), (4, .int (nI i)), (0, .ref sc), (1, .ref (ly_a y 0)), (2, .ref (ly_a y 5)), (3, .ref (ly_a y 4))]) hK.1.1 hK.1.2.1 dL_law_647 hl (by decide) rfl (fun ls hl => ?_)
      refine lv_aload_n hK.1.1 hK.1.2.1 dL_law_649 rfl (lv_at hl 5 rfl) ?_
      refine gk_callV0 (n := 0) (As := []) (rest := []) hK (c_X5_thrown l hR) (gk_gV q_6_14 q_6_15 q_6_16 q_1_5 q_6_17) ⟨rfl, by decide +kernel, by decide +kernel, by decide +kernel⟩ ⟨(Nat.le_of_ble_eq_true rfl), (Nat.le_of_ble_eq_true rfl)⟩ hP hS (gk_recv hK.2.2.1.1 hP hR.2.2.2.2.2.2.2.2.1 rfl) rfl hl.1 rfl (Nat.le_of_ble_eq_true rfl) dL_law_650 ⟨(by show ((cells + 16) + 0) + 0 ≤ 601024; omega), (by show ((slots + 128) + 0) + 0 ≤ 7293034; omega)⟩ (fun v G1 H locs hw hP hS => ?_)
      obtain ⟨rfl, hG9⟩ := hw
      rw [hG9] at hP
      refine W.eq (g2 := F0 m 653 ls [.int 1]) rfl ?_
      refine lv_iload hK.1.1 hK.1.2.1 dL_law_653 (lv_at hl 1 rfl) ?_
      refine lv_icmp_eq (tgt := 660) hK.1.1 hK.1.2.1 dL_law_655 (by decide) (fun _ => ?_) (fun c => absurd (by decide) c)
      refine lv_iload hK.1.1 hK.1.2.1 dL_law_660 (lv_at hl 1 rfl) ?_
      refine lv_if_ne (tgt := 677) hK.1.1 hK.1.2.1 dL_law_662 (by decide) (fun _ => ?_) (fun c => absurd c (by decide))
      refine lv_goto (tgt := 1428) hK.1.1 hK.1.2.1 dL_law_677 (by decide) ?_
      exact W.widen (show (((cells + 16) + 0) + 0) ≤ cells + 100 by omega) (show (((slots + 128) + 0) + 0) ≤ slots + 8000 by omega) (kk ls _ _ _ _ _ _ _ _ _ _ _ _ _ _ _ _ _ _ _ _ _ _ hP hS hR (xI_mono hI) (lv_sub hl [2, 3, 4, 5, 6] rfl))
    · exact False.elim (hno2 ho)
    · exact False.elim (absurd (e2 ▸ ho) (rg_out_no ha2 (by decide)))
  · refine W.eq (g2 := F0 m 629 ls [.int 2]) rfl ?_
    refine lv_istore (lv' := [(5, .int 2), (4, .int (nI i)), (0, .ref sc), (1, .ref (ly_a y 0)), (2, .ref (ly_a y 5)), (3, .ref (ly_a y 4))]) hK.1.1 hK.1.2.1 dL_law_629 hl (by decide) rfl (fun ls hl => ?_)
    refine lv_aload_n hK.1.1 hK.1.2.1 dL_law_631 rfl (lv_at hl 4 rfl) ?_
    refine lv_aload_n hK.1.1 hK.1.2.1 dL_law_632 rfl (lv_at hl 2 rfl) ?_
    refine lv_iload hK.1.1 hK.1.2.1 dL_law_633 (lv_at hl 1 rfl) ?_
    refine lv_iconst (v := 1) hK.1.1 hK.1.2.1 dL_law_635 (by decide) ?_
    refine lv_iadd hK.1.1 hK.1.2.1 dL_law_636 ?_
    rw [show nI i + 1 = nI (i + 1) from nI_add i 1]
    refine va_ti hK.1.1 hK.1.2.1 hT hS (vp_in_nI (show i + 1 < n9 by omega) (by omega)) (v := .int (sf (i + 1))) (by rw [nI_clamp (by omega)]) dL_law_637 ?_
    refine lv_aload_n hK.1.1 hK.1.2.1 dL_law_638 rfl (lv_at hl 2 rfl) ?_
    refine lv_iload hK.1.1 hK.1.2.1 dL_law_639 (lv_at hl 1 rfl) ?_
    refine lv_iconst (v := 2) hK.1.1 hK.1.2.1 dL_law_641 (by decide) ?_
    refine lv_iadd hK.1.1 hK.1.2.1 dL_law_642 ?_
    rw [show nI i + 2 = nI (i + 2) from nI_add i 2]
    refine va_ti hK.1.1 hK.1.2.1 hT hS (vp_in_nI (show i + 2 < n9 by omega) (by omega)) (v := .int (sf (i + 2))) (by rw [nI_clamp (by omega)]) dL_law_643 ?_
    refine gk_callV0 (n := 2) (As := [.int (sf (i + 1)), .int (sf (i + 2))]) (rest := []) hK (c_X5_write l hR (i := (sf (i + 1))) (n := (sf (i + 2))) (xI_18 hI) (xI_19 hI hN)) (gk_gV q_10_12 q_10_13 q_10_14 q_1_5 q_10_15) ⟨rfl, by decide +kernel, by decide +kernel, by decide +kernel⟩ ⟨(Nat.le_of_ble_eq_true rfl), (Nat.le_of_ble_eq_true rfl)⟩ hP hS (gk_recv hK.2.2.1.1 hP hR.2.2.2.2.2.2.2.2.1 rfl) rfl hl.1 rfl (Nat.le_of_ble_eq_true rfl) dL_law_644 ⟨(by show (cells + 16) + 0 ≤ 601024; omega), (by show (slots + 128) + 0 ≤ 7293034; omega)⟩ (fun v G1 H locs hw hP hS => ?_)
    rcases hw with ⟨a2, ha2, e2, hok2, hn2, ⟨h19, f2, hf52, h18, rfl, hR⟩ | ⟨q, hq4, h19, rfl, hR⟩⟩ | ⟨ho2, ⟨x, rfl⟩, hR⟩ | ⟨hno2, hnk2, ⟨x, rfl⟩, hR⟩ | ⟨hok2, a2, ha2, e2, hn2, ⟨x, rfl⟩, hR⟩
    · exact False.elim (hnk hok2)
    · exact False.elim (hnk hok2)
    · exact False.elim (hno ho2)
    · refine W.eq (g2 := F0 m 647 ls [.int x]) rfl ?_
      refine lv_istore (lv' := [(6, .int x), (5, .int 2), (4, .int (nI i)), (0, .ref sc), (1, .ref (ly_a y 0)), (2, .ref (ly_a y 5)), (3, .ref (ly_a y 4))]) hK.1.1 hK.1.2.1 dL_law_647 hl (by decide) rfl (fun ls hl => ?_)
      refine lv_aload_n hK.1.1 hK.1.2.1 dL_law_649 rfl (lv_at hl 5 rfl) ?_
      refine gk_callV0 (n := 0) (As := []) (rest := []) hK (c_X5_thrown l hR) (gk_gV q_6_14 q_6_15 q_6_16 q_1_5 q_6_17) ⟨rfl, by decide +kernel, by decide +kernel, by decide +kernel⟩ ⟨(Nat.le_of_ble_eq_true rfl), (Nat.le_of_ble_eq_true rfl)⟩ hP hS (gk_recv hK.2.2.1.1 hP hR.2.2.2.2.2.2.2.2.1 rfl) rfl hl.1 rfl (Nat.le_of_ble_eq_true rfl) dL_law_650 ⟨(by show ((cells + 16) + 0) + 0 ≤ 601024; omega), (by show ((slots + 128) + 0) + 0 ≤ 7293034; omega)⟩ (fun v G1 H locs hw hP hS => ?_)
      obtain ⟨rfl, hG9⟩ := hw
      rw [hG9] at hP
      refine W.eq (g2 := F0 m 653 ls [.int 2]) rfl ?_
      refine lv_iload hK.1.1 hK.1.2.1 dL_law_653 (lv_at hl 1 rfl) ?_
      refine lv_icmp_eq (tgt := 660) hK.1.1 hK.1.2.1 dL_law_655 (by decide) (fun _ => ?_) (fun c => absurd (by decide) c)
      refine lv_iload hK.1.1 hK.1.2.1 dL_law_660 (lv_at hl 1 rfl) ?_
      refine lv_if_ne (tgt := 677) hK.1.1 hK.1.2.1 dL_law_662 (by decide) (fun _ => ?_) (fun c => absurd c (by decide))
      refine lv_goto (tgt := 1428) hK.1.1 hK.1.2.1 dL_law_677 (by decide) ?_
      exact W.widen (show (((cells + 16) + 0) + 0) ≤ cells + 100 by omega) (show (((slots + 128) + 0) + 0) ≤ slots + 8000 by omega) (kk ls _ _ _ _ _ _ _ _ _ _ _ _ _ _ _ _ _ _ _ _ _ _ hP hS hR (xI_mono hI) (lv_sub hl [2, 3, 4, 5, 6] rfl))
    · exact False.elim (hnk hok2)
  · refine W.eq (g2 := F0 m 629 ls [.int 3]) rfl ?_
    refine lv_istore (lv' := [(5, .int 3), (4, .int (nI i)), (0, .ref sc), (1, .ref (ly_a y 0)), (2, .ref (ly_a y 5)), (3, .ref (ly_a y 4))]) hK.1.1 hK.1.2.1 dL_law_629 hl (by decide) rfl (fun ls hl => ?_)
    refine lv_aload_n hK.1.1 hK.1.2.1 dL_law_631 rfl (lv_at hl 4 rfl) ?_
    refine lv_aload_n hK.1.1 hK.1.2.1 dL_law_632 rfl (lv_at hl 2 rfl) ?_
    refine lv_iload hK.1.1 hK.1.2.1 dL_law_633 (lv_at hl 1 rfl) ?_
    refine lv_iconst (v := 1) hK.1.1 hK.1.2.1 dL_law_635 (by decide) ?_
    refine lv_iadd hK.1.1 hK.1.2.1 dL_law_636 ?_
    rw [show nI i + 1 = nI (i + 1) from nI_add i 1]
    refine va_ti hK.1.1 hK.1.2.1 hT hS (vp_in_nI (show i + 1 < n9 by omega) (by omega)) (v := .int (sf (i + 1))) (by rw [nI_clamp (by omega)]) dL_law_637 ?_
    refine lv_aload_n hK.1.1 hK.1.2.1 dL_law_638 rfl (lv_at hl 2 rfl) ?_
    refine lv_iload hK.1.1 hK.1.2.1 dL_law_639 (lv_at hl 1 rfl) ?_
    refine lv_iconst (v := 2) hK.1.1 hK.1.2.1 dL_law_641 (by decide) ?_
    refine lv_iadd hK.1.1 hK.1.2.1 dL_law_642 ?_
    rw [show nI i + 2 = nI (i + 2) from nI_add i 2]
    refine va_ti hK.1.1 hK.1.2.1 hT hS (vp_in_nI (show i + 2 < n9 by omega) (by omega)) (v := .int (sf (i + 2))) (by rw [nI_clamp (by omega)]) dL_law_643 ?_
    refine gk_callV0 (n := 2) (As := [.int (sf (i + 1)), .int (sf (i + 2))]) (rest := []) hK (c_X5_write l hR (i := (sf (i + 1))) (n := (sf (i + 2))) (xI_18 hI) (xI_19 hI hN)) (gk_gV q_10_12 q_10_13 q_10_14 q_1_5 q_10_15) ⟨rfl, by decide +kernel, by decide +kernel, by decide +kernel⟩ ⟨(Nat.le_of_ble_eq_true rfl), (Nat.le_of_ble_eq_true rfl)⟩ hP hS (gk_recv hK.2.2.1.1 hP hR.2.2.2.2.2.2.2.2.1 rfl) rfl hl.1 rfl (Nat.le_of_ble_eq_true rfl) dL_law_644 ⟨(by show (cells + 16) + 0 ≤ 601024; omega), (by show (slots + 128) + 0 ≤ 7293034; omega)⟩ (fun v G1 H locs hw hP hS => ?_)
    rcases hw with ⟨a2, ha2, e2, hok2, hn2, ⟨h19, f2, hf52, h18, rfl, hR⟩ | ⟨q, hq4, h19, rfl, hR⟩⟩ | ⟨ho2, ⟨x, rfl⟩, hR⟩ | ⟨hno2, hnk2, ⟨x, rfl⟩, hR⟩ | ⟨hok2, a2, ha2, e2, hn2, ⟨x, rfl⟩, hR⟩
    · exact False.elim (by obtain rfl : a = a2 := (nI_eq (by omega) (by omega)).mp (e1.symm.trans e2); exact hn2 ((xI_none2 hI ha).mp hna))
    · exact False.elim (by obtain rfl : a = a2 := (nI_eq (by omega) (by omega)).mp (e1.symm.trans e2); exact hn2 ((xI_none2 hI ha).mp hna))
    · exact False.elim (absurd (e1 ▸ ho2) (rg_out_no ha (by decide)))
    · exact False.elim (hnk2 hok)
    · refine W.eq (g2 := F0 m 647 ls [.int x]) rfl ?_
      refine lv_istore (lv' := [(6, .int x), (5, .int 3), (4, .int (nI i)), (0, .ref sc), (1, .ref (ly_a y 0)), (2, .ref (ly_a y 5)), (3, .ref (ly_a y 4))]) hK.1.1 hK.1.2.1 dL_law_647 hl (by decide) rfl (fun ls hl => ?_)
      refine lv_aload_n hK.1.1 hK.1.2.1 dL_law_649 rfl (lv_at hl 5 rfl) ?_
      refine gk_callV0 (n := 0) (As := []) (rest := []) hK (c_X5_thrown l hR) (gk_gV q_6_14 q_6_15 q_6_16 q_1_5 q_6_17) ⟨rfl, by decide +kernel, by decide +kernel, by decide +kernel⟩ ⟨(Nat.le_of_ble_eq_true rfl), (Nat.le_of_ble_eq_true rfl)⟩ hP hS (gk_recv hK.2.2.1.1 hP hR.2.2.2.2.2.2.2.2.1 rfl) rfl hl.1 rfl (Nat.le_of_ble_eq_true rfl) dL_law_650 ⟨(by show ((cells + 16) + 0) + 0 ≤ 601024; omega), (by show ((slots + 128) + 0) + 0 ≤ 7293034; omega)⟩ (fun v G1 H locs hw hP hS => ?_)
      obtain ⟨rfl, hG9⟩ := hw
      rw [hG9] at hP
      refine W.eq (g2 := F0 m 653 ls [.int 3]) rfl ?_
      refine lv_iload hK.1.1 hK.1.2.1 dL_law_653 (lv_at hl 1 rfl) ?_
      refine lv_icmp_eq (tgt := 660) hK.1.1 hK.1.2.1 dL_law_655 (by decide) (fun _ => ?_) (fun c => absurd (by decide) c)
      refine lv_iload hK.1.1 hK.1.2.1 dL_law_660 (lv_at hl 1 rfl) ?_
      refine lv_if_ne (tgt := 677) hK.1.1 hK.1.2.1 dL_law_662 (by decide) (fun _ => ?_) (fun c => absurd c (by decide))
      refine lv_goto (tgt := 1428) hK.1.1 hK.1.2.1 dL_law_677 (by decide) ?_
      exact W.widen (show (((cells + 16) + 0) + 0) ≤ cells + 100 by omega) (show (((slots + 128) + 0) + 0) ≤ slots + 8000 by omega) (kk ls _ _ _ _ _ _ _ _ _ _ _ _ _ _ _ _ _ _ _ _ _ _ hP hS hR (xI_mono hI) (lv_sub hl [2, 3, 4, 5, 6] rfl))
set_option maxHeartbeats 4000000 in
set_option maxRecDepth 100000 in
theorem lw_7 {p : Program} {l : Launch} {e : Env} {s : State} {m : MethodId} {args : Array Value} {below : List Frame} {meth : Method} {c : Code} {H : Heap} {locs : List Loc} {cells slots : Nat} {Q : State → Prop} {ls : Array Slot} {y : ly_T} {A : Nat → Prop} {G : gk_G} {td : Int32} {ru : Nat → Nat → Int32} {fr lv : Nat → Nat} {lt et tl : Nat → Int32} {hf hp : Nat → Option Nat} {ol : Nat → List Nat} {PS : Nat → Prop} {pf : Nat → Nat → Int32} {ov : Int64} {md mq mt : Int32} {mv : Nat → Nat → Int32} {row : List Nat} {fi : Nat → Nat} {N i n9 sc : Nat} {sf : Nat → Int32} (hfl : l.stackTraces = false) (hK : gk_K p s m c args cL_law RL 7 y A) (hT : va_T .int sc n9 (fun j => .int (sf j)) A s s.heap) (hP : gk_P (ly_D y) A G H) (hS : va_S A s.heap H locs) (hR : rp y G td ru fr lv lt et tl hf hp ol PS pf ov md mq mt mv) (hI : xI td ru fr (lv, lt, et, tl, ol, PS, pf) hf hp row fi md mq mv N) (hN : N < 512) (hc : cells + 100 ≤ 601024) (hs : slots + 8000 ≤ 7293034) (hi : i + 7 ≤ n9) (hn9 : n9 ≤ 3584) (hl : lv_has ls 7 [(4, .int (nI i)), (0, .ref sc), (1, .ref (ly_a y 0)), (2, .ref (ly_a y 5)), (3, .ref (ly_a y 4))]) (kk : ∀ (ls : Array Slot) (H : Heap) (locs : List Loc) (G : gk_G) (td : Int32) (ru : Nat → Nat → Int32) (fr lv : Nat → Nat) (lt et tl : Nat → Int32) (hf hp : Nat → Option Nat) (ol : Nat → List Nat) (PS : Nat → Prop) (pf : Nat → Nat → Int32) (ov : Int64) (md mq mt : Int32) (mv : Nat → Nat → Int32) (row : List Nat) (fi : Nat → Nat), gk_P (ly_D y) A G H → va_S A s.heap H locs → rp y G td ru fr lv lt et tl hf hp ol PS pf ov md mq mt mv → xI td ru fr (lv, lt, et, tl, ol, PS, pf) hf hp row fi md mq mv (N + 1) → lv_has ls 7 [(4, .int (nI i)), (0, .ref sc), (1, .ref (ly_a y 0)), (2, .ref (ly_a y 5)), (3, .ref (ly_a y 4))] → W p l e { frames := 12, cells := 601024, slots := 7293034, locals := 444 } s m args below meth c H locs (cells + 100) (slots + 8000) Q (F0 m 1428 ls [])) : W p l e { frames := 12, cells := 601024, slots := 7293034, locals := 444 } s m args below meth c H locs cells slots Q (F0 m 680 ls []) := by
  refine lv_aload_n hK.1.1 hK.1.2.1 dL_law_680 rfl (lv_at hl 2 rfl) ?_
  refine lv_aload_n hK.1.1 hK.1.2.1 dL_law_681 rfl (lv_at hl 1 rfl) ?_
  refine lv_iload hK.1.1 hK.1.2.1 dL_law_682 (lv_at hl 0 rfl) ?_
  refine lv_iconst (v := 1) hK.1.1 hK.1.2.1 dL_law_684 (by decide) ?_
  refine lv_iadd hK.1.1 hK.1.2.1 dL_law_685 ?_
  rw [show nI i + 1 = nI (i + 1) from nI_add i 1]
  refine va_ti hK.1.1 hK.1.2.1 hT hS (vp_in_nI (show i + 1 < n9 by omega) (by omega)) (v := .int (sf (i + 1))) (by rw [nI_clamp (by omega)]) dL_law_686 ?_
  refine lv_aload_n hK.1.1 hK.1.2.1 dL_law_687 rfl (lv_at hl 4 rfl) ?_
  refine gk_callSW (n := 3) (As := [.ref (ly_a y 0), .int (sf (i + 1)), .ref (ly_a y 4)]) (rest := []) hK (c_L_advance l hfl hR (n := (sf (i + 1))) ) (gk_gS q_10_16 q_10_17 q_5_0 q_10_18) ⟨by decide +kernel, by decide +kernel, by decide +kernel⟩ ⟨(Nat.le_of_ble_eq_true rfl), (Nat.le_of_ble_eq_true rfl)⟩ hP hS rfl hl.1 rfl (Nat.le_of_ble_eq_true rfl) dL_law_688 ⟨(by show cells + 16 ≤ 601024; omega), (by show slots + 128 ≤ 7293034; omega)⟩ (fun v G1 H locs hw hP hS => ?_)
  rcases hw with ⟨hok, hle, rfl, hR⟩ | ⟨hnk, rfl, hR⟩ | ⟨⟨hok, hnl⟩, rfl, hR⟩
  · refine W.eq (g2 := F0 m 691 ls [.int 0]) rfl ?_
    refine lv_istore (lv' := [(5, .int 0), (4, .int (nI i)), (0, .ref sc), (1, .ref (ly_a y 0)), (2, .ref (ly_a y 5)), (3, .ref (ly_a y 4))]) hK.1.1 hK.1.2.1 dL_law_691 hl (by decide) rfl (fun ls hl => ?_)
    refine lv_aload_n hK.1.1 hK.1.2.1 dL_law_693 rfl (lv_at hl 4 rfl) ?_
    refine lv_aload_n hK.1.1 hK.1.2.1 dL_law_694 rfl (lv_at hl 2 rfl) ?_
    refine lv_iload hK.1.1 hK.1.2.1 dL_law_695 (lv_at hl 1 rfl) ?_
    refine lv_iconst (v := 1) hK.1.1 hK.1.2.1 dL_law_697 (by decide) ?_
    refine lv_iadd hK.1.1 hK.1.2.1 dL_law_698 ?_
    rw [show nI i + 1 = nI (i + 1) from nI_add i 1]
    refine va_ti hK.1.1 hK.1.2.1 hT hS (vp_in_nI (show i + 1 < n9 by omega) (by omega)) (v := .int (sf (i + 1))) (by rw [nI_clamp (by omega)]) dL_law_699 ?_
    refine gk_callV0 (n := 1) (As := [.int (sf (i + 1))]) (rest := []) hK (c_X5_advance l hR (n := (sf (i + 1))) ) (gk_gV q_11_0 q_11_1 q_11_2 q_1_5 q_11_3) ⟨rfl, by decide +kernel, by decide +kernel, by decide +kernel⟩ ⟨(Nat.le_of_ble_eq_true rfl), (Nat.le_of_ble_eq_true rfl)⟩ hP hS (gk_recv hK.2.2.1.1 hP hR.2.2.2.2.2.2.2.2.1 rfl) rfl hl.1 rfl (Nat.le_of_ble_eq_true rfl) dL_law_700 ⟨(by show (cells + 16) + 0 ≤ 601024; omega), (by show (slots + 128) + 0 ≤ 7293034; omega)⟩ (fun v G1 H locs hw hP hS => ?_)
    rcases hw with ⟨hok2, hle2, rfl, hR⟩ | ⟨hnk2, ⟨x, rfl⟩, hR⟩ | ⟨hok2, hnl2, ⟨x, rfl⟩, hR⟩
    · refine W.eq (g2 := F0 m 703 ls [.int (md + sf (i + 1))]) rfl ?_
      refine lv_istore (lv' := [(6, .int (md + sf (i + 1))), (5, .int 0), (4, .int (nI i)), (0, .ref sc), (1, .ref (ly_a y 0)), (2, .ref (ly_a y 5)), (3, .ref (ly_a y 4))]) hK.1.1 hK.1.2.1 dL_law_703 hl (by decide) rfl (fun ls hl => ?_)
      refine lv_aload_n hK.1.1 hK.1.2.1 dL_law_705 rfl (lv_at hl 5 rfl) ?_
      refine gk_callV0 (n := 0) (As := []) (rest := []) hK (c_X5_thrown l hR) (gk_gV q_6_14 q_6_15 q_6_16 q_1_5 q_6_17) ⟨rfl, by decide +kernel, by decide +kernel, by decide +kernel⟩ ⟨(Nat.le_of_ble_eq_true rfl), (Nat.le_of_ble_eq_true rfl)⟩ hP hS (gk_recv hK.2.2.1.1 hP hR.2.2.2.2.2.2.2.2.1 rfl) rfl hl.1 rfl (Nat.le_of_ble_eq_true rfl) dL_law_706 ⟨(by show ((cells + 16) + 0) + 0 ≤ 601024; omega), (by show ((slots + 128) + 0) + 0 ≤ 7293034; omega)⟩ (fun v G1 H locs hw hP hS => ?_)
      obtain ⟨rfl, hG9⟩ := hw
      rw [hG9] at hP
      refine W.eq (g2 := F0 m 709 ls [.int 0]) rfl ?_
      refine lv_iload hK.1.1 hK.1.2.1 dL_law_709 (lv_at hl 1 rfl) ?_
      refine lv_icmp_eq (tgt := 716) hK.1.1 hK.1.2.1 dL_law_711 (by decide) (fun _ => ?_) (fun c => absurd (by decide) c)
      refine lv_iload hK.1.1 hK.1.2.1 dL_law_716 (lv_at hl 1 rfl) ?_
      refine lv_if_ne (tgt := 733) hK.1.1 hK.1.2.1 dL_law_718 (by decide) (fun c => absurd c (by decide)) (fun _ => ?_)
      refine lv_aload_n hK.1.1 hK.1.2.1 dL_law_721 rfl (lv_at hl 6 rfl) ?_
      refine lv_iconst (v := 0) hK.1.1 hK.1.2.1 dL_law_722 (by decide) ?_
      refine lo_get hK hP hR dL_law_723 ?_
      refine lv_iload hK.1.1 hK.1.2.1 dL_law_724 (lv_at hl 0 rfl) ?_
      refine lv_i2l hK.1.1 hK.1.2.1 dL_law_726 rfl ?_
      refine W.lcmp hK.1.1 hK.1.2.1 dL_law_727 ?_
      refine lv_if_eq (tgt := 733) hK.1.1 hK.1.2.1 dL_law_728 (by decide) (fun _ => ?_) (fun c => absurd (by rw [show md = td from hI.1.1]; simp [lg_cmp]) c)
      refine lv_goto (tgt := 1428) hK.1.1 hK.1.2.1 dL_law_733 (by decide) ?_
      exact W.widen (show (((cells + 16) + 0) + 0) ≤ cells + 100 by omega) (show (((slots + 128) + 0) + 0) ≤ slots + 8000 by omega) (kk ls _ _ _ _ _ _ _ _ _ _ _ _ _ _ _ _ _ _ _ _ _ _ hP hS hR (xI_advance hI hok hle) (lv_sub hl [2, 3, 4, 5, 6] rfl))
    · exact False.elim (hnk2 hok)
    · exact False.elim (hnl2 (by rw [show md = td from hI.1.1]; exact hle))
  · refine W.eq (g2 := F0 m 691 ls [.int 1]) rfl ?_
    refine lv_istore (lv' := [(5, .int 1), (4, .int (nI i)), (0, .ref sc), (1, .ref (ly_a y 0)), (2, .ref (ly_a y 5)), (3, .ref (ly_a y 4))]) hK.1.1 hK.1.2.1 dL_law_691 hl (by decide) rfl (fun ls hl => ?_)
    refine lv_aload_n hK.1.1 hK.1.2.1 dL_law_693 rfl (lv_at hl 4 rfl) ?_
    refine lv_aload_n hK.1.1 hK.1.2.1 dL_law_694 rfl (lv_at hl 2 rfl) ?_
    refine lv_iload hK.1.1 hK.1.2.1 dL_law_695 (lv_at hl 1 rfl) ?_
    refine lv_iconst (v := 1) hK.1.1 hK.1.2.1 dL_law_697 (by decide) ?_
    refine lv_iadd hK.1.1 hK.1.2.1 dL_law_698 ?_
    rw [show nI i + 1 = nI (i + 1) from nI_add i 1]
    refine va_ti hK.1.1 hK.1.2.1 hT hS (vp_in_nI (show i + 1 < n9 by omega) (by omega)) (v := .int (sf (i + 1))) (by rw [nI_clamp (by omega)]) dL_law_699 ?_
    refine gk_callV0 (n := 1) (As := [.int (sf (i + 1))]) (rest := []) hK (c_X5_advance l hR (n := (sf (i + 1))) ) (gk_gV q_11_0 q_11_1 q_11_2 q_1_5 q_11_3) ⟨rfl, by decide +kernel, by decide +kernel, by decide +kernel⟩ ⟨(Nat.le_of_ble_eq_true rfl), (Nat.le_of_ble_eq_true rfl)⟩ hP hS (gk_recv hK.2.2.1.1 hP hR.2.2.2.2.2.2.2.2.1 rfl) rfl hl.1 rfl (Nat.le_of_ble_eq_true rfl) dL_law_700 ⟨(by show (cells + 16) + 0 ≤ 601024; omega), (by show (slots + 128) + 0 ≤ 7293034; omega)⟩ (fun v G1 H locs hw hP hS => ?_)
    rcases hw with ⟨hok2, hle2, rfl, hR⟩ | ⟨hnk2, ⟨x, rfl⟩, hR⟩ | ⟨hok2, hnl2, ⟨x, rfl⟩, hR⟩
    · exact False.elim (hnk hok2)
    · refine W.eq (g2 := F0 m 703 ls [.int x]) rfl ?_
      refine lv_istore (lv' := [(6, .int x), (5, .int 1), (4, .int (nI i)), (0, .ref sc), (1, .ref (ly_a y 0)), (2, .ref (ly_a y 5)), (3, .ref (ly_a y 4))]) hK.1.1 hK.1.2.1 dL_law_703 hl (by decide) rfl (fun ls hl => ?_)
      refine lv_aload_n hK.1.1 hK.1.2.1 dL_law_705 rfl (lv_at hl 5 rfl) ?_
      refine gk_callV0 (n := 0) (As := []) (rest := []) hK (c_X5_thrown l hR) (gk_gV q_6_14 q_6_15 q_6_16 q_1_5 q_6_17) ⟨rfl, by decide +kernel, by decide +kernel, by decide +kernel⟩ ⟨(Nat.le_of_ble_eq_true rfl), (Nat.le_of_ble_eq_true rfl)⟩ hP hS (gk_recv hK.2.2.1.1 hP hR.2.2.2.2.2.2.2.2.1 rfl) rfl hl.1 rfl (Nat.le_of_ble_eq_true rfl) dL_law_706 ⟨(by show ((cells + 16) + 0) + 0 ≤ 601024; omega), (by show ((slots + 128) + 0) + 0 ≤ 7293034; omega)⟩ (fun v G1 H locs hw hP hS => ?_)
      obtain ⟨rfl, hG9⟩ := hw
      rw [hG9] at hP
      refine W.eq (g2 := F0 m 709 ls [.int 1]) rfl ?_
      refine lv_iload hK.1.1 hK.1.2.1 dL_law_709 (lv_at hl 1 rfl) ?_
      refine lv_icmp_eq (tgt := 716) hK.1.1 hK.1.2.1 dL_law_711 (by decide) (fun _ => ?_) (fun c => absurd (by decide) c)
      refine lv_iload hK.1.1 hK.1.2.1 dL_law_716 (lv_at hl 1 rfl) ?_
      refine lv_if_ne (tgt := 733) hK.1.1 hK.1.2.1 dL_law_718 (by decide) (fun _ => ?_) (fun c => absurd c (by decide))
      refine lv_goto (tgt := 1428) hK.1.1 hK.1.2.1 dL_law_733 (by decide) ?_
      exact W.widen (show (((cells + 16) + 0) + 0) ≤ cells + 100 by omega) (show (((slots + 128) + 0) + 0) ≤ slots + 8000 by omega) (kk ls _ _ _ _ _ _ _ _ _ _ _ _ _ _ _ _ _ _ _ _ _ _ hP hS hR (xI_mono hI) (lv_sub hl [2, 3, 4, 5, 6] rfl))
    · exact False.elim (hnk hok2)
  · refine W.eq (g2 := F0 m 691 ls [.int 2]) rfl ?_
    refine lv_istore (lv' := [(5, .int 2), (4, .int (nI i)), (0, .ref sc), (1, .ref (ly_a y 0)), (2, .ref (ly_a y 5)), (3, .ref (ly_a y 4))]) hK.1.1 hK.1.2.1 dL_law_691 hl (by decide) rfl (fun ls hl => ?_)
    refine lv_aload_n hK.1.1 hK.1.2.1 dL_law_693 rfl (lv_at hl 4 rfl) ?_
    refine lv_aload_n hK.1.1 hK.1.2.1 dL_law_694 rfl (lv_at hl 2 rfl) ?_
    refine lv_iload hK.1.1 hK.1.2.1 dL_law_695 (lv_at hl 1 rfl) ?_
    refine lv_iconst (v := 1) hK.1.1 hK.1.2.1 dL_law_697 (by decide) ?_
    refine lv_iadd hK.1.1 hK.1.2.1 dL_law_698 ?_
    rw [show nI i + 1 = nI (i + 1) from nI_add i 1]
    refine va_ti hK.1.1 hK.1.2.1 hT hS (vp_in_nI (show i + 1 < n9 by omega) (by omega)) (v := .int (sf (i + 1))) (by rw [nI_clamp (by omega)]) dL_law_699 ?_
    refine gk_callV0 (n := 1) (As := [.int (sf (i + 1))]) (rest := []) hK (c_X5_advance l hR (n := (sf (i + 1))) ) (gk_gV q_11_0 q_11_1 q_11_2 q_1_5 q_11_3) ⟨rfl, by decide +kernel, by decide +kernel, by decide +kernel⟩ ⟨(Nat.le_of_ble_eq_true rfl), (Nat.le_of_ble_eq_true rfl)⟩ hP hS (gk_recv hK.2.2.1.1 hP hR.2.2.2.2.2.2.2.2.1 rfl) rfl hl.1 rfl (Nat.le_of_ble_eq_true rfl) dL_law_700 ⟨(by show (cells + 16) + 0 ≤ 601024; omega), (by show (slots + 128) + 0 ≤ 7293034; omega)⟩ (fun v G1 H locs hw hP hS => ?_)
    rcases hw with ⟨hok2, hle2, rfl, hR⟩ | ⟨hnk2, ⟨x, rfl⟩, hR⟩ | ⟨hok2, hnl2, ⟨x, rfl⟩, hR⟩
    · exact False.elim (hnl (by rw [← show md = td from hI.1.1]; exact hle2))
    · exact False.elim (hnk2 hok)
    · refine W.eq (g2 := F0 m 703 ls [.int x]) rfl ?_
      refine lv_istore (lv' := [(6, .int x), (5, .int 2), (4, .int (nI i)), (0, .ref sc), (1, .ref (ly_a y 0)), (2, .ref (ly_a y 5)), (3, .ref (ly_a y 4))]) hK.1.1 hK.1.2.1 dL_law_703 hl (by decide) rfl (fun ls hl => ?_)
      refine lv_aload_n hK.1.1 hK.1.2.1 dL_law_705 rfl (lv_at hl 5 rfl) ?_
      refine gk_callV0 (n := 0) (As := []) (rest := []) hK (c_X5_thrown l hR) (gk_gV q_6_14 q_6_15 q_6_16 q_1_5 q_6_17) ⟨rfl, by decide +kernel, by decide +kernel, by decide +kernel⟩ ⟨(Nat.le_of_ble_eq_true rfl), (Nat.le_of_ble_eq_true rfl)⟩ hP hS (gk_recv hK.2.2.1.1 hP hR.2.2.2.2.2.2.2.2.1 rfl) rfl hl.1 rfl (Nat.le_of_ble_eq_true rfl) dL_law_706 ⟨(by show ((cells + 16) + 0) + 0 ≤ 601024; omega), (by show ((slots + 128) + 0) + 0 ≤ 7293034; omega)⟩ (fun v G1 H locs hw hP hS => ?_)
      obtain ⟨rfl, hG9⟩ := hw
      rw [hG9] at hP
      refine W.eq (g2 := F0 m 709 ls [.int 2]) rfl ?_
      refine lv_iload hK.1.1 hK.1.2.1 dL_law_709 (lv_at hl 1 rfl) ?_
      refine lv_icmp_eq (tgt := 716) hK.1.1 hK.1.2.1 dL_law_711 (by decide) (fun _ => ?_) (fun c => absurd (by decide) c)
      refine lv_iload hK.1.1 hK.1.2.1 dL_law_716 (lv_at hl 1 rfl) ?_
      refine lv_if_ne (tgt := 733) hK.1.1 hK.1.2.1 dL_law_718 (by decide) (fun _ => ?_) (fun c => absurd c (by decide))
      refine lv_goto (tgt := 1428) hK.1.1 hK.1.2.1 dL_law_733 (by decide) ?_
      exact W.widen (show (((cells + 16) + 0) + 0) ≤ cells + 100 by omega) (show (((slots + 128) + 0) + 0) ≤ slots + 8000 by omega) (kk ls _ _ _ _ _ _ _ _ _ _ _ _ _ _ _ _ _ _ _ _ _ _ hP hS hR (xI_mono hI) (lv_sub hl [2, 3, 4, 5, 6] rfl))
set_option maxHeartbeats 4000000 in
set_option maxRecDepth 100000 in
theorem lw_8 {p : Program} {l : Launch} {e : Env} {s : State} {m : MethodId} {args : Array Value} {below : List Frame} {meth : Method} {c : Code} {H : Heap} {locs : List Loc} {cells slots : Nat} {Q : State → Prop} {ls : Array Slot} {y : ly_T} {A : Nat → Prop} {G : gk_G} {td : Int32} {ru : Nat → Nat → Int32} {fr lv : Nat → Nat} {lt et tl : Nat → Int32} {hf hp : Nat → Option Nat} {ol : Nat → List Nat} {PS : Nat → Prop} {pf : Nat → Nat → Int32} {ov : Int64} {md mq mt : Int32} {mv : Nat → Nat → Int32} {row : List Nat} {fi : Nat → Nat} {N i n9 sc : Nat} {sf : Nat → Int32} (hfl : l.stackTraces = false) (hK : gk_K p s m c args cL_law RL 7 y A) (hT : va_T .int sc n9 (fun j => .int (sf j)) A s s.heap) (hP : gk_P (ly_D y) A G H) (hS : va_S A s.heap H locs) (hR : rp y G td ru fr lv lt et tl hf hp ol PS pf ov md mq mt mv) (hI : xI td ru fr (lv, lt, et, tl, ol, PS, pf) hf hp row fi md mq mv N) (hN : N < 512) (hc : cells + 100 ≤ 601024) (hs : slots + 8000 ≤ 7293034) (hi : i + 7 ≤ n9) (hn9 : n9 ≤ 3584) (hl : lv_has ls 7 [(4, .int (nI i)), (0, .ref sc), (1, .ref (ly_a y 0)), (2, .ref (ly_a y 5)), (3, .ref (ly_a y 4))]) (kk : ∀ (ls : Array Slot) (H : Heap) (locs : List Loc) (G : gk_G) (td : Int32) (ru : Nat → Nat → Int32) (fr lv : Nat → Nat) (lt et tl : Nat → Int32) (hf hp : Nat → Option Nat) (ol : Nat → List Nat) (PS : Nat → Prop) (pf : Nat → Nat → Int32) (ov : Int64) (md mq mt : Int32) (mv : Nat → Nat → Int32) (row : List Nat) (fi : Nat → Nat), gk_P (ly_D y) A G H → va_S A s.heap H locs → rp y G td ru fr lv lt et tl hf hp ol PS pf ov md mq mt mv → xI td ru fr (lv, lt, et, tl, ol, PS, pf) hf hp row fi md mq mv (N + 1) → lv_has ls 7 [(4, .int (nI i)), (0, .ref sc), (1, .ref (ly_a y 0)), (2, .ref (ly_a y 5)), (3, .ref (ly_a y 4))] → W p l e { frames := 12, cells := 601024, slots := 7293034, locals := 444 } s m args below meth c H locs (cells + 100) (slots + 8000) Q (F0 m 1428 ls [])) : W p l e { frames := 12, cells := 601024, slots := 7293034, locals := 444 } s m args below meth c H locs cells slots Q (F0 m 736 ls []) := by
  refine lv_aload_n hK.1.1 hK.1.2.1 dL_law_736 rfl (lv_at hl 2 rfl) ?_
  refine gk_callV0 (n := 0) (As := []) (rest := []) hK (c_X4_run l hR (xI_Ll hI) (xI_in5 hI) (xI_len5 hI hN)) (gk_gV q_11_5 q_11_6 q_11_7 q_1_2 q_11_8) ⟨rfl, by decide +kernel, by decide +kernel, by decide +kernel⟩ ⟨(Nat.le_of_ble_eq_true rfl), (Nat.le_of_ble_eq_true rfl)⟩ hP hS (gk_recv hK.2.2.1.1 hP hR.1 rfl) rfl hl.1 rfl (Nat.le_of_ble_eq_true rfl) dL_law_737 ⟨(by show cells + 10 ≤ 601024; omega), (by show slots + 7515 ≤ 7293034; omega)⟩ (fun v G1 H locs hw hP hS => ?_)
  obtain ⟨⟨lv2, lt2, et2, tl2, ol2, PS2, pf2⟩, b, hrun, rfl, hR⟩ := hw
  have hR : rp y _ td ru fr lv2 lt2 et2 tl2 hf (t_tls b ru fr lv2 hf hp 3) ol2 PS2 pf2 ov md mq mt mv := hR
  refine W.eq (g2 := F0 m 740 ls [.int b]) rfl ?_
  obtain ⟨ml, hml, ha9⟩ := xI_a9 hI
  obtain ⟨e9, he5, htd, hmd⟩ := xI_d9 hI
  obtain ⟨hb, row2, fi2, hI2⟩ := xI_run hI hN htd he5 hml hrun
  refine lv_aload_n hK.1.1 hK.1.2.1 dL_law_740 rfl (lv_at hl 3 rfl) ?_
  refine gk_callV0 (n := 0) (As := []) (rest := [.int b]) hK (c_X5_run l hR (n9 := row.length) (e9 := e9) (mr := fr) (ml := ml) (xI_q hI hN).1 (xI_q hI hN).2 (xI_r9 hI) ha9 hmd he5 (xI_18 hI) (xI_bit hI)) (gk_gV q_17_3 q_17_4 q_17_5 q_1_5 q_17_6) ⟨rfl, by decide +kernel, by decide +kernel, by decide +kernel⟩ ⟨(Nat.le_of_ble_eq_true rfl), (Nat.le_of_ble_eq_true rfl)⟩ hP hS (gk_recv hK.2.2.1.1 hP hR.2.2.2.2.2.2.2.2.1 rfl) rfl hl.1 rfl (Nat.le_of_ble_eq_true rfl) dL_law_741 ⟨(by show (cells + 10) + 0 ≤ 601024; omega), (by show (slots + 7515) + 0 ≤ 7293034; omega)⟩ (fun v G1 H locs hw hP hS => ?_)
  obtain ⟨rfl, hR⟩ := hw
  refine W.eq (g2 := F0 m 744 ls [.int ((m_run1 fr ml e9 mv row.length 5).2.2), .int b]) rfl ?_
  refine lv_icmp_eq (tgt := 1428) hK.1.1 hK.1.2.1 dL_law_744 (by decide) (fun _ => ?_) (fun c => absurd hb.symm c)
  exact W.widen (show ((cells + 10) + 0) ≤ cells + 100 by omega) (show ((slots + 7515) + 0) ≤ slots + 8000 by omega) (kk ls _ _ _ _ _ _ _ _ _ _ _ _ _ _ _ _ _ _ _ _ _ _ hP hS hR hI2 (lv_sub hl [0, 1, 2, 3, 4] rfl))
set_option maxHeartbeats 4000000 in
set_option maxRecDepth 100000 in
theorem lw_9 {p : Program} {l : Launch} {e : Env} {s : State} {m : MethodId} {args : Array Value} {below : List Frame} {meth : Method} {c : Code} {H : Heap} {locs : List Loc} {cells slots : Nat} {Q : State → Prop} {ls : Array Slot} {y : ly_T} {A : Nat → Prop} {G : gk_G} {td : Int32} {ru : Nat → Nat → Int32} {fr lv : Nat → Nat} {lt et tl : Nat → Int32} {hf hp : Nat → Option Nat} {ol : Nat → List Nat} {PS : Nat → Prop} {pf : Nat → Nat → Int32} {ov : Int64} {md mq mt : Int32} {mv : Nat → Nat → Int32} {row : List Nat} {fi : Nat → Nat} {N i n9 sc : Nat} {sf : Nat → Int32} (hfl : l.stackTraces = false) (hK : gk_K p s m c args cL_law RL 7 y A) (hT : va_T .int sc n9 (fun j => .int (sf j)) A s s.heap) (hP : gk_P (ly_D y) A G H) (hS : va_S A s.heap H locs) (hR : rp y G td ru fr lv lt et tl hf hp ol PS pf ov md mq mt mv) (hI : xI td ru fr (lv, lt, et, tl, ol, PS, pf) hf hp row fi md mq mv N) (hN : N < 512) (hc : cells + 100 ≤ 601024) (hs : slots + 8000 ≤ 7293034) (hi : i + 7 ≤ n9) (hn9 : n9 ≤ 3584) (hl : lv_has ls 7 [(4, .int (nI i)), (0, .ref sc), (1, .ref (ly_a y 0)), (2, .ref (ly_a y 5)), (3, .ref (ly_a y 4))]) (kk : ∀ (ls : Array Slot) (H : Heap) (locs : List Loc) (G : gk_G) (td : Int32) (ru : Nat → Nat → Int32) (fr lv : Nat → Nat) (lt et tl : Nat → Int32) (hf hp : Nat → Option Nat) (ol : Nat → List Nat) (PS : Nat → Prop) (pf : Nat → Nat → Int32) (ov : Int64) (md mq mt : Int32) (mv : Nat → Nat → Int32) (row : List Nat) (fi : Nat → Nat), gk_P (ly_D y) A G H → va_S A s.heap H locs → rp y G td ru fr lv lt et tl hf hp ol PS pf ov md mq mt mv → xI td ru fr (lv, lt, et, tl, ol, PS, pf) hf hp row fi md mq mv (N + 1) → lv_has ls 7 [(4, .int (nI i)), (0, .ref sc), (1, .ref (ly_a y 0)), (2, .ref (ly_a y 5)), (3, .ref (ly_a y 4))] → W p l e { frames := 12, cells := 601024, slots := 7293034, locals := 444 } s m args below meth c H locs (cells + 100) (slots + 8000) Q (F0 m 1428 ls [])) : W p l e { frames := 12, cells := 601024, slots := 7293034, locals := 444 } s m args below meth c H locs cells slots Q (F0 m 749 ls []) := by
  refine lv_aload_n hK.1.1 hK.1.2.1 dL_law_749 rfl (lv_at hl 2 rfl) ?_
  refine lv_aload_n hK.1.1 hK.1.2.1 dL_law_750 rfl (lv_at hl 1 rfl) ?_
  refine lv_iload hK.1.1 hK.1.2.1 dL_law_751 (lv_at hl 0 rfl) ?_
  refine lv_iconst (v := 1) hK.1.1 hK.1.2.1 dL_law_753 (by decide) ?_
  refine lv_iadd hK.1.1 hK.1.2.1 dL_law_754 ?_
  rw [show nI i + 1 = nI (i + 1) from nI_add i 1]
  refine va_ti hK.1.1 hK.1.2.1 hT hS (vp_in_nI (show i + 1 < n9 by omega) (by omega)) (v := .int (sf (i + 1))) (by rw [nI_clamp (by omega)]) dL_law_755 ?_
  refine lv_aload_n hK.1.1 hK.1.2.1 dL_law_756 rfl (lv_at hl 4 rfl) ?_
  refine gk_callSW (n := 3) (As := [.ref (ly_a y 0), .int (sf (i + 1)), .ref (ly_a y 4)]) (rest := []) hK (c_L_turn l hfl hR (i := (sf (i + 1))) (xI_Ll hI) (xI_in5 hI) (xI_len5 hI hN)) (gk_gS q_18_7 q_18_8 q_5_0 q_18_9) ⟨by decide +kernel, by decide +kernel, by decide +kernel⟩ ⟨(Nat.le_of_ble_eq_true rfl), (Nat.le_of_ble_eq_true rfl)⟩ hP hS rfl hl.1 rfl (Nat.le_of_ble_eq_true rfl) dL_law_757 ⟨(by show cells + 3 ≤ 601024; omega), (by show slots + 1509 ≤ 7293034; omega)⟩ (fun v G1 H locs hw hP hS => ?_)
  rcases hw with ⟨f, q, hf5, e1, hq, rfl, hR⟩ | ⟨ho, rfl, hR⟩
  · refine W.eq (g2 := F0 m 760 ls [.int 0]) rfl ?_
    refine lv_istore (lv' := [(5, .int 0), (4, .int (nI i)), (0, .ref sc), (1, .ref (ly_a y 0)), (2, .ref (ly_a y 5)), (3, .ref (ly_a y 4))]) hK.1.1 hK.1.2.1 dL_law_760 hl (by decide) rfl (fun ls hl => ?_)
    refine lv_aload_n hK.1.1 hK.1.2.1 dL_law_762 rfl (lv_at hl 4 rfl) ?_
    refine lv_aload_n hK.1.1 hK.1.2.1 dL_law_763 rfl (lv_at hl 2 rfl) ?_
    refine lv_iload hK.1.1 hK.1.2.1 dL_law_764 (lv_at hl 1 rfl) ?_
    refine lv_iconst (v := 1) hK.1.1 hK.1.2.1 dL_law_766 (by decide) ?_
    refine lv_iadd hK.1.1 hK.1.2.1 dL_law_767 ?_
    rw [show nI i + 1 = nI (i + 1) from nI_add i 1]
    refine va_ti hK.1.1 hK.1.2.1 hT hS (vp_in_nI (show i + 1 < n9 by omega) (by omega)) (v := .int (sf (i + 1))) (by rw [nI_clamp (by omega)]) dL_law_768 ?_
    refine gk_callV0 (n := 1) (As := [.int (sf (i + 1))]) (rest := []) hK (c_X5_turn l hR (i := (sf (i + 1))) (n9 := row.length) (mr := fr) (xI_q hI hN).1 (by have := (xI_q hI hN).2; omega) (xI_r9 hI) (xI_bit hI)) (gk_gV q_18_14 q_18_15 q_18_16 q_1_5 q_18_17) ⟨rfl, by decide +kernel, by decide +kernel, by decide +kernel⟩ ⟨(Nat.le_of_ble_eq_true rfl), (Nat.le_of_ble_eq_true rfl)⟩ hP hS (gk_recv hK.2.2.1.1 hP hR.2.2.2.2.2.2.2.2.1 rfl) rfl hl.1 rfl (Nat.le_of_ble_eq_true rfl) dL_law_769 ⟨(by show (cells + 3) + 0 ≤ 601024; omega), (by show (slots + 1509) + 0 ≤ 7293034; omega)⟩ (fun v G1 H locs hw hP hS => ?_)
    rcases hw with ⟨f2, h2, e2, rfl, hR⟩ | ⟨ho2, ⟨x, rfl⟩, hR⟩
    · obtain rfl : f = f2 := (nI_eq (by omega) (by omega)).mp (e1.symm.trans e2)
      obtain ⟨hb, row2, fi2, hI2⟩ := xI_turn hI hN hf5 hq
      refine W.eq (g2 := F0 m 772 ls [.int (nI (m_turn mv f (fr f) row.length md).2.2)]) rfl ?_
      refine lv_istore (lv' := [(6, .int (nI (m_turn mv f (fr f) row.length md).2.2)), (5, .int 0), (4, .int (nI i)), (0, .ref sc), (1, .ref (ly_a y 0)), (2, .ref (ly_a y 5)), (3, .ref (ly_a y 4))]) hK.1.1 hK.1.2.1 dL_law_772 hl (by decide) rfl (fun ls hl => ?_)
      refine lv_aload_n hK.1.1 hK.1.2.1 dL_law_774 rfl (lv_at hl 5 rfl) ?_
      refine gk_callV0 (n := 0) (As := []) (rest := []) hK (c_X5_thrown l hR) (gk_gV q_6_14 q_6_15 q_6_16 q_1_5 q_6_17) ⟨rfl, by decide +kernel, by decide +kernel, by decide +kernel⟩ ⟨(Nat.le_of_ble_eq_true rfl), (Nat.le_of_ble_eq_true rfl)⟩ hP hS (gk_recv hK.2.2.1.1 hP hR.2.2.2.2.2.2.2.2.1 rfl) rfl hl.1 rfl (Nat.le_of_ble_eq_true rfl) dL_law_775 ⟨(by show ((cells + 3) + 0) + 0 ≤ 601024; omega), (by show ((slots + 1509) + 0) + 0 ≤ 7293034; omega)⟩ (fun v G1 H locs hw hP hS => ?_)
      obtain ⟨rfl, hG9⟩ := hw
      rw [hG9] at hP
      refine W.eq (g2 := F0 m 778 ls [.int 0]) rfl ?_
      refine lv_iload hK.1.1 hK.1.2.1 dL_law_778 (lv_at hl 1 rfl) ?_
      refine lv_icmp_eq (tgt := 785) hK.1.1 hK.1.2.1 dL_law_780 (by decide) (fun _ => ?_) (fun c => absurd (by decide) c)
      refine lv_iload hK.1.1 hK.1.2.1 dL_law_785 (lv_at hl 1 rfl) ?_
      refine lv_if_ne (tgt := 802) hK.1.1 hK.1.2.1 dL_law_787 (by decide) (fun c => absurd c (by decide)) (fun _ => ?_)
      refine lv_aload_n hK.1.1 hK.1.2.1 dL_law_790 rfl (lv_at hl 6 rfl) ?_
      refine lv_iconst (v := 0) hK.1.1 hK.1.2.1 dL_law_791 (by decide) ?_
      refine lo_get hK hP hR dL_law_792 ?_
      refine lv_iload hK.1.1 hK.1.2.1 dL_law_793 (lv_at hl 0 rfl) ?_
      refine lv_i2l hK.1.1 hK.1.2.1 dL_law_795 rfl ?_
      refine W.lcmp hK.1.1 hK.1.2.1 dL_law_796 ?_
      refine lv_if_eq (tgt := 802) hK.1.1 hK.1.2.1 dL_law_797 (by decide) (fun _ => ?_) (fun c => absurd (by rw [show (m_turn mv f (fr f) row.length md).2.2 = (t_tth td ru fr lv hp ol pf f q).length from hb]; simp [lg_cmp]) c)
      refine lv_goto (tgt := 1428) hK.1.1 hK.1.2.1 dL_law_802 (by decide) ?_
      exact W.widen (show (((cells + 3) + 0) + 0) ≤ cells + 100 by omega) (show (((slots + 1509) + 0) + 0) ≤ slots + 8000 by omega) (kk ls _ _ _ _ _ _ _ _ _ _ _ _ _ _ _ _ _ _ _ _ _ _ hP hS hR hI2 (lv_sub hl [2, 3, 4, 5, 6] rfl))
    · exact False.elim (absurd (e1 ▸ ho2) (rg_out_no hf5 (by decide)))
  · refine W.eq (g2 := F0 m 760 ls [.int 1]) rfl ?_
    refine lv_istore (lv' := [(5, .int 1), (4, .int (nI i)), (0, .ref sc), (1, .ref (ly_a y 0)), (2, .ref (ly_a y 5)), (3, .ref (ly_a y 4))]) hK.1.1 hK.1.2.1 dL_law_760 hl (by decide) rfl (fun ls hl => ?_)
    refine lv_aload_n hK.1.1 hK.1.2.1 dL_law_762 rfl (lv_at hl 4 rfl) ?_
    refine lv_aload_n hK.1.1 hK.1.2.1 dL_law_763 rfl (lv_at hl 2 rfl) ?_
    refine lv_iload hK.1.1 hK.1.2.1 dL_law_764 (lv_at hl 1 rfl) ?_
    refine lv_iconst (v := 1) hK.1.1 hK.1.2.1 dL_law_766 (by decide) ?_
    refine lv_iadd hK.1.1 hK.1.2.1 dL_law_767 ?_
    rw [show nI i + 1 = nI (i + 1) from nI_add i 1]
    refine va_ti hK.1.1 hK.1.2.1 hT hS (vp_in_nI (show i + 1 < n9 by omega) (by omega)) (v := .int (sf (i + 1))) (by rw [nI_clamp (by omega)]) dL_law_768 ?_
    refine gk_callV0 (n := 1) (As := [.int (sf (i + 1))]) (rest := []) hK (c_X5_turn l hR (i := (sf (i + 1))) (n9 := row.length) (mr := fr) (xI_q hI hN).1 (by have := (xI_q hI hN).2; omega) (xI_r9 hI) (xI_bit hI)) (gk_gV q_18_14 q_18_15 q_18_16 q_1_5 q_18_17) ⟨rfl, by decide +kernel, by decide +kernel, by decide +kernel⟩ ⟨(Nat.le_of_ble_eq_true rfl), (Nat.le_of_ble_eq_true rfl)⟩ hP hS (gk_recv hK.2.2.1.1 hP hR.2.2.2.2.2.2.2.2.1 rfl) rfl hl.1 rfl (Nat.le_of_ble_eq_true rfl) dL_law_769 ⟨(by show (cells + 3) + 0 ≤ 601024; omega), (by show (slots + 1509) + 0 ≤ 7293034; omega)⟩ (fun v G1 H locs hw hP hS => ?_)
    rcases hw with ⟨f2, h2, e2, rfl, hR⟩ | ⟨ho2, ⟨x, rfl⟩, hR⟩
    · exact False.elim (absurd (e2 ▸ ho) (rg_out_no h2 (by decide)))
    · refine W.eq (g2 := F0 m 772 ls [.int x]) rfl ?_
      refine lv_istore (lv' := [(6, .int x), (5, .int 1), (4, .int (nI i)), (0, .ref sc), (1, .ref (ly_a y 0)), (2, .ref (ly_a y 5)), (3, .ref (ly_a y 4))]) hK.1.1 hK.1.2.1 dL_law_772 hl (by decide) rfl (fun ls hl => ?_)
      refine lv_aload_n hK.1.1 hK.1.2.1 dL_law_774 rfl (lv_at hl 5 rfl) ?_
      refine gk_callV0 (n := 0) (As := []) (rest := []) hK (c_X5_thrown l hR) (gk_gV q_6_14 q_6_15 q_6_16 q_1_5 q_6_17) ⟨rfl, by decide +kernel, by decide +kernel, by decide +kernel⟩ ⟨(Nat.le_of_ble_eq_true rfl), (Nat.le_of_ble_eq_true rfl)⟩ hP hS (gk_recv hK.2.2.1.1 hP hR.2.2.2.2.2.2.2.2.1 rfl) rfl hl.1 rfl (Nat.le_of_ble_eq_true rfl) dL_law_775 ⟨(by show ((cells + 3) + 0) + 0 ≤ 601024; omega), (by show ((slots + 1509) + 0) + 0 ≤ 7293034; omega)⟩ (fun v G1 H locs hw hP hS => ?_)
      obtain ⟨rfl, hG9⟩ := hw
      rw [hG9] at hP
      refine W.eq (g2 := F0 m 778 ls [.int 1]) rfl ?_
      refine lv_iload hK.1.1 hK.1.2.1 dL_law_778 (lv_at hl 1 rfl) ?_
      refine lv_icmp_eq (tgt := 785) hK.1.1 hK.1.2.1 dL_law_780 (by decide) (fun _ => ?_) (fun c => absurd (by decide) c)
      refine lv_iload hK.1.1 hK.1.2.1 dL_law_785 (lv_at hl 1 rfl) ?_
      refine lv_if_ne (tgt := 802) hK.1.1 hK.1.2.1 dL_law_787 (by decide) (fun _ => ?_) (fun c => absurd c (by decide))
      refine lv_goto (tgt := 1428) hK.1.1 hK.1.2.1 dL_law_802 (by decide) ?_
      exact W.widen (show (((cells + 3) + 0) + 0) ≤ cells + 100 by omega) (show (((slots + 1509) + 0) + 0) ≤ slots + 8000 by omega) (kk ls _ _ _ _ _ _ _ _ _ _ _ _ _ _ _ _ _ _ _ _ _ _ hP hS hR (xI_mono hI) (lv_sub hl [2, 3, 4, 5, 6] rfl))
set_option maxHeartbeats 4000000 in
set_option maxRecDepth 100000 in
theorem lw_12 {p : Program} {l : Launch} {e : Env} {s : State} {m : MethodId} {args : Array Value} {below : List Frame} {meth : Method} {c : Code} {H : Heap} {locs : List Loc} {cells slots : Nat} {Q : State → Prop} {ls : Array Slot} {y : ly_T} {A : Nat → Prop} {G : gk_G} {td : Int32} {ru : Nat → Nat → Int32} {fr lv : Nat → Nat} {lt et tl : Nat → Int32} {hf hp : Nat → Option Nat} {ol : Nat → List Nat} {PS : Nat → Prop} {pf : Nat → Nat → Int32} {ov : Int64} {md mq mt : Int32} {mv : Nat → Nat → Int32} {row : List Nat} {fi : Nat → Nat} {N i n9 sc : Nat} {sf : Nat → Int32} (hfl : l.stackTraces = false) (hK : gk_K p s m c args cL_law RL 7 y A) (hT : va_T .int sc n9 (fun j => .int (sf j)) A s s.heap) (hP : gk_P (ly_D y) A G H) (hS : va_S A s.heap H locs) (hR : rp y G td ru fr lv lt et tl hf hp ol PS pf ov md mq mt mv) (hI : xI td ru fr (lv, lt, et, tl, ol, PS, pf) hf hp row fi md mq mv N) (hN : N < 512) (hc : cells + 100 ≤ 601024) (hs : slots + 8000 ≤ 7293034) (hi : i + 7 ≤ n9) (hn9 : n9 ≤ 3584) (hl : lv_has ls 7 [(4, .int (nI i)), (0, .ref sc), (1, .ref (ly_a y 0)), (2, .ref (ly_a y 5)), (3, .ref (ly_a y 4))]) (kk : ∀ (ls : Array Slot) (H : Heap) (locs : List Loc) (G : gk_G) (td : Int32) (ru : Nat → Nat → Int32) (fr lv : Nat → Nat) (lt et tl : Nat → Int32) (hf hp : Nat → Option Nat) (ol : Nat → List Nat) (PS : Nat → Prop) (pf : Nat → Nat → Int32) (ov : Int64) (md mq mt : Int32) (mv : Nat → Nat → Int32) (row : List Nat) (fi : Nat → Nat), gk_P (ly_D y) A G H → va_S A s.heap H locs → rp y G td ru fr lv lt et tl hf hp ol PS pf ov md mq mt mv → xI td ru fr (lv, lt, et, tl, ol, PS, pf) hf hp row fi md mq mv (N + 1) → lv_has ls 7 [(4, .int (nI i)), (0, .ref sc), (1, .ref (ly_a y 0)), (2, .ref (ly_a y 5)), (3, .ref (ly_a y 4))] → W p l e { frames := 12, cells := 601024, slots := 7293034, locals := 444 } s m args below meth c H locs (cells + 100) (slots + 8000) Q (F0 m 1428 ls [])) : W p l e { frames := 12, cells := 601024, slots := 7293034, locals := 444 } s m args below meth c H locs cells slots Q (F0 m 874 ls []) := by
  obtain ⟨ml, hml, ha9⟩ := xI_a9 hI
  obtain ⟨e9, he5, htd, hmd⟩ := xI_d9 hI
  refine lv_aload_n hK.1.1 hK.1.2.1 dL_law_874 rfl (lv_at hl 2 rfl) ?_
  refine lv_aload_n hK.1.1 hK.1.2.1 dL_law_875 rfl (lv_at hl 1 rfl) ?_
  refine lv_iload hK.1.1 hK.1.2.1 dL_law_876 (lv_at hl 0 rfl) ?_
  refine lv_iconst (v := 1) hK.1.1 hK.1.2.1 dL_law_878 (by decide) ?_
  refine lv_iadd hK.1.1 hK.1.2.1 dL_law_879 ?_
  rw [show nI i + 1 = nI (i + 1) from nI_add i 1]
  refine va_ti hK.1.1 hK.1.2.1 hT hS (vp_in_nI (show i + 1 < n9 by omega) (by omega)) (v := .int (sf (i + 1))) (by rw [nI_clamp (by omega)]) dL_law_880 ?_
  refine lv_aload_n hK.1.1 hK.1.2.1 dL_law_881 rfl (lv_at hl 4 rfl) ?_
  refine gk_callSW (n := 3) (As := [.ref (ly_a y 0), .int (sf (i + 1)), .ref (ly_a y 4)]) (rest := []) hK (c_L_isDue l hfl hR (i := (sf (i + 1))) (xI_Ll hI)) (gk_gS q_19_13 q_19_14 q_5_0 q_19_15) ⟨by decide +kernel, by decide +kernel, by decide +kernel⟩ ⟨(Nat.le_of_ble_eq_true rfl), (Nat.le_of_ble_eq_true rfl)⟩ hP hS rfl hl.1 rfl (Nat.le_of_ble_eq_true rfl) dL_law_882 ⟨(by show cells + 16 ≤ 601024; omega), (by show slots + 128 ≤ 7293034; omega)⟩ (fun v G1 H locs hw hP hS => ?_)
  rcases hw with ⟨f, hf5, e1, rfl, hR⟩ | ⟨ho, rfl, hR⟩
  · refine W.eq (g2 := F0 m 885 ls [.int 0]) rfl ?_
    refine lv_istore (lv' := [(5, .int 0), (4, .int (nI i)), (0, .ref sc), (1, .ref (ly_a y 0)), (2, .ref (ly_a y 5)), (3, .ref (ly_a y 4))]) hK.1.1 hK.1.2.1 dL_law_885 hl (by decide) rfl (fun ls hl => ?_)
    refine lv_aload_n hK.1.1 hK.1.2.1 dL_law_887 rfl (lv_at hl 4 rfl) ?_
    refine lv_aload_n hK.1.1 hK.1.2.1 dL_law_888 rfl (lv_at hl 2 rfl) ?_
    refine lv_iload hK.1.1 hK.1.2.1 dL_law_889 (lv_at hl 1 rfl) ?_
    refine lv_iconst (v := 1) hK.1.1 hK.1.2.1 dL_law_891 (by decide) ?_
    refine lv_iadd hK.1.1 hK.1.2.1 dL_law_892 ?_
    rw [show nI i + 1 = nI (i + 1) from nI_add i 1]
    refine va_ti hK.1.1 hK.1.2.1 hT hS (vp_in_nI (show i + 1 < n9 by omega) (by omega)) (v := .int (sf (i + 1))) (by rw [nI_clamp (by omega)]) dL_law_893 ?_
    refine gk_callV0 (n := 1) (As := [.int (sf (i + 1))]) (rest := []) hK (c_X5_isDue l hR (i := (sf (i + 1))) (mr := fr) (ml := ml) (e9 := e9) (xI_r9 hI) ha9 hmd he5) (gk_gV q_19_20 q_19_21 q_19_22 q_1_5 q_19_23) ⟨rfl, by decide +kernel, by decide +kernel, by decide +kernel⟩ ⟨(Nat.le_of_ble_eq_true rfl), (Nat.le_of_ble_eq_true rfl)⟩ hP hS (gk_recv hK.2.2.1.1 hP hR.2.2.2.2.2.2.2.2.1 rfl) rfl hl.1 rfl (Nat.le_of_ble_eq_true rfl) dL_law_894 ⟨(by show (cells + 16) + 0 ≤ 601024; omega), (by show (slots + 128) + 0 ≤ 7293034; omega)⟩ (fun v G1 H locs hw hP hS => ?_)
    rcases hw with ⟨f2, h2, e2, rfl, hR⟩ | ⟨ho2, ⟨x, rfl⟩, hR⟩
    · obtain rfl : f = f2 := (nI_eq (by omega) (by omega)).mp (e1.symm.trans e2)
      refine W.eq (g2 := F0 m 897 ls [.int (rg_b (m_due mv f (fr f) (ml f) e9))]) rfl ?_
      refine lv_istore (lv' := [(6, .int (rg_b (m_due mv f (fr f) (ml f) e9))), (5, .int 0), (4, .int (nI i)), (0, .ref sc), (1, .ref (ly_a y 0)), (2, .ref (ly_a y 5)), (3, .ref (ly_a y 4))]) hK.1.1 hK.1.2.1 dL_law_897 hl (by decide) rfl (fun ls hl => ?_)
      refine lv_aload_n hK.1.1 hK.1.2.1 dL_law_899 rfl (lv_at hl 5 rfl) ?_
      refine gk_callV0 (n := 0) (As := []) (rest := []) hK (c_X5_thrown l hR) (gk_gV q_6_14 q_6_15 q_6_16 q_1_5 q_6_17) ⟨rfl, by decide +kernel, by decide +kernel, by decide +kernel⟩ ⟨(Nat.le_of_ble_eq_true rfl), (Nat.le_of_ble_eq_true rfl)⟩ hP hS (gk_recv hK.2.2.1.1 hP hR.2.2.2.2.2.2.2.2.1 rfl) rfl hl.1 rfl (Nat.le_of_ble_eq_true rfl) dL_law_900 ⟨(by show ((cells + 16) + 0) + 0 ≤ 601024; omega), (by show ((slots + 128) + 0) + 0 ≤ 7293034; omega)⟩ (fun v G1 H locs hw hP hS => ?_)
      obtain ⟨rfl, hG9⟩ := hw
      rw [hG9] at hP
      refine W.eq (g2 := F0 m 903 ls [.int 0]) rfl ?_
      refine lv_iload hK.1.1 hK.1.2.1 dL_law_903 (lv_at hl 1 rfl) ?_
      refine lv_icmp_eq (tgt := 910) hK.1.1 hK.1.2.1 dL_law_905 (by decide) (fun _ => ?_) (fun c => absurd (by decide) c)
      refine lv_iload hK.1.1 hK.1.2.1 dL_law_910 (lv_at hl 1 rfl) ?_
      refine lv_if_ne (tgt := 934) hK.1.1 hK.1.2.1 dL_law_912 (by decide) (fun c => absurd c (by decide)) (fun _ => ?_)
      refine lv_aload_n hK.1.1 hK.1.2.1 dL_law_915 rfl (lv_at hl 6 rfl) ?_
      refine lv_iconst (v := 0) hK.1.1 hK.1.2.1 dL_law_916 (by decide) ?_
      refine lo_get hK hP hR dL_law_917 ?_
      refine lv_iload hK.1.1 hK.1.2.1 dL_law_918 (lv_at hl 0 rfl) ?_
      refine lv_if_eq (tgt := 927) hK.1.1 hK.1.2.1 dL_law_920 (by decide) (fun c920_1 => ?_) (fun c920_1 => ?_)
      · refine lv_lconst (v := 0) hK.1.1 hK.1.2.1 dL_law_927 (by decide) ?_
        refine W.lcmp hK.1.1 hK.1.2.1 dL_law_928 ?_
        refine lv_if_eq (tgt := 934) hK.1.1 hK.1.2.1 dL_law_929 (by decide) (fun _ => ?_) (fun c => absurd (by rw [lg_zf (B := (t_due (pf 0 (lv f)) (ru (fr f) 1) (ru (fr f) 2) (ru (fr f) 3) (ru (fr f) 4) (et f) (lt f) td)) (d := m_due mv f (fr f) (ml f) e9) (by rw [htd]; exact (xI_due hI hN hf5 hml (by omega)).symm) rfl c920_1]; simp [lg_cmp]) c)
        refine lv_goto (tgt := 1428) hK.1.1 hK.1.2.1 dL_law_934 (by decide) ?_
        exact W.widen (show (((cells + 16) + 0) + 0) ≤ cells + 100 by omega) (show (((slots + 128) + 0) + 0) ≤ slots + 8000 by omega) (kk ls _ _ _ _ _ _ _ _ _ _ _ _ _ _ _ _ _ _ _ _ _ _ hP hS hR (xI_mono hI) (lv_sub hl [2, 3, 4, 5, 6] rfl))
      · refine lv_lconst (v := 1) hK.1.1 hK.1.2.1 dL_law_923 (by decide) ?_
        refine lv_goto (tgt := 928) hK.1.1 hK.1.2.1 dL_law_924 (by decide) ?_
        refine W.lcmp hK.1.1 hK.1.2.1 dL_law_928 ?_
        refine lv_if_eq (tgt := 934) hK.1.1 hK.1.2.1 dL_law_929 (by decide) (fun _ => ?_) (fun c => absurd (by rw [lg_zt (B := (t_due (pf 0 (lv f)) (ru (fr f) 1) (ru (fr f) 2) (ru (fr f) 3) (ru (fr f) 4) (et f) (lt f) td)) (d := m_due mv f (fr f) (ml f) e9) (by rw [htd]; exact (xI_due hI hN hf5 hml (by omega)).symm) rfl c920_1]; simp [lg_cmp]) c)
        refine lv_goto (tgt := 1428) hK.1.1 hK.1.2.1 dL_law_934 (by decide) ?_
        exact W.widen (show (((cells + 16) + 0) + 0) ≤ cells + 100 by omega) (show (((slots + 128) + 0) + 0) ≤ slots + 8000 by omega) (kk ls _ _ _ _ _ _ _ _ _ _ _ _ _ _ _ _ _ _ _ _ _ _ hP hS hR (xI_mono hI) (lv_sub hl [2, 3, 4, 5, 6] rfl))
    · exact False.elim (absurd (e1 ▸ ho2) (rg_out_no hf5 (by decide)))
  · refine W.eq (g2 := F0 m 885 ls [.int 1]) rfl ?_
    refine lv_istore (lv' := [(5, .int 1), (4, .int (nI i)), (0, .ref sc), (1, .ref (ly_a y 0)), (2, .ref (ly_a y 5)), (3, .ref (ly_a y 4))]) hK.1.1 hK.1.2.1 dL_law_885 hl (by decide) rfl (fun ls hl => ?_)
    refine lv_aload_n hK.1.1 hK.1.2.1 dL_law_887 rfl (lv_at hl 4 rfl) ?_
    refine lv_aload_n hK.1.1 hK.1.2.1 dL_law_888 rfl (lv_at hl 2 rfl) ?_
    refine lv_iload hK.1.1 hK.1.2.1 dL_law_889 (lv_at hl 1 rfl) ?_
    refine lv_iconst (v := 1) hK.1.1 hK.1.2.1 dL_law_891 (by decide) ?_
    refine lv_iadd hK.1.1 hK.1.2.1 dL_law_892 ?_
    rw [show nI i + 1 = nI (i + 1) from nI_add i 1]
    refine va_ti hK.1.1 hK.1.2.1 hT hS (vp_in_nI (show i + 1 < n9 by omega) (by omega)) (v := .int (sf (i + 1))) (by rw [nI_clamp (by omega)]) dL_law_893 ?_
    refine gk_callV0 (n := 1) (As := [.int (sf (i + 1))]) (rest := []) hK (c_X5_isDue l hR (i := (sf (i + 1))) (mr := fr) (ml := ml) (e9 := e9) (xI_r9 hI) ha9 hmd he5) (gk_gV q_19_20 q_19_21 q_19_22 q_1_5 q_19_23) ⟨rfl, by decide +kernel, by decide +kernel, by decide +kernel⟩ ⟨(Nat.le_of_ble_eq_true rfl), (Nat.le_of_ble_eq_true rfl)⟩ hP hS (gk_recv hK.2.2.1.1 hP hR.2.2.2.2.2.2.2.2.1 rfl) rfl hl.1 rfl (Nat.le_of_ble_eq_true rfl) dL_law_894 ⟨(by show (cells + 16) + 0 ≤ 601024; omega), (by show (slots + 128) + 0 ≤ 7293034; omega)⟩ (fun v G1 H locs hw hP hS => ?_)
    rcases hw with ⟨f2, h2, e2, rfl, hR⟩ | ⟨ho2, ⟨x, rfl⟩, hR⟩
    · exact False.elim (absurd (e2 ▸ ho) (rg_out_no h2 (by decide)))
    · refine W.eq (g2 := F0 m 897 ls [.int x]) rfl ?_
      refine lv_istore (lv' := [(6, .int x), (5, .int 1), (4, .int (nI i)), (0, .ref sc), (1, .ref (ly_a y 0)), (2, .ref (ly_a y 5)), (3, .ref (ly_a y 4))]) hK.1.1 hK.1.2.1 dL_law_897 hl (by decide) rfl (fun ls hl => ?_)
      refine lv_aload_n hK.1.1 hK.1.2.1 dL_law_899 rfl (lv_at hl 5 rfl) ?_
      refine gk_callV0 (n := 0) (As := []) (rest := []) hK (c_X5_thrown l hR) (gk_gV q_6_14 q_6_15 q_6_16 q_1_5 q_6_17) ⟨rfl, by decide +kernel, by decide +kernel, by decide +kernel⟩ ⟨(Nat.le_of_ble_eq_true rfl), (Nat.le_of_ble_eq_true rfl)⟩ hP hS (gk_recv hK.2.2.1.1 hP hR.2.2.2.2.2.2.2.2.1 rfl) rfl hl.1 rfl (Nat.le_of_ble_eq_true rfl) dL_law_900 ⟨(by show ((cells + 16) + 0) + 0 ≤ 601024; omega), (by show ((slots + 128) + 0) + 0 ≤ 7293034; omega)⟩ (fun v G1 H locs hw hP hS => ?_)
      obtain ⟨rfl, hG9⟩ := hw
      rw [hG9] at hP
      refine W.eq (g2 := F0 m 903 ls [.int 1]) rfl ?_
      refine lv_iload hK.1.1 hK.1.2.1 dL_law_903 (lv_at hl 1 rfl) ?_
      refine lv_icmp_eq (tgt := 910) hK.1.1 hK.1.2.1 dL_law_905 (by decide) (fun _ => ?_) (fun c => absurd (by decide) c)
      refine lv_iload hK.1.1 hK.1.2.1 dL_law_910 (lv_at hl 1 rfl) ?_
      refine lv_if_ne (tgt := 934) hK.1.1 hK.1.2.1 dL_law_912 (by decide) (fun _ => ?_) (fun c => absurd c (by decide))
      refine lv_goto (tgt := 1428) hK.1.1 hK.1.2.1 dL_law_934 (by decide) ?_
      exact W.widen (show (((cells + 16) + 0) + 0) ≤ cells + 100 by omega) (show (((slots + 128) + 0) + 0) ≤ slots + 8000 by omega) (kk ls _ _ _ _ _ _ _ _ _ _ _ _ _ _ _ _ _ _ _ _ _ _ hP hS hR (xI_mono hI) (lv_sub hl [2, 3, 4, 5, 6] rfl))
set_option maxHeartbeats 4000000 in
set_option maxRecDepth 100000 in
theorem lw_13 {p : Program} {l : Launch} {e : Env} {s : State} {m : MethodId} {args : Array Value} {below : List Frame} {meth : Method} {c : Code} {H : Heap} {locs : List Loc} {cells slots : Nat} {Q : State → Prop} {ls : Array Slot} {y : ly_T} {A : Nat → Prop} {G : gk_G} {td : Int32} {ru : Nat → Nat → Int32} {fr lv : Nat → Nat} {lt et tl : Nat → Int32} {hf hp : Nat → Option Nat} {ol : Nat → List Nat} {PS : Nat → Prop} {pf : Nat → Nat → Int32} {ov : Int64} {md mq mt : Int32} {mv : Nat → Nat → Int32} {row : List Nat} {fi : Nat → Nat} {N i n9 sc : Nat} {sf : Nat → Int32} (hfl : l.stackTraces = false) (hK : gk_K p s m c args cL_law RL 7 y A) (hT : va_T .int sc n9 (fun j => .int (sf j)) A s s.heap) (hP : gk_P (ly_D y) A G H) (hS : va_S A s.heap H locs) (hR : rp y G td ru fr lv lt et tl hf hp ol PS pf ov md mq mt mv) (hI : xI td ru fr (lv, lt, et, tl, ol, PS, pf) hf hp row fi md mq mv N) (hN : N < 512) (hc : cells + 100 ≤ 601024) (hs : slots + 8000 ≤ 7293034) (hi : i + 7 ≤ n9) (hn9 : n9 ≤ 3584) (hl : lv_has ls 7 [(4, .int (nI i)), (0, .ref sc), (1, .ref (ly_a y 0)), (2, .ref (ly_a y 5)), (3, .ref (ly_a y 4))]) (kk : ∀ (ls : Array Slot) (H : Heap) (locs : List Loc) (G : gk_G) (td : Int32) (ru : Nat → Nat → Int32) (fr lv : Nat → Nat) (lt et tl : Nat → Int32) (hf hp : Nat → Option Nat) (ol : Nat → List Nat) (PS : Nat → Prop) (pf : Nat → Nat → Int32) (ov : Int64) (md mq mt : Int32) (mv : Nat → Nat → Int32) (row : List Nat) (fi : Nat → Nat), gk_P (ly_D y) A G H → va_S A s.heap H locs → rp y G td ru fr lv lt et tl hf hp ol PS pf ov md mq mt mv → xI td ru fr (lv, lt, et, tl, ol, PS, pf) hf hp row fi md mq mv (N + 1) → lv_has ls 7 [(4, .int (nI i)), (0, .ref sc), (1, .ref (ly_a y 0)), (2, .ref (ly_a y 5)), (3, .ref (ly_a y 4))] → W p l e { frames := 12, cells := 601024, slots := 7293034, locals := 444 } s m args below meth c H locs (cells + 100) (slots + 8000) Q (F0 m 1428 ls [])) : W p l e { frames := 12, cells := 601024, slots := 7293034, locals := 444 } s m args below meth c H locs cells slots Q (F0 m 937 ls []) := by
  obtain ⟨ml, hml, ha9⟩ := xI_a9 hI
  obtain ⟨e9, he5, htd, hmd⟩ := xI_d9 hI
  refine lv_aload_n hK.1.1 hK.1.2.1 dL_law_937 rfl (lv_at hl 2 rfl) ?_
  refine lv_aload_n hK.1.1 hK.1.2.1 dL_law_938 rfl (lv_at hl 1 rfl) ?_
  refine lv_iload hK.1.1 hK.1.2.1 dL_law_939 (lv_at hl 0 rfl) ?_
  refine lv_iconst (v := 1) hK.1.1 hK.1.2.1 dL_law_941 (by decide) ?_
  refine lv_iadd hK.1.1 hK.1.2.1 dL_law_942 ?_
  rw [show nI i + 1 = nI (i + 1) from nI_add i 1]
  refine va_ti hK.1.1 hK.1.2.1 hT hS (vp_in_nI (show i + 1 < n9 by omega) (by omega)) (v := .int (sf (i + 1))) (by rw [nI_clamp (by omega)]) dL_law_943 ?_
  refine lv_aload_n hK.1.1 hK.1.2.1 dL_law_944 rfl (lv_at hl 4 rfl) ?_
  refine gk_callSW (n := 3) (As := [.ref (ly_a y 0), .int (sf (i + 1)), .ref (ly_a y 4)]) (rest := []) hK (c_L_nextDue l hfl hR (i := (sf (i + 1))) (xI_Ll hI)) (gk_gS q_20_0 q_20_1 q_5_0 q_20_2) ⟨by decide +kernel, by decide +kernel, by decide +kernel⟩ ⟨(Nat.le_of_ble_eq_true rfl), (Nat.le_of_ble_eq_true rfl)⟩ hP hS rfl hl.1 rfl (Nat.le_of_ble_eq_true rfl) dL_law_945 ⟨(by show cells + 16 ≤ 601024; omega), (by show slots + 128 ≤ 7293034; omega)⟩ (fun v G1 H locs hw hP hS => ?_)
  rcases hw with ⟨f, x, hf5, e1, hx, rfl, hR⟩ | ⟨ho, rfl, hR⟩
  · refine W.eq (g2 := F0 m 948 ls [.int 0]) rfl ?_
    refine lv_istore (lv' := [(5, .int 0), (4, .int (nI i)), (0, .ref sc), (1, .ref (ly_a y 0)), (2, .ref (ly_a y 5)), (3, .ref (ly_a y 4))]) hK.1.1 hK.1.2.1 dL_law_948 hl (by decide) rfl (fun ls hl => ?_)
    refine lv_aload_n hK.1.1 hK.1.2.1 dL_law_950 rfl (lv_at hl 4 rfl) ?_
    refine lv_aload_n hK.1.1 hK.1.2.1 dL_law_951 rfl (lv_at hl 2 rfl) ?_
    refine lv_iload hK.1.1 hK.1.2.1 dL_law_952 (lv_at hl 1 rfl) ?_
    refine lv_iconst (v := 1) hK.1.1 hK.1.2.1 dL_law_954 (by decide) ?_
    refine lv_iadd hK.1.1 hK.1.2.1 dL_law_955 ?_
    rw [show nI i + 1 = nI (i + 1) from nI_add i 1]
    refine va_ti hK.1.1 hK.1.2.1 hT hS (vp_in_nI (show i + 1 < n9 by omega) (by omega)) (v := .int (sf (i + 1))) (by rw [nI_clamp (by omega)]) dL_law_956 ?_
    refine gk_callV0 (n := 1) (As := [.int (sf (i + 1))]) (rest := []) hK (c_X5_nextDue l hR (i := (sf (i + 1))) (mr := fr) (ml := ml) (e9 := e9) (xI_r9 hI) ha9 hmd he5) (gk_gV q_20_7 q_20_8 q_20_9 q_1_5 q_20_10) ⟨rfl, by decide +kernel, by decide +kernel, by decide +kernel⟩ ⟨(Nat.le_of_ble_eq_true rfl), (Nat.le_of_ble_eq_true rfl)⟩ hP hS (gk_recv hK.2.2.1.1 hP hR.2.2.2.2.2.2.2.2.1 rfl) rfl hl.1 rfl (Nat.le_of_ble_eq_true rfl) dL_law_957 ⟨(by show (cells + 16) + 0 ≤ 601024; omega), (by show (slots + 128) + 0 ≤ 7293034; omega)⟩ (fun v G1 H locs hw hP hS => ?_)
    rcases hw with ⟨f2, h2, e2, hx2, hR⟩ | ⟨ho2, ⟨x2, rfl⟩, hR⟩
    · obtain rfl : f = f2 := (nI_eq (by omega) (by omega)).mp (e1.symm.trans e2)
      obtain rfl := xI_next hI hN hf5 hml he5 htd hx hx2
      refine W.eq (g2 := F0 m 960 ls [.int x]) rfl ?_
      refine lv_istore (lv' := [(6, .int x), (5, .int 0), (4, .int (nI i)), (0, .ref sc), (1, .ref (ly_a y 0)), (2, .ref (ly_a y 5)), (3, .ref (ly_a y 4))]) hK.1.1 hK.1.2.1 dL_law_960 hl (by decide) rfl (fun ls hl => ?_)
      refine lv_aload_n hK.1.1 hK.1.2.1 dL_law_962 rfl (lv_at hl 5 rfl) ?_
      refine gk_callV0 (n := 0) (As := []) (rest := []) hK (c_X5_thrown l hR) (gk_gV q_6_14 q_6_15 q_6_16 q_1_5 q_6_17) ⟨rfl, by decide +kernel, by decide +kernel, by decide +kernel⟩ ⟨(Nat.le_of_ble_eq_true rfl), (Nat.le_of_ble_eq_true rfl)⟩ hP hS (gk_recv hK.2.2.1.1 hP hR.2.2.2.2.2.2.2.2.1 rfl) rfl hl.1 rfl (Nat.le_of_ble_eq_true rfl) dL_law_963 ⟨(by show ((cells + 16) + 0) + 0 ≤ 601024; omega), (by show ((slots + 128) + 0) + 0 ≤ 7293034; omega)⟩ (fun v G1 H locs hw hP hS => ?_)
      obtain ⟨rfl, hG9⟩ := hw
      rw [hG9] at hP
      refine W.eq (g2 := F0 m 966 ls [.int 0]) rfl ?_
      refine lv_iload hK.1.1 hK.1.2.1 dL_law_966 (lv_at hl 1 rfl) ?_
      refine lv_icmp_eq (tgt := 973) hK.1.1 hK.1.2.1 dL_law_968 (by decide) (fun _ => ?_) (fun c => absurd (by decide) c)
      refine lv_iload hK.1.1 hK.1.2.1 dL_law_973 (lv_at hl 1 rfl) ?_
      refine lv_if_ne (tgt := 990) hK.1.1 hK.1.2.1 dL_law_975 (by decide) (fun c => absurd c (by decide)) (fun _ => ?_)
      refine lv_aload_n hK.1.1 hK.1.2.1 dL_law_978 rfl (lv_at hl 6 rfl) ?_
      refine lv_iconst (v := 0) hK.1.1 hK.1.2.1 dL_law_979 (by decide) ?_
      refine lo_get hK hP hR dL_law_980 ?_
      refine lv_iload hK.1.1 hK.1.2.1 dL_law_981 (lv_at hl 0 rfl) ?_
      refine lv_i2l hK.1.1 hK.1.2.1 dL_law_983 rfl ?_
      refine W.lcmp hK.1.1 hK.1.2.1 dL_law_984 ?_
      refine lv_if_eq (tgt := 990) hK.1.1 hK.1.2.1 dL_law_985 (by decide) (fun _ => ?_) (fun c => absurd (by simp [lg_cmp]) c)
      refine lv_goto (tgt := 1428) hK.1.1 hK.1.2.1 dL_law_990 (by decide) ?_
      exact W.widen (show (((cells + 16) + 0) + 0) ≤ cells + 100 by omega) (show (((slots + 128) + 0) + 0) ≤ slots + 8000 by omega) (kk ls _ _ _ _ _ _ _ _ _ _ _ _ _ _ _ _ _ _ _ _ _ _ hP hS hR (xI_mono hI) (lv_sub hl [2, 3, 4, 5, 6] rfl))
    · exact False.elim (absurd (e1 ▸ ho2) (rg_out_no hf5 (by decide)))
  · refine W.eq (g2 := F0 m 948 ls [.int 1]) rfl ?_
    refine lv_istore (lv' := [(5, .int 1), (4, .int (nI i)), (0, .ref sc), (1, .ref (ly_a y 0)), (2, .ref (ly_a y 5)), (3, .ref (ly_a y 4))]) hK.1.1 hK.1.2.1 dL_law_948 hl (by decide) rfl (fun ls hl => ?_)
    refine lv_aload_n hK.1.1 hK.1.2.1 dL_law_950 rfl (lv_at hl 4 rfl) ?_
    refine lv_aload_n hK.1.1 hK.1.2.1 dL_law_951 rfl (lv_at hl 2 rfl) ?_
    refine lv_iload hK.1.1 hK.1.2.1 dL_law_952 (lv_at hl 1 rfl) ?_
    refine lv_iconst (v := 1) hK.1.1 hK.1.2.1 dL_law_954 (by decide) ?_
    refine lv_iadd hK.1.1 hK.1.2.1 dL_law_955 ?_
    rw [show nI i + 1 = nI (i + 1) from nI_add i 1]
    refine va_ti hK.1.1 hK.1.2.1 hT hS (vp_in_nI (show i + 1 < n9 by omega) (by omega)) (v := .int (sf (i + 1))) (by rw [nI_clamp (by omega)]) dL_law_956 ?_
    refine gk_callV0 (n := 1) (As := [.int (sf (i + 1))]) (rest := []) hK (c_X5_nextDue l hR (i := (sf (i + 1))) (mr := fr) (ml := ml) (e9 := e9) (xI_r9 hI) ha9 hmd he5) (gk_gV q_20_7 q_20_8 q_20_9 q_1_5 q_20_10) ⟨rfl, by decide +kernel, by decide +kernel, by decide +kernel⟩ ⟨(Nat.le_of_ble_eq_true rfl), (Nat.le_of_ble_eq_true rfl)⟩ hP hS (gk_recv hK.2.2.1.1 hP hR.2.2.2.2.2.2.2.2.1 rfl) rfl hl.1 rfl (Nat.le_of_ble_eq_true rfl) dL_law_957 ⟨(by show (cells + 16) + 0 ≤ 601024; omega), (by show (slots + 128) + 0 ≤ 7293034; omega)⟩ (fun v G1 H locs hw hP hS => ?_)
    rcases hw with ⟨f2, h2, e2, hx2, hR⟩ | ⟨ho2, ⟨x2, rfl⟩, hR⟩
    · exact False.elim (absurd (e2 ▸ ho) (rg_out_no h2 (by decide)))
    · refine W.eq (g2 := F0 m 960 ls [.int x2]) rfl ?_
      refine lv_istore (lv' := [(6, .int x2), (5, .int 1), (4, .int (nI i)), (0, .ref sc), (1, .ref (ly_a y 0)), (2, .ref (ly_a y 5)), (3, .ref (ly_a y 4))]) hK.1.1 hK.1.2.1 dL_law_960 hl (by decide) rfl (fun ls hl => ?_)
      refine lv_aload_n hK.1.1 hK.1.2.1 dL_law_962 rfl (lv_at hl 5 rfl) ?_
      refine gk_callV0 (n := 0) (As := []) (rest := []) hK (c_X5_thrown l hR) (gk_gV q_6_14 q_6_15 q_6_16 q_1_5 q_6_17) ⟨rfl, by decide +kernel, by decide +kernel, by decide +kernel⟩ ⟨(Nat.le_of_ble_eq_true rfl), (Nat.le_of_ble_eq_true rfl)⟩ hP hS (gk_recv hK.2.2.1.1 hP hR.2.2.2.2.2.2.2.2.1 rfl) rfl hl.1 rfl (Nat.le_of_ble_eq_true rfl) dL_law_963 ⟨(by show ((cells + 16) + 0) + 0 ≤ 601024; omega), (by show ((slots + 128) + 0) + 0 ≤ 7293034; omega)⟩ (fun v G1 H locs hw hP hS => ?_)
      obtain ⟨rfl, hG9⟩ := hw
      rw [hG9] at hP
      refine W.eq (g2 := F0 m 966 ls [.int 1]) rfl ?_
      refine lv_iload hK.1.1 hK.1.2.1 dL_law_966 (lv_at hl 1 rfl) ?_
      refine lv_icmp_eq (tgt := 973) hK.1.1 hK.1.2.1 dL_law_968 (by decide) (fun _ => ?_) (fun c => absurd (by decide) c)
      refine lv_iload hK.1.1 hK.1.2.1 dL_law_973 (lv_at hl 1 rfl) ?_
      refine lv_if_ne (tgt := 990) hK.1.1 hK.1.2.1 dL_law_975 (by decide) (fun _ => ?_) (fun c => absurd c (by decide))
      refine lv_goto (tgt := 1428) hK.1.1 hK.1.2.1 dL_law_990 (by decide) ?_
      exact W.widen (show (((cells + 16) + 0) + 0) ≤ cells + 100 by omega) (show (((slots + 128) + 0) + 0) ≤ slots + 8000 by omega) (kk ls _ _ _ _ _ _ _ _ _ _ _ _ _ _ _ _ _ _ _ _ _ _ hP hS hR (xI_mono hI) (lv_sub hl [2, 3, 4, 5, 6] rfl))
set_option maxHeartbeats 4000000 in
set_option maxRecDepth 100000 in
theorem lw_18 {p : Program} {l : Launch} {e : Env} {s : State} {m : MethodId} {args : Array Value} {below : List Frame} {meth : Method} {c : Code} {H : Heap} {locs : List Loc} {cells slots : Nat} {Q : State → Prop} {ls : Array Slot} {y : ly_T} {A : Nat → Prop} {G : gk_G} {td : Int32} {ru : Nat → Nat → Int32} {fr lv : Nat → Nat} {lt et tl : Nat → Int32} {hf hp : Nat → Option Nat} {ol : Nat → List Nat} {PS : Nat → Prop} {pf : Nat → Nat → Int32} {ov : Int64} {md mq mt : Int32} {mv : Nat → Nat → Int32} {row : List Nat} {fi : Nat → Nat} {N i n9 sc : Nat} {sf : Nat → Int32} (hfl : l.stackTraces = false) (hK : gk_K p s m c args cL_law RL 7 y A) (hT : va_T .int sc n9 (fun j => .int (sf j)) A s s.heap) (hP : gk_P (ly_D y) A G H) (hS : va_S A s.heap H locs) (hR : rp y G td ru fr lv lt et tl hf hp ol PS pf ov md mq mt mv) (hI : xI td ru fr (lv, lt, et, tl, ol, PS, pf) hf hp row fi md mq mv N) (hN : N < 512) (hc : cells + 100 ≤ 601024) (hs : slots + 8000 ≤ 7293034) (hi : i + 7 ≤ n9) (hn9 : n9 ≤ 3584) (hl : lv_has ls 7 [(4, .int (nI i)), (0, .ref sc), (1, .ref (ly_a y 0)), (2, .ref (ly_a y 5)), (3, .ref (ly_a y 4))]) (kk : ∀ (ls : Array Slot) (H : Heap) (locs : List Loc) (G : gk_G) (td : Int32) (ru : Nat → Nat → Int32) (fr lv : Nat → Nat) (lt et tl : Nat → Int32) (hf hp : Nat → Option Nat) (ol : Nat → List Nat) (PS : Nat → Prop) (pf : Nat → Nat → Int32) (ov : Int64) (md mq mt : Int32) (mv : Nat → Nat → Int32) (row : List Nat) (fi : Nat → Nat), gk_P (ly_D y) A G H → va_S A s.heap H locs → rp y G td ru fr lv lt et tl hf hp ol PS pf ov md mq mt mv → xI td ru fr (lv, lt, et, tl, ol, PS, pf) hf hp row fi md mq mv (N + 1) → lv_has ls 7 [(4, .int (nI i)), (0, .ref sc), (1, .ref (ly_a y 0)), (2, .ref (ly_a y 5)), (3, .ref (ly_a y 4))] → W p l e { frames := 12, cells := 601024, slots := 7293034, locals := 444 } s m args below meth c H locs (cells + 100) (slots + 8000) Q (F0 m 1428 ls [])) : W p l e { frames := 12, cells := 601024, slots := 7293034, locals := 444 } s m args below meth c H locs cells slots Q (F0 m 1241 ls []) := by
  refine lv_aload_n hK.1.1 hK.1.2.1 dL_law_1241 rfl (lv_at hl 2 rfl) ?_
  refine lv_aload_n hK.1.1 hK.1.2.1 dL_law_1242 rfl (lv_at hl 1 rfl) ?_
  refine lv_iload hK.1.1 hK.1.2.1 dL_law_1243 (lv_at hl 0 rfl) ?_
  refine lv_iconst (v := 1) hK.1.1 hK.1.2.1 dL_law_1245 (by decide) ?_
  refine lv_iadd hK.1.1 hK.1.2.1 dL_law_1246 ?_
  rw [show nI i + 1 = nI (i + 1) from nI_add i 1]
  refine va_ti hK.1.1 hK.1.2.1 hT hS (vp_in_nI (show i + 1 < n9 by omega) (by omega)) (v := .int (sf (i + 1))) (by rw [nI_clamp (by omega)]) dL_law_1247 ?_
  refine lv_aload_n hK.1.1 hK.1.2.1 dL_law_1248 rfl (lv_at hl 1 rfl) ?_
  refine lv_iload hK.1.1 hK.1.2.1 dL_law_1249 (lv_at hl 0 rfl) ?_
  refine lv_iconst (v := 2) hK.1.1 hK.1.2.1 dL_law_1251 (by decide) ?_
  refine lv_iadd hK.1.1 hK.1.2.1 dL_law_1252 ?_
  rw [show nI i + 2 = nI (i + 2) from nI_add i 2]
  refine va_ti hK.1.1 hK.1.2.1 hT hS (vp_in_nI (show i + 2 < n9 by omega) (by omega)) (v := .int (sf (i + 2))) (by rw [nI_clamp (by omega)]) dL_law_1253 ?_
  refine lv_aload_n hK.1.1 hK.1.2.1 dL_law_1254 rfl (lv_at hl 4 rfl) ?_
  refine gk_callSW (n := 4) (As := [.ref (ly_a y 0), .int (sf (i + 1)), .int (sf (i + 2)), .ref (ly_a y 4)]) (rest := []) hK (c_L_isSqueezed l hfl hR (i := (sf (i + 1))) (j := (sf (i + 2))) (xI_in5 hI) (xI_sq hI)) (gk_gS q_22_17 q_22_18 q_5_0 q_22_19) ⟨by decide +kernel, by decide +kernel, by decide +kernel⟩ ⟨(Nat.le_of_ble_eq_true rfl), (Nat.le_of_ble_eq_true rfl)⟩ hP hS rfl hl.1 rfl (Nat.le_of_ble_eq_true rfl) dL_law_1255 ⟨(by show cells + 16 ≤ 601024; omega), (by show slots + 128 ≤ 7293034; omega)⟩ (fun v G1 H locs hw hP hS => ?_)
  rcases hw with ⟨f, k, t, hf5, e1, htk, e2, rfl, hR⟩ | ⟨ho, rfl, hR⟩
  · refine W.eq (g2 := F0 m 1258 ls [.int 0]) rfl ?_
    refine lv_istore (lv' := [(5, .int 0), (4, .int (nI i)), (0, .ref sc), (1, .ref (ly_a y 0)), (2, .ref (ly_a y 5)), (3, .ref (ly_a y 4))]) hK.1.1 hK.1.2.1 dL_law_1258 hl (by decide) rfl (fun ls hl => ?_)
    refine lv_aload_n hK.1.1 hK.1.2.1 dL_law_1260 rfl (lv_at hl 4 rfl) ?_
    refine lv_aload_n hK.1.1 hK.1.2.1 dL_law_1261 rfl (lv_at hl 2 rfl) ?_
    refine lv_iload hK.1.1 hK.1.2.1 dL_law_1262 (lv_at hl 1 rfl) ?_
    refine lv_iconst (v := 1) hK.1.1 hK.1.2.1 dL_law_1264 (by decide) ?_
    refine lv_iadd hK.1.1 hK.1.2.1 dL_law_1265 ?_
    rw [show nI i + 1 = nI (i + 1) from nI_add i 1]
    refine va_ti hK.1.1 hK.1.2.1 hT hS (vp_in_nI (show i + 1 < n9 by omega) (by omega)) (v := .int (sf (i + 1))) (by rw [nI_clamp (by omega)]) dL_law_1266 ?_
    refine lv_aload_n hK.1.1 hK.1.2.1 dL_law_1267 rfl (lv_at hl 2 rfl) ?_
    refine lv_iload hK.1.1 hK.1.2.1 dL_law_1268 (lv_at hl 1 rfl) ?_
    refine lv_iconst (v := 2) hK.1.1 hK.1.2.1 dL_law_1270 (by decide) ?_
    refine lv_iadd hK.1.1 hK.1.2.1 dL_law_1271 ?_
    rw [show nI i + 2 = nI (i + 2) from nI_add i 2]
    refine va_ti hK.1.1 hK.1.2.1 hT hS (vp_in_nI (show i + 2 < n9 by omega) (by omega)) (v := .int (sf (i + 2))) (by rw [nI_clamp (by omega)]) dL_law_1272 ?_
    refine gk_callV0 (n := 2) (As := [.int (sf (i + 1)), .int (sf (i + 2))]) (rest := []) hK (c_X5_isSqueezed l hR (i := (sf (i + 1))) (j := (sf (i + 2))) (n9 := row.length) (xI_q hI hN).1 (by have := (xI_q hI hN).2; omega)) (gk_gV q_23_0 q_23_1 q_23_2 q_1_5 q_23_3) ⟨rfl, by decide +kernel, by decide +kernel, by decide +kernel⟩ ⟨(Nat.le_of_ble_eq_true rfl), (Nat.le_of_ble_eq_true rfl)⟩ hP hS (gk_recv hK.2.2.1.1 hP hR.2.2.2.2.2.2.2.2.1 rfl) rfl hl.1 rfl (Nat.le_of_ble_eq_true rfl) dL_law_1273 ⟨(by show (cells + 16) + 0 ≤ 601024; omega), (by show (slots + 128) + 0 ≤ 7293034; omega)⟩ (fun v G1 H locs hw hP hS => ?_)
    rcases hw with ⟨pz, hpn, hp14, hpj, rfl, hR⟩ | ⟨hpn, ⟨x, rfl⟩, hR⟩
    · obtain ⟨hrow, hcnt⟩ := (xI_plc_ok hI hN hf5 htk).2 pz hpn (hp14.trans e1) (by rw [← e2, hpj, e1])
      refine W.eq (g2 := F0 m 1276 ls [.int (rg_b (decide (¬ mv 17 pz = 0)))]) rfl ?_
      refine lv_istore (lv' := [(6, .int (rg_b (decide (¬ mv 17 pz = 0)))), (5, .int 0), (4, .int (nI i)), (0, .ref sc), (1, .ref (ly_a y 0)), (2, .ref (ly_a y 5)), (3, .ref (ly_a y 4))]) hK.1.1 hK.1.2.1 dL_law_1276 hl (by decide) rfl (fun ls hl => ?_)
      refine lv_aload_n hK.1.1 hK.1.2.1 dL_law_1278 rfl (lv_at hl 5 rfl) ?_
      refine gk_callV0 (n := 0) (As := []) (rest := []) hK (c_X5_thrown l hR) (gk_gV q_6_14 q_6_15 q_6_16 q_1_5 q_6_17) ⟨rfl, by decide +kernel, by decide +kernel, by decide +kernel⟩ ⟨(Nat.le_of_ble_eq_true rfl), (Nat.le_of_ble_eq_true rfl)⟩ hP hS (gk_recv hK.2.2.1.1 hP hR.2.2.2.2.2.2.2.2.1 rfl) rfl hl.1 rfl (Nat.le_of_ble_eq_true rfl) dL_law_1279 ⟨(by show ((cells + 16) + 0) + 0 ≤ 601024; omega), (by show ((slots + 128) + 0) + 0 ≤ 7293034; omega)⟩ (fun v G1 H locs hw hP hS => ?_)
      obtain ⟨rfl, hG9⟩ := hw
      rw [hG9] at hP
      refine W.eq (g2 := F0 m 1282 ls [.int 0]) rfl ?_
      refine lv_iload hK.1.1 hK.1.2.1 dL_law_1282 (lv_at hl 1 rfl) ?_
      refine lv_icmp_eq (tgt := 1289) hK.1.1 hK.1.2.1 dL_law_1284 (by decide) (fun _ => ?_) (fun c => absurd (by decide) c)
      refine lv_iload hK.1.1 hK.1.2.1 dL_law_1289 (lv_at hl 1 rfl) ?_
      refine lv_if_ne (tgt := 1313) hK.1.1 hK.1.2.1 dL_law_1291 (by decide) (fun c => absurd c (by decide)) (fun _ => ?_)
      refine lv_aload_n hK.1.1 hK.1.2.1 dL_law_1294 rfl (lv_at hl 6 rfl) ?_
      refine lv_iconst (v := 0) hK.1.1 hK.1.2.1 dL_law_1295 (by decide) ?_
      refine lo_get hK hP hR dL_law_1296 ?_
      refine lv_iload hK.1.1 hK.1.2.1 dL_law_1297 (lv_at hl 0 rfl) ?_
      refine lv_if_eq (tgt := 1306) hK.1.1 hK.1.2.1 dL_law_1299 (by decide) (fun c1299_1 => ?_) (fun c1299_1 => ?_)
      · refine lv_lconst (v := 0) hK.1.1 hK.1.2.1 dL_law_1306 (by decide) ?_
        refine W.lcmp hK.1.1 hK.1.2.1 dL_law_1307 ?_
        refine lv_if_eq (tgt := 1313) hK.1.1 hK.1.2.1 dL_law_1308 (by decide) (fun _ => ?_) (fun c => absurd (by rw [lg_zf (B := (decide (¬ pf 2 t = 0))) (d := decide (¬ mv 17 pz = 0)) (by rw [show mv 17 pz = pf 2 t from (hI.1.2.2.2.2.1 pz t hrow).2.2.2]) rfl c1299_1]; simp [lg_cmp]) c)
        refine lv_goto (tgt := 1428) hK.1.1 hK.1.2.1 dL_law_1313 (by decide) ?_
        exact W.widen (show (((cells + 16) + 0) + 0) ≤ cells + 100 by omega) (show (((slots + 128) + 0) + 0) ≤ slots + 8000 by omega) (kk ls _ _ _ _ _ _ _ _ _ _ _ _ _ _ _ _ _ _ _ _ _ _ hP hS hR (xI_mono hI) (lv_sub hl [2, 3, 4, 5, 6] rfl))
      · refine lv_lconst (v := 1) hK.1.1 hK.1.2.1 dL_law_1302 (by decide) ?_
        refine lv_goto (tgt := 1307) hK.1.1 hK.1.2.1 dL_law_1303 (by decide) ?_
        refine W.lcmp hK.1.1 hK.1.2.1 dL_law_1307 ?_
        refine lv_if_eq (tgt := 1313) hK.1.1 hK.1.2.1 dL_law_1308 (by decide) (fun _ => ?_) (fun c => absurd (by rw [lg_zt (B := (decide (¬ pf 2 t = 0))) (d := decide (¬ mv 17 pz = 0)) (by rw [show mv 17 pz = pf 2 t from (hI.1.2.2.2.2.1 pz t hrow).2.2.2]) rfl c1299_1]; simp [lg_cmp]) c)
        refine lv_goto (tgt := 1428) hK.1.1 hK.1.2.1 dL_law_1313 (by decide) ?_
        exact W.widen (show (((cells + 16) + 0) + 0) ≤ cells + 100 by omega) (show (((slots + 128) + 0) + 0) ≤ slots + 8000 by omega) (kk ls _ _ _ _ _ _ _ _ _ _ _ _ _ _ _ _ _ _ _ _ _ _ hP hS hR (xI_mono hI) (lv_sub hl [2, 3, 4, 5, 6] rfl))
    · exact False.elim (by obtain ⟨pz, p1, p2, p3⟩ := (xI_plc_ok hI hN hf5 htk).1; exact absurd (by rw [e2, p3, e1]) (hpn pz p1 (p2.trans e1.symm)))
  · refine W.eq (g2 := F0 m 1258 ls [.int 1]) rfl ?_
    refine lv_istore (lv' := [(5, .int 1), (4, .int (nI i)), (0, .ref sc), (1, .ref (ly_a y 0)), (2, .ref (ly_a y 5)), (3, .ref (ly_a y 4))]) hK.1.1 hK.1.2.1 dL_law_1258 hl (by decide) rfl (fun ls hl => ?_)
    refine lv_aload_n hK.1.1 hK.1.2.1 dL_law_1260 rfl (lv_at hl 4 rfl) ?_
    refine lv_aload_n hK.1.1 hK.1.2.1 dL_law_1261 rfl (lv_at hl 2 rfl) ?_
    refine lv_iload hK.1.1 hK.1.2.1 dL_law_1262 (lv_at hl 1 rfl) ?_
    refine lv_iconst (v := 1) hK.1.1 hK.1.2.1 dL_law_1264 (by decide) ?_
    refine lv_iadd hK.1.1 hK.1.2.1 dL_law_1265 ?_
    rw [show nI i + 1 = nI (i + 1) from nI_add i 1]
    refine va_ti hK.1.1 hK.1.2.1 hT hS (vp_in_nI (show i + 1 < n9 by omega) (by omega)) (v := .int (sf (i + 1))) (by rw [nI_clamp (by omega)]) dL_law_1266 ?_
    refine lv_aload_n hK.1.1 hK.1.2.1 dL_law_1267 rfl (lv_at hl 2 rfl) ?_
    refine lv_iload hK.1.1 hK.1.2.1 dL_law_1268 (lv_at hl 1 rfl) ?_
    refine lv_iconst (v := 2) hK.1.1 hK.1.2.1 dL_law_1270 (by decide) ?_
    refine lv_iadd hK.1.1 hK.1.2.1 dL_law_1271 ?_
    rw [show nI i + 2 = nI (i + 2) from nI_add i 2]
    refine va_ti hK.1.1 hK.1.2.1 hT hS (vp_in_nI (show i + 2 < n9 by omega) (by omega)) (v := .int (sf (i + 2))) (by rw [nI_clamp (by omega)]) dL_law_1272 ?_
    refine gk_callV0 (n := 2) (As := [.int (sf (i + 1)), .int (sf (i + 2))]) (rest := []) hK (c_X5_isSqueezed l hR (i := (sf (i + 1))) (j := (sf (i + 2))) (n9 := row.length) (xI_q hI hN).1 (by have := (xI_q hI hN).2; omega)) (gk_gV q_23_0 q_23_1 q_23_2 q_1_5 q_23_3) ⟨rfl, by decide +kernel, by decide +kernel, by decide +kernel⟩ ⟨(Nat.le_of_ble_eq_true rfl), (Nat.le_of_ble_eq_true rfl)⟩ hP hS (gk_recv hK.2.2.1.1 hP hR.2.2.2.2.2.2.2.2.1 rfl) rfl hl.1 rfl (Nat.le_of_ble_eq_true rfl) dL_law_1273 ⟨(by show (cells + 16) + 0 ≤ 601024; omega), (by show (slots + 128) + 0 ≤ 7293034; omega)⟩ (fun v G1 H locs hw hP hS => ?_)
    rcases hw with ⟨pz, hpn, hp14, hpj, rfl, hR⟩ | ⟨hpn, ⟨x, rfl⟩, hR⟩
    · exact False.elim (absurd hpj (xI_plc_no hI hN ho pz hpn hp14))
    · refine W.eq (g2 := F0 m 1276 ls [.int x]) rfl ?_
      refine lv_istore (lv' := [(6, .int x), (5, .int 1), (4, .int (nI i)), (0, .ref sc), (1, .ref (ly_a y 0)), (2, .ref (ly_a y 5)), (3, .ref (ly_a y 4))]) hK.1.1 hK.1.2.1 dL_law_1276 hl (by decide) rfl (fun ls hl => ?_)
      refine lv_aload_n hK.1.1 hK.1.2.1 dL_law_1278 rfl (lv_at hl 5 rfl) ?_
      refine gk_callV0 (n := 0) (As := []) (rest := []) hK (c_X5_thrown l hR) (gk_gV q_6_14 q_6_15 q_6_16 q_1_5 q_6_17) ⟨rfl, by decide +kernel, by decide +kernel, by decide +kernel⟩ ⟨(Nat.le_of_ble_eq_true rfl), (Nat.le_of_ble_eq_true rfl)⟩ hP hS (gk_recv hK.2.2.1.1 hP hR.2.2.2.2.2.2.2.2.1 rfl) rfl hl.1 rfl (Nat.le_of_ble_eq_true rfl) dL_law_1279 ⟨(by show ((cells + 16) + 0) + 0 ≤ 601024; omega), (by show ((slots + 128) + 0) + 0 ≤ 7293034; omega)⟩ (fun v G1 H locs hw hP hS => ?_)
      obtain ⟨rfl, hG9⟩ := hw
      rw [hG9] at hP
      refine W.eq (g2 := F0 m 1282 ls [.int 1]) rfl ?_
      refine lv_iload hK.1.1 hK.1.2.1 dL_law_1282 (lv_at hl 1 rfl) ?_
      refine lv_icmp_eq (tgt := 1289) hK.1.1 hK.1.2.1 dL_law_1284 (by decide) (fun _ => ?_) (fun c => absurd (by decide) c)
      refine lv_iload hK.1.1 hK.1.2.1 dL_law_1289 (lv_at hl 1 rfl) ?_
      refine lv_if_ne (tgt := 1313) hK.1.1 hK.1.2.1 dL_law_1291 (by decide) (fun _ => ?_) (fun c => absurd c (by decide))
      refine lv_goto (tgt := 1428) hK.1.1 hK.1.2.1 dL_law_1313 (by decide) ?_
      exact W.widen (show (((cells + 16) + 0) + 0) ≤ cells + 100 by omega) (show (((slots + 128) + 0) + 0) ≤ slots + 8000 by omega) (kk ls _ _ _ _ _ _ _ _ _ _ _ _ _ _ _ _ _ _ _ _ _ _ hP hS hR (xI_mono hI) (lv_sub hl [2, 3, 4, 5, 6] rfl))
set_option maxHeartbeats 4000000 in
set_option maxRecDepth 100000 in
theorem lw_20 {p : Program} {l : Launch} {e : Env} {s : State} {m : MethodId} {args : Array Value} {below : List Frame} {meth : Method} {c : Code} {H : Heap} {locs : List Loc} {cells slots : Nat} {Q : State → Prop} {ls : Array Slot} {y : ly_T} {A : Nat → Prop} {G : gk_G} {td : Int32} {ru : Nat → Nat → Int32} {fr lv : Nat → Nat} {lt et tl : Nat → Int32} {hf hp : Nat → Option Nat} {ol : Nat → List Nat} {PS : Nat → Prop} {pf : Nat → Nat → Int32} {ov : Int64} {md mq mt : Int32} {mv : Nat → Nat → Int32} {row : List Nat} {fi : Nat → Nat} {N i n9 sc : Nat} {sf : Nat → Int32} (hfl : l.stackTraces = false) (hK : gk_K p s m c args cL_law RL 7 y A) (hT : va_T .int sc n9 (fun j => .int (sf j)) A s s.heap) (hP : gk_P (ly_D y) A G H) (hS : va_S A s.heap H locs) (hR : rp y G td ru fr lv lt et tl hf hp ol PS pf ov md mq mt mv) (hI : xI td ru fr (lv, lt, et, tl, ol, PS, pf) hf hp row fi md mq mv N) (hN : N < 512) (hc : cells + 100 ≤ 601024) (hs : slots + 8000 ≤ 7293034) (hi : i + 7 ≤ n9) (hn9 : n9 ≤ 3584) (hl : lv_has ls 7 [(4, .int (nI i)), (0, .ref sc), (1, .ref (ly_a y 0)), (2, .ref (ly_a y 5)), (3, .ref (ly_a y 4))]) (kk : ∀ (ls : Array Slot) (H : Heap) (locs : List Loc) (G : gk_G) (td : Int32) (ru : Nat → Nat → Int32) (fr lv : Nat → Nat) (lt et tl : Nat → Int32) (hf hp : Nat → Option Nat) (ol : Nat → List Nat) (PS : Nat → Prop) (pf : Nat → Nat → Int32) (ov : Int64) (md mq mt : Int32) (mv : Nat → Nat → Int32) (row : List Nat) (fi : Nat → Nat), gk_P (ly_D y) A G H → va_S A s.heap H locs → rp y G td ru fr lv lt et tl hf hp ol PS pf ov md mq mt mv → xI td ru fr (lv, lt, et, tl, ol, PS, pf) hf hp row fi md mq mv (N + 1) → lv_has ls 7 [(4, .int (nI i)), (0, .ref sc), (1, .ref (ly_a y 0)), (2, .ref (ly_a y 5)), (3, .ref (ly_a y 4))] → W p l e { frames := 12, cells := 601024, slots := 7293034, locals := 444 } s m args below meth c H locs (cells + 100) (slots + 8000) Q (F0 m 1428 ls [])) : W p l e { frames := 12, cells := 601024, slots := 7293034, locals := 444 } s m args below meth c H locs cells slots Q (F0 m 1372 ls []) := by
  refine lv_aload_n hK.1.1 hK.1.2.1 dL_law_1372 rfl (lv_at hl 2 rfl) ?_
  refine lv_aload_n hK.1.1 hK.1.2.1 dL_law_1373 rfl (lv_at hl 1 rfl) ?_
  refine lv_iload hK.1.1 hK.1.2.1 dL_law_1374 (lv_at hl 0 rfl) ?_
  refine lv_iconst (v := 1) hK.1.1 hK.1.2.1 dL_law_1376 (by decide) ?_
  refine lv_iadd hK.1.1 hK.1.2.1 dL_law_1377 ?_
  rw [show nI i + 1 = nI (i + 1) from nI_add i 1]
  refine va_ti hK.1.1 hK.1.2.1 hT hS (vp_in_nI (show i + 1 < n9 by omega) (by omega)) (v := .int (sf (i + 1))) (by rw [nI_clamp (by omega)]) dL_law_1378 ?_
  refine lv_aload_n hK.1.1 hK.1.2.1 dL_law_1379 rfl (lv_at hl 4 rfl) ?_
  refine gk_callSW (n := 3) (As := [.ref (ly_a y 0), .int (sf (i + 1)), .ref (ly_a y 4)]) (rest := []) hK (c_L_holds l hfl hR (i := (sf (i + 1))) (xI_Ho hI)) (gk_gS q_23_15 q_23_16 q_5_0 q_23_17) ⟨by decide +kernel, by decide +kernel, by decide +kernel⟩ ⟨(Nat.le_of_ble_eq_true rfl), (Nat.le_of_ble_eq_true rfl)⟩ hP hS rfl hl.1 rfl (Nat.le_of_ble_eq_true rfl) dL_law_1380 ⟨(by show cells + 16 ≤ 601024; omega), (by show slots + 128 ≤ 7293034; omega)⟩ (fun v G1 H locs hw hP hS => ?_)
  rcases hw with ⟨a, z9, ha, e1, hz, rfl, hR⟩ | ⟨ho, rfl, hR⟩
  · refine W.eq (g2 := F0 m 1383 ls [.int 0]) rfl ?_
    refine lv_istore (lv' := [(5, .int 0), (4, .int (nI i)), (0, .ref sc), (1, .ref (ly_a y 0)), (2, .ref (ly_a y 5)), (3, .ref (ly_a y 4))]) hK.1.1 hK.1.2.1 dL_law_1383 hl (by decide) rfl (fun ls hl => ?_)
    refine lv_aload_n hK.1.1 hK.1.2.1 dL_law_1385 rfl (lv_at hl 4 rfl) ?_
    refine lv_aload_n hK.1.1 hK.1.2.1 dL_law_1386 rfl (lv_at hl 2 rfl) ?_
    refine lv_iload hK.1.1 hK.1.2.1 dL_law_1387 (lv_at hl 1 rfl) ?_
    refine lv_iconst (v := 1) hK.1.1 hK.1.2.1 dL_law_1389 (by decide) ?_
    refine lv_iadd hK.1.1 hK.1.2.1 dL_law_1390 ?_
    rw [show nI i + 1 = nI (i + 1) from nI_add i 1]
    refine va_ti hK.1.1 hK.1.2.1 hT hS (vp_in_nI (show i + 1 < n9 by omega) (by omega)) (v := .int (sf (i + 1))) (by rw [nI_clamp (by omega)]) dL_law_1391 ?_
    refine gk_callV0 (n := 1) (As := [.int (sf (i + 1))]) (rest := []) hK (c_X5_holds l hR (i := (sf (i + 1))) (xI_19 hI hN)) (gk_gV q_24_2 q_24_3 q_24_4 q_1_5 q_24_5) ⟨rfl, by decide +kernel, by decide +kernel, by decide +kernel⟩ ⟨(Nat.le_of_ble_eq_true rfl), (Nat.le_of_ble_eq_true rfl)⟩ hP hS (gk_recv hK.2.2.1.1 hP hR.2.2.2.2.2.2.2.2.1 rfl) rfl hl.1 rfl (Nat.le_of_ble_eq_true rfl) dL_law_1392 ⟨(by show (cells + 16) + 0 ≤ 601024; omega), (by show (slots + 128) + 0 ≤ 7293034; omega)⟩ (fun v G1 H locs hw hP hS => ?_)
    rcases hw with ⟨a2, ha2, e2, hz2, hR⟩ | ⟨ho2, ⟨x, rfl⟩, hR⟩
    · obtain rfl : a = a2 := (nI_eq (by omega) (by omega)).mp (e1.symm.trans e2)
      obtain rfl := xI_holds_v hI hN ha hz hz2
      refine W.eq (g2 := F0 m 1395 ls [.int z9]) rfl ?_
      refine lv_istore (lv' := [(6, .int z9), (5, .int 0), (4, .int (nI i)), (0, .ref sc), (1, .ref (ly_a y 0)), (2, .ref (ly_a y 5)), (3, .ref (ly_a y 4))]) hK.1.1 hK.1.2.1 dL_law_1395 hl (by decide) rfl (fun ls hl => ?_)
      refine lv_aload_n hK.1.1 hK.1.2.1 dL_law_1397 rfl (lv_at hl 5 rfl) ?_
      refine gk_callV0 (n := 0) (As := []) (rest := []) hK (c_X5_thrown l hR) (gk_gV q_6_14 q_6_15 q_6_16 q_1_5 q_6_17) ⟨rfl, by decide +kernel, by decide +kernel, by decide +kernel⟩ ⟨(Nat.le_of_ble_eq_true rfl), (Nat.le_of_ble_eq_true rfl)⟩ hP hS (gk_recv hK.2.2.1.1 hP hR.2.2.2.2.2.2.2.2.1 rfl) rfl hl.1 rfl (Nat.le_of_ble_eq_true rfl) dL_law_1398 ⟨(by show ((cells + 16) + 0) + 0 ≤ 601024; omega), (by show ((slots + 128) + 0) + 0 ≤ 7293034; omega)⟩ (fun v G1 H locs hw hP hS => ?_)
      obtain ⟨rfl, hG9⟩ := hw
      rw [hG9] at hP
      refine W.eq (g2 := F0 m 1401 ls [.int 0]) rfl ?_
      refine lv_iload hK.1.1 hK.1.2.1 dL_law_1401 (lv_at hl 1 rfl) ?_
      refine lv_icmp_eq (tgt := 1408) hK.1.1 hK.1.2.1 dL_law_1403 (by decide) (fun _ => ?_) (fun c => absurd (by decide) c)
      refine lv_iload hK.1.1 hK.1.2.1 dL_law_1408 (lv_at hl 1 rfl) ?_
      refine lv_if_ne (tgt := 1425) hK.1.1 hK.1.2.1 dL_law_1410 (by decide) (fun c => absurd c (by decide)) (fun _ => ?_)
      refine lv_aload_n hK.1.1 hK.1.2.1 dL_law_1413 rfl (lv_at hl 6 rfl) ?_
      refine lv_iconst (v := 0) hK.1.1 hK.1.2.1 dL_law_1414 (by decide) ?_
      refine lo_get hK hP hR dL_law_1415 ?_
      refine lv_iload hK.1.1 hK.1.2.1 dL_law_1416 (lv_at hl 0 rfl) ?_
      refine lv_i2l hK.1.1 hK.1.2.1 dL_law_1418 rfl ?_
      refine W.lcmp hK.1.1 hK.1.2.1 dL_law_1419 ?_
      refine lv_if_eq (tgt := 1425) hK.1.1 hK.1.2.1 dL_law_1420 (by decide) (fun _ => ?_) (fun c => absurd (by simp [lg_cmp]) c)
      refine lv_goto (tgt := 1428) hK.1.1 hK.1.2.1 dL_law_1425 (by decide) ?_
      exact W.widen (show (((cells + 16) + 0) + 0) ≤ cells + 100 by omega) (show (((slots + 128) + 0) + 0) ≤ slots + 8000 by omega) (kk ls _ _ _ _ _ _ _ _ _ _ _ _ _ _ _ _ _ _ _ _ _ _ hP hS hR (xI_mono hI) (lv_sub hl [2, 3, 4, 5, 6] rfl))
    · exact False.elim (absurd (e1 ▸ ho2) (rg_out_no ha (by decide)))
  · refine W.eq (g2 := F0 m 1383 ls [.int 1]) rfl ?_
    refine lv_istore (lv' := [(5, .int 1), (4, .int (nI i)), (0, .ref sc), (1, .ref (ly_a y 0)), (2, .ref (ly_a y 5)), (3, .ref (ly_a y 4))]) hK.1.1 hK.1.2.1 dL_law_1383 hl (by decide) rfl (fun ls hl => ?_)
    refine lv_aload_n hK.1.1 hK.1.2.1 dL_law_1385 rfl (lv_at hl 4 rfl) ?_
    refine lv_aload_n hK.1.1 hK.1.2.1 dL_law_1386 rfl (lv_at hl 2 rfl) ?_
    refine lv_iload hK.1.1 hK.1.2.1 dL_law_1387 (lv_at hl 1 rfl) ?_
    refine lv_iconst (v := 1) hK.1.1 hK.1.2.1 dL_law_1389 (by decide) ?_
    refine lv_iadd hK.1.1 hK.1.2.1 dL_law_1390 ?_
    rw [show nI i + 1 = nI (i + 1) from nI_add i 1]
    refine va_ti hK.1.1 hK.1.2.1 hT hS (vp_in_nI (show i + 1 < n9 by omega) (by omega)) (v := .int (sf (i + 1))) (by rw [nI_clamp (by omega)]) dL_law_1391 ?_
    refine gk_callV0 (n := 1) (As := [.int (sf (i + 1))]) (rest := []) hK (c_X5_holds l hR (i := (sf (i + 1))) (xI_19 hI hN)) (gk_gV q_24_2 q_24_3 q_24_4 q_1_5 q_24_5) ⟨rfl, by decide +kernel, by decide +kernel, by decide +kernel⟩ ⟨(Nat.le_of_ble_eq_true rfl), (Nat.le_of_ble_eq_true rfl)⟩ hP hS (gk_recv hK.2.2.1.1 hP hR.2.2.2.2.2.2.2.2.1 rfl) rfl hl.1 rfl (Nat.le_of_ble_eq_true rfl) dL_law_1392 ⟨(by show (cells + 16) + 0 ≤ 601024; omega), (by show (slots + 128) + 0 ≤ 7293034; omega)⟩ (fun v G1 H locs hw hP hS => ?_)
    rcases hw with ⟨a2, ha2, e2, hz2, hR⟩ | ⟨ho2, ⟨x, rfl⟩, hR⟩
    · exact False.elim (absurd (e2 ▸ ho) (rg_out_no ha2 (by decide)))
    · refine W.eq (g2 := F0 m 1395 ls [.int x]) rfl ?_
      refine lv_istore (lv' := [(6, .int x), (5, .int 1), (4, .int (nI i)), (0, .ref sc), (1, .ref (ly_a y 0)), (2, .ref (ly_a y 5)), (3, .ref (ly_a y 4))]) hK.1.1 hK.1.2.1 dL_law_1395 hl (by decide) rfl (fun ls hl => ?_)
      refine lv_aload_n hK.1.1 hK.1.2.1 dL_law_1397 rfl (lv_at hl 5 rfl) ?_
      refine gk_callV0 (n := 0) (As := []) (rest := []) hK (c_X5_thrown l hR) (gk_gV q_6_14 q_6_15 q_6_16 q_1_5 q_6_17) ⟨rfl, by decide +kernel, by decide +kernel, by decide +kernel⟩ ⟨(Nat.le_of_ble_eq_true rfl), (Nat.le_of_ble_eq_true rfl)⟩ hP hS (gk_recv hK.2.2.1.1 hP hR.2.2.2.2.2.2.2.2.1 rfl) rfl hl.1 rfl (Nat.le_of_ble_eq_true rfl) dL_law_1398 ⟨(by show ((cells + 16) + 0) + 0 ≤ 601024; omega), (by show ((slots + 128) + 0) + 0 ≤ 7293034; omega)⟩ (fun v G1 H locs hw hP hS => ?_)
      obtain ⟨rfl, hG9⟩ := hw
      rw [hG9] at hP
      refine W.eq (g2 := F0 m 1401 ls [.int 1]) rfl ?_
      refine lv_iload hK.1.1 hK.1.2.1 dL_law_1401 (lv_at hl 1 rfl) ?_
      refine lv_icmp_eq (tgt := 1408) hK.1.1 hK.1.2.1 dL_law_1403 (by decide) (fun _ => ?_) (fun c => absurd (by decide) c)
      refine lv_iload hK.1.1 hK.1.2.1 dL_law_1408 (lv_at hl 1 rfl) ?_
      refine lv_if_ne (tgt := 1425) hK.1.1 hK.1.2.1 dL_law_1410 (by decide) (fun _ => ?_) (fun c => absurd c (by decide))
      refine lv_goto (tgt := 1428) hK.1.1 hK.1.2.1 dL_law_1425 (by decide) ?_
      exact W.widen (show (((cells + 16) + 0) + 0) ≤ cells + 100 by omega) (show (((slots + 128) + 0) + 0) ≤ slots + 8000 by omega) (kk ls _ _ _ _ _ _ _ _ _ _ _ _ _ _ _ _ _ _ _ _ _ _ hP hS hR (xI_mono hI) (lv_sub hl [2, 3, 4, 5, 6] rfl))
