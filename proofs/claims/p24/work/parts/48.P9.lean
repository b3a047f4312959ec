/-! the two objects and the law's rows, together -/
def jv (ed N : Nat) (td : Int32) (ru : Nat → Nat → Int32) (fr : Nat → Nat) (hf : Nat → Option Nat) (S : ts_T) (hp : Nat → Option Nat) (S2 : ts_T) (hp2 : Nat → Option Nat) (tt rr ff cc : Nat → Int32) : Prop :=
  (∃ fi, iv ed N td ru fr hf S hp tt fi) ∧ (∃ fi, iv ed N td ru fr hf S2 hp2 tt fi) ∧ (∃ φ, rn φ S hp S2 hp2) ∧ lr rr ru ∧ lf ff fr S tt ∧ cc 0 = td
/-- the law's world behind N calls -/
def lj (y : ly_T) (G : gk_G) (ar af ac N : Nat) : Prop := ∃ (ed : Nat) (td : Int32) (ru : Nat → Nat → Int32) (fr : Nat → Nat) (hf : Nat → Option Nat) (S : ts_T) (hp : Nat → Option Nat) (S2 : ts_T) (hp2 : Nat → Option Nat) (tt rr ff cc : Nat → Int32), lw y G td ru fr hf S hp td ru fr hf S2 hp2 [(ar, 27, rr), (af, 20, ff), (ac, 1, cc)] ∧ jv ed N td ru fr hf S hp S2 hp2 tt rr ff cc
section P9
variable {ed N : Nat} {td : Int32} {ru : Nat → Nat → Int32} {fr : Nat → Nat} {hf hp : Nat → Option Nat} {S : ts_T} {tt : Nat → Int32} {fi : Nat → Nat}
theorem iv_turn {f q : Nat} (h : iv ed N td ru fr hf S hp tt fi) (hf5 : f < 5) (hq : ¬ S.2.2.2.2.2.1 q) (hl : (S.2.2.2.2.1 f).length ≤ 80 ∨ ¬ S.2.2.2.2.2.2 0 (S.1 f) = 0) : iv ed (N + 1) td ru fr hf (t_turn td ru fr hp S f q) hp tt (va_up fi q f) :=
  iv_zl (iv0_mono (iv0_turn (iv_z h) hf5 hq)) (fun g hg => by
    by_cases hgf : g = f
    · subst hgf
      exact tn_ivl (h.2.2.2.2.2.2.2 g hg) hl
    · have : S.1 g ≠ q := fun z => hq (z ▸ iv_Ll h g hg)
      have h1 : ivl N S g := h.2.2.2.2.2.2.2 g hg
      rcases tn_ivlo (td := td) (ru := ru) (fr := fr) (hp := hp) hgf this h1 with z | z
      · exact Or.inl ⟨z.1, by omega⟩
      · exact Or.inr ⟨z.1, by omega⟩)
theorem lf_turn {f q : Nat} {ff : Nat → Int32} (h : lf ff fr S tt) : lf (upd (upd ff (4 * f + 1) td) (4 * f + 2) 1) fr (t_turn td ru fr hp S f q) tt := fun g hg => by
  obtain ⟨a1, a2, a3, a4⟩ := h g hg
  simp only [upd]
  rw [if_neg (by omega), if_neg (by omega), if_neg (by omega)]
  refine ⟨a1, ?_, ?_, ?_⟩
  · show _ = va_up S.2.1 f td g
    by_cases hgf : g = f
    · rw [hgf, va_up_self, if_pos rfl]
    · rw [va_up_ne _ _ hgf, if_neg (by omega)]; exact a2
  · show _ = va_up S.2.2.1 f 1 g
    by_cases hgf : g = f
    · rw [hgf, va_up_self, if_pos rfl]
    · rw [va_up_ne _ _ hgf, if_neg (by omega), if_neg (by omega)]; exact a3
  · rw [if_neg (by omega), if_neg (by omega)]; exact a4
/-- the holders behind a turn -/
theorem tn_hz {f q k : Nat} (h : iv ed N td ru fr hf S hp tt fi) (hf5 : f < 5) (hk : k < 4) : (∀ g, g ≠ f → hf k = some g → hz hf hp (t_turn td ru fr hp S f q).2.2.2.2.1 k = hz hf hp S.2.2.2.2.1 k) ∧ (∀ t, hf k = some f → hp k = some t → hz hf hp (t_turn td ru fr hp S f q).2.2.2.2.1 k = nI (100 * f + pl ((t_turn td ru fr hp S f q).2.2.2.2.1 f) t) ∧ 0 < pl ((t_turn td ru fr hp S f q).2.2.2.2.1 f) t ∧ (t = S.1 f → pl ((t_turn td ru fr hp S f q).2.2.2.2.1 f) t = ((t_turn td ru fr hp S f q).2.2.2.2.1 f).length)) := by
  refine ⟨fun g hg h1 => ?_, fun t h1 h2 => ?_⟩
  · rcases h.2.2.2.2.2.1 k hk with ⟨a, -⟩ | ⟨g2, t, g5, a, b, -⟩
    · rw [h1] at a; cases a
    · rw [hz_some a b, hz_some a b]
      rw [h1] at a
      cases a
      rw [tn_ol hg]
  · have hm : t = S.1 f ∨ t ∈ S.2.2.2.2.1 f := by
      rcases h.2.2.2.2.2.1 k hk with ⟨a, -⟩ | ⟨g2, u, g5, a, b, c⟩
      · rw [h1] at a; cases a
      · rw [h1] at a; cases a
        rw [h2] at b; cases b
        exact c
    obtain ⟨k1, k2⟩ := tn_keep (q := q) (iv_z h) hf5 hk h2 hm
    have hnd : ((t_turn td ru fr hp S f q).2.2.2.2.1 f).Nodup := by
      rw [tn_olf]
      refine List.Nodup.sublist (kp_sub _ _ _) ?_
      obtain ⟨⟨f1, f2, f3⟩, f4, -⟩ := h.2.2.2.1 f hf5
      rw [List.nodup_append]
      refine ⟨f4, by simp, fun a ha b hb => ?_⟩
      rw [List.mem_singleton.mp hb]
      exact fun z => f3 (z ▸ ha)
    refine ⟨hz_some h1 h2, pl_pos hnd k1, fun z => ?_⟩
    obtain ⟨m1, m2⟩ := k2 z
    rw [pl_at hnd m1]
    omega
end P9
theorem tn_tl {td : Int32} {ru : Nat → Nat → Int32} {fr : Nat → Nat} {hp : Nat → Option Nat} {S : ts_T} {f q : Nat} (h : (t_tth td ru fr S.1 hp S.2.2.2.2.1 S.2.2.2.2.2.2 f q).length = 0) : (t_turn td ru fr hp S f q).2.2.2.1 f = S.2.2.2.1 f := by
  show va_up S.2.2.2.1 f (t_sum (t_tpf td ru fr S.1 hp S.2.2.2.2.1 S.2.2.2.2.2.2 f q) (S.2.2.2.1 f) (t_tth td ru fr S.1 hp S.2.2.2.2.1 S.2.2.2.2.2.2 f q)) f = _
  rw [va_up_self, List.length_eq_zero_iff.mp h]
  rfl
