/-! two objects that were called alike: one is the other with its parts renamed -/
def rn (φ : Nat → Nat) (S : ts_T) (hp : Nat → Option Nat) (S2 : ts_T) (hp2 : Nat → Option Nat) : Prop :=
  (∀ f, f < 5 → S2.1 f = φ (S.1 f)) ∧ (S2.2.1 = S.2.1 ∧ S2.2.2.1 = S.2.2.1 ∧ S2.2.2.2.1 = S.2.2.2.1) ∧ (∀ f, f < 5 → S2.2.2.2.2.1 f = (S.2.2.2.2.1 f).map φ) ∧
  (∀ t, S.2.2.2.2.2.1 t → S2.2.2.2.2.2.1 (φ t) ∧ ∀ i, i < 3 → S2.2.2.2.2.2.2 i (φ t) = S.2.2.2.2.2.2 i t) ∧ (∀ t u, S.2.2.2.2.2.1 t → S.2.2.2.2.2.1 u → φ t = φ u → t = u) ∧ ∀ h, h < 4 → hp2 h = (hp h).map φ
section RN
variable {φ : Nat → Nat} {S S2 : ts_T} {hp hp2 : Nat → Option Nat} {td : Int32} {ru : Nat → Nat → Int32} {fr : Nat → Nat} {hf : Nat → Option Nat}
theorem rn_open {k f : Nat} (h : rn φ S hp S2 hp2) (hf5 : f < 5) : rn φ S (va_up hp k (some (S.1 f))) S2 (va_up hp2 k (some (S2.1 f))) := by
  obtain ⟨a1, a2, a3, a4, a5, a6⟩ := h
  refine ⟨a1, a2, a3, a4, a5, fun j hj => ?_⟩
  by_cases hjk : j = k
  · rw [hjk, va_up_self, va_up_self, a1 f hf5]; rfl
  · rw [va_up_ne _ _ hjk, va_up_ne _ _ hjk]; exact a6 j hj
theorem rn_shut {k : Nat} (h : rn φ S hp S2 hp2) : rn φ S (va_up hp k none) S2 (va_up hp2 k none) := by
  obtain ⟨a1, a2, a3, a4, a5, a6⟩ := h
  refine ⟨a1, a2, a3, a4, a5, fun j hj => ?_⟩
  by_cases hjk : j = k
  · rw [hjk, va_up_self, va_up_self]; rfl
  · rw [va_up_ne _ _ hjk, va_up_ne _ _ hjk]; exact a6 j hj
theorem rn_shut_b {k : Nat} (h : rn φ S hp S2 hp2) (hk : k < 4) : (hp2 k).isSome = (hp k).isSome := by
  rw [h.2.2.2.2.2 k hk]; cases hp k <;> rfl
theorem rn_hp {k t : Nat} (h : rn φ S hp S2 hp2) (hk : k < 4) (ht : hp k = some t) : hp2 k = some (φ t) := by
  rw [h.2.2.2.2.2 k hk, ht]; rfl
theorem rn_hpn {k : Nat} (h : rn φ S hp S2 hp2) (hk : k < 4) (ht : hp k = none) : hp2 k = none := by
  rw [h.2.2.2.2.2 k hk, ht]; rfl
theorem rn_tell_b {k f : Nat} (h : rn φ S hp S2 hp2) (hk : k < 4) (hf5 : f < 5) (hL : S.2.2.2.2.2.1 (S.1 f)) (hLp : ∀ t, hp k = some t → S.2.2.2.2.2.1 t) : decide (¬ hp2 k = some (S2.1 f)) = decide (¬ hp k = some (S.1 f)) := by
  rw [decide_eq_decide, h.1 f hf5, h.2.2.2.2.2 k hk]
  cases ht : hp k with
  | none => simp
  | some t =>
    show ¬ some (φ t) = some (φ (S.1 f)) ↔ _
    refine not_congr ⟨fun q => ?_, fun q => ?_⟩
    · rw [h.2.2.2.2.1 t _ (hLp t ht) hL (Option.some.inj q)]
    · rw [Option.some.inj q]
theorem rn_lose {f : Nat} (h : rn φ S hp S2 hp2) : rn φ (S.1, va_up S.2.1 f td, va_up S.2.2.1 f 1, S.2.2.2) hp (S2.1, va_up S2.2.1 f td, va_up S2.2.2.1 f 1, S2.2.2.2) hp2 := by
  obtain ⟨a1, ⟨b1, b2, b3⟩, a3, a4, a5, a6⟩ := h
  refine ⟨a1, ⟨?_, ?_, b3⟩, a3, a4, a5, a6⟩
  · show va_up S2.2.1 f td = va_up S.2.1 f td; rw [b1]
  · show va_up S2.2.2.1 f 1 = va_up S.2.2.1 f 1; rw [b2]
theorem rn_write {t : Nat} {n : Int32} (h : rn φ S hp S2 hp2) (hP : S.2.2.2.2.2.1 t) : S2.2.2.2.2.2.2 0 (φ t) = S.2.2.2.2.2.2 0 t ∧ rn φ (S.1, S.2.1, S.2.2.1, S.2.2.2.1, S.2.2.2.2.1, S.2.2.2.2.2.1, rp_u2 S.2.2.2.2.2.2 0 t (S.2.2.2.2.2.2 0 t + n)) hp (S2.1, S2.2.1, S2.2.2.1, S2.2.2.2.1, S2.2.2.2.2.1, S2.2.2.2.2.2.1, rp_u2 S2.2.2.2.2.2.2 0 (φ t) (S2.2.2.2.2.2.2 0 (φ t) + n)) hp2 := by
  obtain ⟨a1, a2, a3, a4, a5, a6⟩ := h
  have e0 := (a4 t hP).2 0 (by decide)
  refine ⟨e0, a1, a2, a3, fun u hu => ⟨(a4 u hu).1, fun i hi => ?_⟩, a5, a6⟩
  show rp_u2 S2.2.2.2.2.2.2 0 (φ t) (S2.2.2.2.2.2.2 0 (φ t) + n) i (φ u) = rp_u2 S.2.2.2.2.2.2 0 t (S.2.2.2.2.2.2 0 t + n) i u
  simp only [rp_u2]
  by_cases hc : i = 0 ∧ u = t
  · rw [if_pos hc, if_pos ⟨hc.1, by rw [hc.2]⟩, e0]
  · rw [if_neg hc, if_neg (fun q => hc ⟨q.1, a5 u t hu hP q.2⟩)]
    exact (a4 u hu).2 i hi
theorem rn_held {t : Nat} (h : rn φ S hp S2 hp2) (hP : S.2.2.2.2.2.1 t) (hLp : ∀ k, k < 4 → ∀ t, hp k = some t → S.2.2.2.2.2.1 t) : t_held hp2 (φ t) = t_held hp t := by
  rw [Bool.eq_iff_iff]
  constructor
  · intro q
    obtain ⟨k, hk, h2⟩ := t_held_ex q
    rw [h.2.2.2.2.2 k hk] at h2
    cases ht : hp k with
    | none => rw [ht] at h2; cases h2
    | some u =>
      rw [ht] at h2
      have := h.2.2.2.2.1 u t (hLp k hk u ht) hP (Option.some.inj h2)
      subst this
      exact t_held_of hk ht
  · intro q
    obtain ⟨k, hk, h2⟩ := t_held_ex q
    exact t_held_of hk (rn_hp h hk h2)
theorem ts_map {pf pg : Nat → Nat → Int32} {φ : Nat → Nat} : ∀ (l : List Nat) (x : Int32), (∀ t ∈ l, pg 0 (φ t) = pf 0 t) → t_sum pg x (l.map φ) = t_sum pf x l := by
  intro l
  induction l with
  | nil => intro x _; rfl
  | cons t r ih =>
    intro x h
    show t_sum pg (x + pg 0 (φ t)) (r.map φ) = t_sum pf (x + pf 0 t) r
    rw [h t List.mem_cons_self]
    exact ih _ (fun u hu => h u (List.mem_cons_of_mem _ hu))
theorem rn_turn {f q q2 : Nat} (h : rn φ S hp S2 hp2) (hf5 : f < 5) (hL : ∀ f, f < 5 → S.2.2.2.2.2.1 (S.1 f)) (hin : ∀ f, f < 5 → ∀ t ∈ S.2.2.2.2.1 f, S.2.2.2.2.2.1 t) (hLp : ∀ k, k < 4 → ∀ t, hp k = some t → S.2.2.2.2.2.1 t) (hq : ¬ S.2.2.2.2.2.1 q) (hq2 : ¬ S2.2.2.2.2.2.1 q2) :
    (t_tth td ru fr S2.1 hp2 S2.2.2.2.2.1 S2.2.2.2.2.2.2 f q2).length = (t_tth td ru fr S.1 hp S.2.2.2.2.1 S.2.2.2.2.2.2 f q).length ∧ rn (va_up φ q q2) (t_turn td ru fr hp S f q) hp (t_turn td ru fr hp2 S2 f q2) hp2 := by
  have hheld := fun t hP => rn_held (t := t) h hP hLp
  obtain ⟨a1, ⟨b1, b2, b3⟩, a3, a4, a5, a6⟩ := h
  have hne : ∀ t, S.2.2.2.2.2.1 t → t ≠ q := fun t ht z => hq (z ▸ ht)
  have hne2 : ∀ t, S.2.2.2.2.2.1 t → φ t ≠ q2 := fun t ht z => hq2 (z ▸ (a4 t ht).1)
  have hφ : ∀ t, S.2.2.2.2.2.1 t → va_up φ q q2 t = φ t := fun t ht => va_up_ne _ _ (hne t ht)
  have hol : ∀ t, S.2.2.2.2.2.1 t → (φ t ∈ S2.2.2.2.2.1 f ↔ t ∈ S.2.2.2.2.1 f) := fun t ht => by
    rw [a3 f hf5, List.mem_map]
    exact ⟨fun ⟨u, hu, he⟩ => by rw [← a5 u t (hin f hf5 u hu) ht he]; exact hu, fun hu => ⟨t, hu, rfl⟩⟩
  have hlv : ∀ t, S.2.2.2.2.2.1 t → (φ t = S2.1 f ↔ t = S.1 f) := fun t ht => by
    rw [a1 f hf5]
    exact ⟨fun q => a5 t _ ht (hL f hf5) q, fun q => by rw [q]⟩
  obtain ⟨P2, hP2⟩ : ∃ z, z = t_tpf td ru fr S2.1 hp2 S2.2.2.2.2.1 S2.2.2.2.2.2.2 f q2 := ⟨_, rfl⟩
  obtain ⟨P1, hP1⟩ : ∃ z, z = t_tpf td ru fr S.1 hp S.2.2.2.2.1 S.2.2.2.2.2.2 f q := ⟨_, rfl⟩
  have hPF : ∀ t, S.2.2.2.2.2.1 t → ∀ i, i < 3 → P2 i (φ t) = P1 i t := fun t ht i hi => by
    have e := (a4 t ht).2
    rw [hP1, hP2]
    have hi3 : i = 0 ∨ i = 1 ∨ i = 2 := by omega
    rcases hi3 with rfl | rfl | rfl
    · rw [tp_0 (hne2 t ht), tp_0 (hne t ht)]; exact e 0 (by decide)
    · by_cases hl : t = S.1 f
      · subst hl
        have e2 : φ (S.1 f) = S2.1 f := (a1 f hf5).symm
        rw [e2, tp_1l (by rw [← e2]; exact hne2 _ ht), tp_1l (hne _ ht)]
      · rw [tp_1 (hne2 t ht) (fun z => hl ((hlv t ht).mp z)), tp_1 (hne t ht) hl]; exact e 1 (by decide)
    · rw [tp_2 (hne2 t ht), tp_2 (hne t ht), hheld t ht, e 2 (by decide)]
      simp only [hol t ht]
  have hgo : ∀ t ∈ S.2.2.2.2.1 f ++ [S.1 f], ∀ k, t_tgo td ru fr S2.1 hp2 S2.2.2.2.2.1 S2.2.2.2.2.2.2 f q2 (φ t) k = t_tgo td ru fr S.1 hp S.2.2.2.2.1 S.2.2.2.2.2.2 f q t k := fun t ht k => by
    have hP : S.2.2.2.2.2.1 t := by
      rcases List.mem_append.mp ht with z | z
      · exact hin f hf5 t z
      · rw [List.mem_singleton.mp z]; exact hL f hf5
    rw [t_tgo, t_tgo, t_goF, t_goF, ← hP1, ← hP2, hPF t hP 1 (by decide), hheld t hP]
  have hmap : (S.2.2.2.2.1 f ++ [S.1 f]).map φ = S2.2.2.2.2.1 f ++ [S2.1 f] := by
    rw [List.map_append, a3 f hf5, a1 f hf5]; rfl
  have hlen : (S2.2.2.2.2.1 f ++ [S2.1 f]).length = (S.2.2.2.2.1 f ++ [S.1 f]).length := by rw [← hmap, List.length_map]
  obtain ⟨k1, k2⟩ := kp_map (S.2.2.2.2.1 f ++ [S.1 f]) (S.2.2.2.2.1 f ++ [S.1 f]).length hgo
  have kk : t_tkp td ru fr S2.1 hp2 S2.2.2.2.2.1 S2.2.2.2.2.2.2 f q2 = (t_tkp td ru fr S.1 hp S.2.2.2.2.1 S.2.2.2.2.2.2 f q).map φ := by rw [t_tkp, t_tkp, ← k1, hmap, hlen]
  have kt : t_tth td ru fr S2.1 hp2 S2.2.2.2.2.1 S2.2.2.2.2.2.2 f q2 = (t_tth td ru fr S.1 hp S.2.2.2.2.1 S.2.2.2.2.2.2 f q).map φ := by rw [t_tth, t_tth, ← k2, hmap, hlen]
  have memk : ∀ t, t ∈ S.2.2.2.2.1 f ++ [S.1 f] → S.2.2.2.2.2.1 t := fun t ht => by
    rcases List.mem_append.mp ht with z | z
    · exact hin f hf5 t z
    · rw [List.mem_singleton.mp z]; exact hL f hf5
  refine ⟨by rw [kt, List.length_map], fun g hg => ?_, ⟨?_, ?_, ?_⟩, fun g hg => ?_, fun t ht => ⟨?_, fun i hi => ?_⟩, fun t u ht hu e => ?_, fun k hk => ?_⟩
  · show va_up S2.1 f q2 g = va_up φ q q2 (va_up S.1 f q g)
    by_cases hgf : g = f
    · rw [hgf, va_up_self, va_up_self, va_up_self]
    · rw [va_up_ne _ _ hgf, va_up_ne _ _ hgf, hφ _ (hL g hg)]; exact a1 g hg
  · show va_up S2.2.1 f td = va_up S.2.1 f td; rw [b1]
  · show va_up S2.2.2.1 f 1 = va_up S.2.2.1 f 1; rw [b2]
  · show va_up S2.2.2.2.1 f (t_sum (t_tpf td ru fr S2.1 hp2 S2.2.2.2.2.1 S2.2.2.2.2.2.2 f q2) (S2.2.2.2.1 f) (t_tth td ru fr S2.1 hp2 S2.2.2.2.2.1 S2.2.2.2.2.2.2 f q2)) = va_up S.2.2.2.1 f (t_sum (t_tpf td ru fr S.1 hp S.2.2.2.2.1 S.2.2.2.2.2.2 f q) (S.2.2.2.1 f) (t_tth td ru fr S.1 hp S.2.2.2.2.1 S.2.2.2.2.2.2 f q))
    rw [← hP1, ← hP2, kt, b3, ts_map (pf := P1) (t_tth td ru fr S.1 hp S.2.2.2.2.1 S.2.2.2.2.2.2 f q) _ (fun t ht => hPF t (memk t (th_sub _ _ _ t ht)) 0 (by decide))]
  · show va_up S2.2.2.2.2.1 f (t_tkp td ru fr S2.1 hp2 S2.2.2.2.2.1 S2.2.2.2.2.2.2 f q2) g = (va_up S.2.2.2.2.1 f (t_tkp td ru fr S.1 hp S.2.2.2.2.1 S.2.2.2.2.2.2 f q) g).map (va_up φ q q2)
    by_cases hgf : g = f
    · rw [hgf, va_up_self, va_up_self, kk]
      exact List.map_congr_left (fun t ht => (hφ t (memk t ((kp_sub _ _ _).subset ht))).symm)
    · rw [va_up_ne _ _ hgf, va_up_ne _ _ hgf, a3 g hg]
      exact List.map_congr_left (fun t ht => (hφ t (hin g hg t ht)).symm)
  · show S2.2.2.2.2.2.1 (va_up φ q q2 t) ∨ va_up φ q q2 t = q2
    by_cases htq : t = q
    · rw [htq, va_up_self]; exact Or.inr rfl
    · rw [va_up_ne _ _ htq]; exact Or.inl (a4 t (Or.resolve_right ht htq)).1
  · show t_tpf td ru fr S2.1 hp2 S2.2.2.2.2.1 S2.2.2.2.2.2.2 f q2 i (va_up φ q q2 t) = t_tpf td ru fr S.1 hp S.2.2.2.2.1 S.2.2.2.2.2.2 f q i t
    by_cases htq : t = q
    · rw [htq, va_up_self]
      by_cases hi2 : i = 2
      · subst hi2
        rw [tp_q2 (fun z => ?_), tp_q2 (fun z => hq (hin f hf5 q z))]
        rw [a3 f hf5, List.mem_map] at z
        obtain ⟨u, hu, he⟩ := z
        exact hne2 u (hin f hf5 u hu) he
      · rw [tp_q (by omega), tp_q (by omega)]
    · have hP := Or.resolve_right ht htq
      rw [va_up_ne _ _ htq, ← hP1, ← hP2]
      exact hPF t hP i hi
  · by_cases htq : t = q
    · by_cases huq : u = q
      · rw [htq, huq]
      · rw [htq, va_up_self, va_up_ne _ _ huq] at e
        exact absurd e.symm (hne2 u (Or.resolve_right hu huq))
    · by_cases huq : u = q
      · rw [huq, va_up_self, va_up_ne _ _ htq] at e
        exact absurd e (hne2 t (Or.resolve_right ht htq))
      · rw [va_up_ne _ _ htq, va_up_ne _ _ huq] at e
        exact a5 t u (Or.resolve_right ht htq) (Or.resolve_right hu huq) e
  · rw [a6 k hk]
    cases hk2 : hp k with
    | none => rfl
    | some t =>
      show some (φ t) = some (va_up φ q q2 t)
      rw [hφ t (hLp k hk t hk2)]
theorem rn_due {f : Nat} (h : rn φ S hp S2 hp2) (hf5 : f < 5) (hL : S.2.2.2.2.2.1 (S.1 f)) : t_dueS td ru fr S2 f = t_dueS td ru fr S f := by
  obtain ⟨a1, ⟨b1, b2, b3⟩, a3, a4, a5, a6⟩ := h
  rw [t_dueS, t_dueS, a1 f hf5, (a4 _ hL).2 0 (by decide), b1, b2]
end RN
section RN2
variable {e N : Nat} {td : Int32} {ru : Nat → Nat → Int32} {fr : Nat → Nat} {hf hp hp2 : Nat → Option Nat} {S0 T0 : ts_T} {tt : Nat → Int32} {fi : Nat → Nat} {φ : Nat → Nat}
theorem iv0_Lp {S : ts_T} (h : iv0 e N td ru fr hf S hp tt fi) : ∀ k, k < 4 → ∀ t, hp k = some t → S.2.2.2.2.2.1 t := fun k hk t ht => by
  rcases h.2.2.2.2.2.1 k hk with ⟨-, a⟩ | ⟨f, u, f5, -, a, b⟩
  · rw [ht] at a; cases a
  · rw [ht] at a; cases a
    rcases b with rfl | b
    · exact iv0_Ll h f f5
    · exact iv0_in5 h f f5 _ b
/-- the turns of a run, on both -/
theorem rn_run1 (h : iv0 e N td ru fr hf S0 hp tt fi) (hr : rn φ S0 hp T0 hp2) : ∀ k, k ≤ 5 → ∀ (S : ts_T) (b : Int32) (T : ts_T) (c : Int32), t_runR td ru fr hp S0 k S b → t_runR td ru fr hp2 T0 k T c → c = b ∧ ∃ φ2 fi2, rn φ2 S hp T hp2 ∧ iv0 e N td ru fr hf S hp tt fi2 := by
  intro k
  induction k with
  | zero =>
    rintro _ S b T c ⟨rfl, rfl⟩ ⟨rfl, rfl⟩
    exact ⟨rfl, φ, fi, hr, h⟩
  | succ k ih =>
    rintro hk S b T c ⟨S1, b1, hrel, hstep⟩ ⟨T1, c1, hrel2, hstep2⟩
    obtain ⟨rfl, φ2, fi2, h2, h3⟩ := ih (by omega) S1 b1 T1 c1 hrel hrel2
    have hd := rn_due (td := td) (ru := ru) (fr := fr) (f := k) h2 (by omega) (iv0_Ll h3 k (by omega))
    rcases hstep with ⟨d1, q, hq, rfl, rfl⟩ | ⟨d1, rfl, rfl⟩
    · rcases hstep2 with ⟨d2, q2, hq2, rfl, rfl⟩ | ⟨d2, rfl, rfl⟩
      · exact ⟨rfl, _, _, (rn_turn h2 (by omega) (iv0_Ll h3) (iv0_in5 h3) (iv0_Lp h3) hq hq2).2, iv0_turn h3 (by omega) hq⟩
      · rw [hd, d1] at d2; cases d2
    · rcases hstep2 with ⟨d2, q2, hq2, rfl, rfl⟩ | ⟨d2, rfl, rfl⟩
      · rw [hd, d1] at d2; cases d2
      · exact ⟨rfl, φ2, fi2, h2, h3⟩
theorem rn_run {S T : ts_T} {b c : Int32} (h : iv0 e N td ru fr hf S0 hp tt fi) (hr : rn φ S0 hp T0 hp2) (h1 : t_runR td ru fr hp S0 5 S b) (h2 : t_runR td ru fr hp2 T0 5 T c) : c = b ∧ ∃ φ2, rn φ2 S (t_tls b ru fr S.1 hf hp 3) T (t_tls c ru fr T.1 hf hp2 3) := by
  obtain ⟨rfl, φ2, fi2, h3, h4⟩ := rn_run1 h hr 5 (Nat.le_refl 5) S b T c h1 h2
  refine ⟨rfl, φ2, h3.1, h3.2.1, h3.2.2.1, h3.2.2.2.1, h3.2.2.2.2.1, fun k hk => ?_⟩
  rcases h4.2.2.2.2.2.1 k hk with ⟨z1, z2⟩ | ⟨g, t, g5, z1, z2, z3⟩
  · rw [tls_none hk z1, tls_none hk z1]; exact h3.2.2.2.2.2 k hk
  · rw [tls_some hk z1, tls_some hk z1]
    split
    · rw [h3.1 g g5]; rfl
    · exact h3.2.2.2.2.2 k hk
end RN2
