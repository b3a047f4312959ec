/-! what stays and what goes of a list -/
theorem kp_sub (go : Nat → Nat → Bool) : ∀ (l : List Nat) (m : Nat), (t_kp go m l).Sublist l := by
  intro l
  induction l with
  | nil => intro m; exact List.Sublist.refl _
  | cons t r ih =>
    intro m
    simp only [t_kp]
    split
    · exact (ih _).cons _
    · exact (ih _).cons_cons _
theorem kp_len (go : Nat → Nat → Bool) : ∀ (l : List Nat) (m : Nat), (t_kp go m l).length + (t_th go m l).length = l.length := by
  intro l
  induction l with
  | nil => intro m; rfl
  | cons t r ih =>
    intro m
    simp only [t_kp, t_th]
    split
    · have := ih (m - 1); simp only [List.length_cons]; omega
    · have := ih m; simp only [List.length_cons]; omega
theorem th_sub (go : Nat → Nat → Bool) : ∀ (l : List Nat) (m : Nat), ∀ t ∈ t_th go m l, t ∈ l := by
  intro l
  induction l with
  | nil => intro m t h; exact h
  | cons u r ih =>
    intro m t h
    simp only [t_th] at h
    split at h
    · rcases List.mem_cons.mp h with h | h
      · rw [h]; exact List.mem_cons_self
      · exact List.mem_cons_of_mem _ (ih _ t h)
    · exact List.mem_cons_of_mem _ (ih _ t h)
theorem kp_held (go : Nat → Nat → Bool) {t : Nat} (hg : ∀ m, go t m = false) : ∀ (l : List Nat) (m : Nat), t ∈ l → t ∈ t_kp go m l := by
  intro l
  induction l with
  | nil => intro m h; exact h
  | cons u r ih =>
    intro m h
    simp only [t_kp]
    by_cases hu : t = u
    · subst hu
      rw [if_neg (by rw [hg]; decide)]
      exact List.mem_cons_self
    · have h1 := (List.mem_cons.mp h).resolve_left hu
      split
      · exact ih _ h1
      · exact List.mem_cons_of_mem _ (ih _ h1)
theorem kp_sum (go : Nat → Nat → Bool) (pf : Nat → Nat → Int32) : ∀ (l : List Nat) (m : Nat) (x : Int32), t_sum pf (t_sum pf x (t_th go m l)) (t_kp go m l) = t_sum pf x l := by
  intro l
  induction l with
  | nil => intro m x; rfl
  | cons t r ih =>
    intro m x
    simp only [t_kp, t_th]
    split
    · exact ih _ _
    · show t_sum pf (t_sum pf x (t_th go m r) + pf 0 t) (t_kp go m r) = t_sum pf (x + pf 0 t) r
      rw [ts_add, ih, ts_add]
theorem kp_go (go : Nat → Nat → Bool) : ∀ (l : List Nat) (m b : Nat), m = b + l.length → ∀ t ∈ t_kp go m l, ∃ k, go t k = false ∧ b + (t_kp go m l).length ≤ k ∧ k ≤ m := by
  intro l
  induction l with
  | nil => intro m b _ t h; cases h
  | cons u r ih =>
    intro m b hm t h
    have hl := (kp_sub go r m).length_le
    simp only [List.length_cons] at hm
    simp only [t_kp] at h ⊢
    by_cases hu : go u m = true
    · rw [if_pos hu] at h ⊢
      obtain ⟨k, k1, k2, k3⟩ := ih (m - 1) b (by omega) t h
      exact ⟨k, k1, k2, by omega⟩
    · rw [if_neg hu] at h ⊢
      rcases List.mem_cons.mp h with rfl | h
      · exact ⟨m, by cases hg : go t m with | true => exact absurd hg hu | false => rfl, by simp only [List.length_cons]; omega, Nat.le_refl m⟩
      · obtain ⟨k, k1, k2, k3⟩ := ih m (b + 1) (by omega) t h
        exact ⟨k, k1, by simp only [List.length_cons]; omega, k3⟩
theorem kp_app (go : Nat → Nat → Bool) (t : Nat) : ∀ (l : List Nat) (m : Nat), t_kp go m (l ++ [t]) = t_kp go m l ∨ t_kp go m (l ++ [t]) = t_kp go m l ++ [t] := by
  intro l
  induction l with
  | nil =>
    intro m
    simp only [List.nil_append, t_kp]
    split
    · exact Or.inl rfl
    · exact Or.inr rfl
  | cons u r ih =>
    intro m
    simp only [List.cons_append, t_kp]
    split
    · exact ih _
    · rcases ih m with h | h
      · exact Or.inl (by rw [h])
      · exact Or.inr (by rw [h]; rfl)
theorem kp_map {go go2 : Nat → Nat → Bool} {φ : Nat → Nat} : ∀ (l : List Nat) (m : Nat), (∀ t ∈ l, ∀ k, go2 (φ t) k = go t k) → t_kp go2 m (l.map φ) = (t_kp go m l).map φ ∧ t_th go2 m (l.map φ) = (t_th go m l).map φ := by
  intro l
  induction l with
  | nil => intro m _; exact ⟨rfl, rfl⟩
  | cons t r ih =>
    intro m h
    have h1 := h t List.mem_cons_self m
    have h2 := fun k => ih k (fun u hu => h u (List.mem_cons_of_mem _ hu))
    simp only [List.map_cons, t_kp, t_th, h1]
    split
    · exact ⟨(h2 _).1, by rw [(h2 _).2]; rfl⟩
    · exact ⟨by rw [(h2 _).1]; rfl, (h2 _).2⟩
/-! the fields of the parts behind a turn -/
section TPF
variable {td : Int32} {ru : Nat → Nat → Int32} {fr lv : Nat → Nat} {hp : Nat → Option Nat} {ol : Nat → List Nat} {pf : Nat → Nat → Int32} {f q : Nat}
theorem tp_0 {t : Nat} (ht : t ≠ q) : t_tpf td ru fr lv hp ol pf f q 0 t = pf 0 t := by
  rw [t_tpf]
  split <;> simp [t_sq, ht, rp_u2]
theorem tp_1 {t : Nat} (ht : t ≠ q) (ht2 : t ≠ lv f) : t_tpf td ru fr lv hp ol pf f q 1 t = pf 1 t := by
  rw [t_tpf]
  split <;> simp [t_sq, ht, ht2, rp_u2]
theorem tp_1l (h : lv f ≠ q) : t_tpf td ru fr lv hp ol pf f q 1 (lv f) = td := by
  rw [t_tpf]
  split <;> simp [t_sq, h, rp_u2]
theorem tp_2 {t : Nat} (ht : t ≠ q) : t_tpf td ru fr lv hp ol pf f q 2 t = if ¬ ru (fr f) 7 = 0 ∧ t ∈ ol f ∧ t_held hp t = false then 1 else pf 2 t := by
  rw [t_tpf]
  by_cases h7 : ru (fr f) 7 = 0
  · simp [h7, ht, rp_u2]
  · simp [h7, ht, rp_u2, t_sq]
theorem tp_q {i : Nat} (hi : i < 2) : t_tpf td ru fr lv hp ol pf f q i q = 0 := by
  rw [t_tpf]
  split
  · simp
  · simp [t_sq, show i ≠ 2 by omega]
theorem tp_q2 (h : ¬ q ∈ ol f) : t_tpf td ru fr lv hp ol pf f q 2 q = 0 := by
  rw [t_tpf]
  split
  · simp
  · simp [t_sq, h]
end TPF
theorem t_held_of {hp : Nat → Option Nat} {k t : Nat} (hk : k < 4) (h : hp k = some t) : t_held hp t = true := by
  simp only [t_held, decide_eq_true_eq]
  have : k = 0 ∨ k = 1 ∨ k = 2 ∨ k = 3 := by omega
  rcases this with rfl | rfl | rfl | rfl
  · exact Or.inl h
  · exact Or.inr (Or.inl h)
  · exact Or.inr (Or.inr (Or.inl h))
  · exact Or.inr (Or.inr (Or.inr h))
theorem t_held_ex {hp : Nat → Option Nat} {t : Nat} (h : t_held hp t = true) : ∃ k, k < 4 ∧ hp k = some t := by
  simp only [t_held, decide_eq_true_eq] at h
  rcases h with h | h | h | h
  · exact ⟨0, by decide, h⟩
  · exact ⟨1, by decide, h⟩
  · exact ⟨2, by decide, h⟩
  · exact ⟨3, by decide, h⟩
theorem t_go_held {td d le kp gr th : Int32} : t_go td d le kp gr true th = false := by simp [t_go]
