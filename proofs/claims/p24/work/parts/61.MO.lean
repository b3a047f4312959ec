/-! the law's calls that change an object, over the law's world: co_ on the first, ct_ on the second; cb_: a call that throws changes nothing -/
section MO
variable {y : ly_T} {A : Nat → Prop} {G : gk_G} {td td2 : Int32} {ru ru2 : Nat → Nat → Int32} {fr fr2 : Nat → Nat} {hf hp hf2 hp2 : Nat → Option Nat} {S S2 : ts_T} {al : la_T}
theorem mo_i {a b n : Nat} (h : nI a = nI b) (ha : a < n) (hb : b < n) (hn : n < 2 ^ 31) : a = b := (nI_eq (by omega) (by omega)).mp h
theorem co_setDue {l : Launch} (hfl : l.stackTraces = false) (hW : lw y G td ru fr hf S hp td2 ru2 fr2 hf2 S2 hp2 al) {r : Nat} {size wd mo le : Int32} (hr : r < 3) (hok : rg_in size 0 10000 ∧ rg_in wd (-1) 6 ∧ rg_in mo (-1) 29 ∧ rg_in le 0 100) : gk_M0 l yL_setDue (Cond.codeWith yL_setDue cL_setDue 7 (some .int) [(0, 12, 13, 16), (0, 12, 18, 19)]) 8 160 16 128 y A [.ref (ly_a y 0), .int (nI r), .int size, .int wd, .int mo, .int le] G (fun v G1 => v = some (.int 0) ∧ lw y G1 td (rp_u2 (rp_u2 (rp_u2 (rp_u2 ru r 1 size) r 2 wd) r 3 mo) r 4 le) fr hf S hp td2 ru2 fr2 hf2 S2 hp2 al) := by
  obtain ⟨Go, Gr, rfl, hd, hR, hb⟩ := lw_co hW
  refine gk_M0e (gk_frame (fun A => c_L_setDue l hfl hR (i := nI r) (size := size) (wd := wd) (mo := mo) (le := le)) hd) (fun v G1 hq => ?_)
  obtain ⟨Go1, hpost, rfl, hd1⟩ := hq
  rcases hpost with ⟨r1, hr1, e1, -, hv, hR1⟩ | ⟨z, -, -⟩ | ⟨z, -, -⟩
  · obtain rfl := mo_i e1 hr hr1 (by decide)
    exact ⟨hv, hb _ td (rp_u2 (rp_u2 (rp_u2 (rp_u2 ru r 1 size) r 2 wd) r 3 mo) r 4 le) fr hf S hp hd1 hR1⟩
  · exact absurd z (rg_out_no hr (by decide))
  · exact absurd hok z.2
theorem ct_setDue {l : Launch} (hfl : l.stackTraces = false) (hW : lw y G td ru fr hf S hp td2 ru2 fr2 hf2 S2 hp2 al) {r : Nat} {size wd mo le : Int32} (hr : r < 3) (hok : rg_in size 0 10000 ∧ rg_in wd (-1) 6 ∧ rg_in mo (-1) 29 ∧ rg_in le 0 100) : gk_M0 l yL_setDue (Cond.codeWith yL_setDue cL_setDue 7 (some .int) [(0, 12, 13, 16), (0, 12, 18, 19)]) 8 160 16 128 y A [.ref (ly_a (ly_sw y) 0), .int (nI r), .int size, .int wd, .int mo, .int le] G (fun v G1 => v = some (.int 0) ∧ lw y G1 td ru fr hf S hp td2 (rp_u2 (rp_u2 (rp_u2 (rp_u2 ru2 r 1 size) r 2 wd) r 3 mo) r 4 le) fr2 hf2 S2 hp2 al) := by
  obtain ⟨Go, Gr, rfl, hd, hR, hb⟩ := lw_ct hW
  refine gk_M0_sw (gk_M0e (gk_frame (fun A => c_L_setDue l hfl hR (i := nI r) (size := size) (wd := wd) (mo := mo) (le := le)) hd) (fun v G1 hq => ?_))
  obtain ⟨Go1, hpost, rfl, hd1⟩ := hq
  rcases hpost with ⟨r1, hr1, e1, -, hv, hR1⟩ | ⟨z, -, -⟩ | ⟨z, -, -⟩
  · obtain rfl := mo_i e1 hr hr1 (by decide)
    exact ⟨hv, hb _ td2 (rp_u2 (rp_u2 (rp_u2 (rp_u2 ru2 r 1 size) r 2 wd) r 3 mo) r 4 le) fr2 hf2 S2 hp2 hd1 hR1⟩
  · exact absurd z (rg_out_no hr (by decide))
  · exact absurd hok z.2
theorem co_setOld {l : Launch} (hfl : l.stackTraces = false) (hW : lw y G td ru fr hf S hp td2 ru2 fr2 hf2 S2 hp2 al) {r : Nat} {kp gr b1 b2 b3 : Int32} (hr : r < 3) (hok : rg_in kp 0 10 ∧ rg_in gr 0 1000) (hb1 : b1 = 0 ∨ b1 = 1) (hb2 : b2 = 0 ∨ b2 = 1) (hb3 : b3 = 0 ∨ b3 = 1) : gk_M0 l yL_setOld (Cond.codeWith yL_setOld cL_setOld 8 (some .int) [(0, 14, 15, 16), (0, 14, 20, 19)]) 8 160 16 128 y A [.ref (ly_a y 0), .int (nI r), .int kp, .int gr, .int b1, .int b2, .int b3] G (fun v G1 => v = some (.int 0) ∧ lw y G1 td (rp_u2 (rp_u2 (rp_u2 (rp_u2 (rp_u2 ru r 5 kp) r 6 gr) r 7 b1) r 8 b2) r 9 b3) fr hf S hp td2 ru2 fr2 hf2 S2 hp2 al) := by
  obtain ⟨Go, Gr, rfl, hd, hR, hb⟩ := lw_co hW
  refine gk_M0e (gk_frame (fun A => c_L_setOld l hfl hR (i := nI r) (kp := kp) (gr := gr) hb1 hb2 hb3) hd) (fun v G1 hq => ?_)
  obtain ⟨Go1, hpost, rfl, hd1⟩ := hq
  rcases hpost with ⟨r1, hr1, e1, -, hv, hR1⟩ | ⟨z, -, -⟩ | ⟨z, -, -⟩
  · obtain rfl := mo_i e1 hr hr1 (by decide)
    exact ⟨hv, hb _ td (rp_u2 (rp_u2 (rp_u2 (rp_u2 (rp_u2 ru r 5 kp) r 6 gr) r 7 b1) r 8 b2) r 9 b3) fr hf S hp hd1 hR1⟩
  · exact absurd z (rg_out_no hr (by decide))
  · exact absurd hok z.2
theorem ct_setOld {l : Launch} (hfl : l.stackTraces = false) (hW : lw y G td ru fr hf S hp td2 ru2 fr2 hf2 S2 hp2 al) {r : Nat} {kp gr b1 b2 b3 : Int32} (hr : r < 3) (hok : rg_in kp 0 10 ∧ rg_in gr 0 1000) (hb1 : b1 = 0 ∨ b1 = 1) (hb2 : b2 = 0 ∨ b2 = 1) (hb3 : b3 = 0 ∨ b3 = 1) : gk_M0 l yL_setOld (Cond.codeWith yL_setOld cL_setOld 8 (some .int) [(0, 14, 15, 16), (0, 14, 20, 19)]) 8 160 16 128 y A [.ref (ly_a (ly_sw y) 0), .int (nI r), .int kp, .int gr, .int b1, .int b2, .int b3] G (fun v G1 => v = some (.int 0) ∧ lw y G1 td ru fr hf S hp td2 (rp_u2 (rp_u2 (rp_u2 (rp_u2 (rp_u2 ru2 r 5 kp) r 6 gr) r 7 b1) r 8 b2) r 9 b3) fr2 hf2 S2 hp2 al) := by
  obtain ⟨Go, Gr, rfl, hd, hR, hb⟩ := lw_ct hW
  refine gk_M0_sw (gk_M0e (gk_frame (fun A => c_L_setOld l hfl hR (i := nI r) (kp := kp) (gr := gr) hb1 hb2 hb3) hd) (fun v G1 hq => ?_))
  obtain ⟨Go1, hpost, rfl, hd1⟩ := hq
  rcases hpost with ⟨r1, hr1, e1, -, hv, hR1⟩ | ⟨z, -, -⟩ | ⟨z, -, -⟩
  · obtain rfl := mo_i e1 hr hr1 (by decide)
    exact ⟨hv, hb _ td2 (rp_u2 (rp_u2 (rp_u2 (rp_u2 (rp_u2 ru2 r 5 kp) r 6 gr) r 7 b1) r 8 b2) r 9 b3) fr2 hf2 S2 hp2 hd1 hR1⟩
  · exact absurd z (rg_out_no hr (by decide))
  · exact absurd hok z.2
theorem co_give {l : Launch} (hfl : l.stackTraces = false) (hW : lw y G td ru fr hf S hp td2 ru2 fr2 hf2 S2 hp2 al) {f r : Nat} (hf5 : f < 5) (hr : r < 3) : gk_M0 l yL_give (Cond.codeWith yL_give cL_give 4 (some .int) [(0, 6, 7, 16)]) 8 160 16 128 y A [.ref (ly_a y 0), .int (nI f), .int (nI r)] G (fun v G1 => v = some (.int (nI (fr f))) ∧ lw y G1 td ru (va_up fr f r) hf S hp td2 ru2 fr2 hf2 S2 hp2 al) := by
  obtain ⟨Go, Gr, rfl, hd, hR, hb⟩ := lw_co hW
  refine gk_M0e (gk_frame (fun A => c_L_give l hfl hR (i := nI f) (j := nI r)) hd) (fun v G1 hq => ?_)
  obtain ⟨Go1, hpost, rfl, hd1⟩ := hq
  rcases hpost with ⟨f1, r1, h1, h2, e1, e2, hv, hR1⟩ | ⟨z, -, -⟩
  · obtain rfl := mo_i e1 hf5 h1 (by decide)
    obtain rfl := mo_i e2 hr h2 (by decide)
    exact ⟨hv, hb _ td ru (va_up fr f r) hf S hp hd1 hR1⟩
  · exact (z.elim (fun q => rg_out_no hf5 (by decide) q) (fun q => rg_out_no hr (by decide) q)).elim
theorem ct_give {l : Launch} (hfl : l.stackTraces = false) (hW : lw y G td ru fr hf S hp td2 ru2 fr2 hf2 S2 hp2 al) {f r : Nat} (hf5 : f < 5) (hr : r < 3) : gk_M0 l yL_give (Cond.codeWith yL_give cL_give 4 (some .int) [(0, 6, 7, 16)]) 8 160 16 128 y A [.ref (ly_a (ly_sw y) 0), .int (nI f), .int (nI r)] G (fun v G1 => v = some (.int (nI (fr2 f))) ∧ lw y G1 td ru fr hf S hp td2 ru2 (va_up fr2 f r) hf2 S2 hp2 al) := by
  obtain ⟨Go, Gr, rfl, hd, hR, hb⟩ := lw_ct hW
  refine gk_M0_sw (gk_M0e (gk_frame (fun A => c_L_give l hfl hR (i := nI f) (j := nI r)) hd) (fun v G1 hq => ?_))
  obtain ⟨Go1, hpost, rfl, hd1⟩ := hq
  rcases hpost with ⟨f1, r1, h1, h2, e1, e2, hv, hR1⟩ | ⟨z, -, -⟩
  · obtain rfl := mo_i e1 hf5 h1 (by decide)
    obtain rfl := mo_i e2 hr h2 (by decide)
    exact ⟨hv, hb _ td2 ru2 (va_up fr2 f r) hf2 S2 hp2 hd1 hR1⟩
  · exact (z.elim (fun q => rg_out_no hf5 (by decide) q) (fun q => rg_out_no hr (by decide) q)).elim
theorem co_open {l : Launch} (hfl : l.stackTraces = false) (hW : lw y G td ru fr hf S hp td2 ru2 fr2 hf2 S2 hp2 al) {h f : Nat} (hh : h < 4) (hf5 : f < 5) : gk_M0 l yL_open (Cond.codeWith yL_open cL_open 4 (some .int) [(0, 7, 8, 16)]) 8 160 16 128 y A [.ref (ly_a y 0), .int (nI h), .int (nI f)] G (fun v G1 => v = some (.int 0) ∧ lw y G1 td ru fr (va_up hf h (some f)) S (va_up hp h (some (S.1 f))) td2 ru2 fr2 hf2 S2 hp2 al) := by
  obtain ⟨Go, Gr, rfl, hd, hR, hb⟩ := lw_co hW
  refine gk_M0e (gk_frame (fun A => c_L_open l hfl hR (i := nI h) (j := nI f)) hd) (fun v G1 hq => ?_)
  obtain ⟨Go1, hpost, rfl, hd1⟩ := hq
  rcases hpost with ⟨k1, f1, h1, h2, e1, e2, hv, hR1⟩ | ⟨z, -, -⟩
  · obtain rfl := mo_i e1 hh h1 (by decide)
    obtain rfl := mo_i e2 hf5 h2 (by decide)
    exact ⟨hv, hb _ td ru fr (va_up hf h (some f)) S (va_up hp h (some (S.1 f))) hd1 hR1⟩
  · exact (z.elim (fun q => rg_out_no hh (by decide) q) (fun q => rg_out_no hf5 (by decide) q)).elim
theorem ct_open {l : Launch} (hfl : l.stackTraces = false) (hW : lw y G td ru fr hf S hp td2 ru2 fr2 hf2 S2 hp2 al) {h f : Nat} (hh : h < 4) (hf5 : f < 5) : gk_M0 l yL_open (Cond.codeWith yL_open cL_open 4 (some .int) [(0, 7, 8, 16)]) 8 160 16 128 y A [.ref (ly_a (ly_sw y) 0), .int (nI h), .int (nI f)] G (fun v G1 => v = some (.int 0) ∧ lw y G1 td ru fr hf S hp td2 ru2 fr2 (va_up hf2 h (some f)) S2 (va_up hp2 h (some (S2.1 f))) al) := by
  obtain ⟨Go, Gr, rfl, hd, hR, hb⟩ := lw_ct hW
  refine gk_M0_sw (gk_M0e (gk_frame (fun A => c_L_open l hfl hR (i := nI h) (j := nI f)) hd) (fun v G1 hq => ?_))
  obtain ⟨Go1, hpost, rfl, hd1⟩ := hq
  rcases hpost with ⟨k1, f1, h1, h2, e1, e2, hv, hR1⟩ | ⟨z, -, -⟩
  · obtain rfl := mo_i e1 hh h1 (by decide)
    obtain rfl := mo_i e2 hf5 h2 (by decide)
    exact ⟨hv, hb _ td2 ru2 fr2 (va_up hf2 h (some f)) S2 (va_up hp2 h (some (S2.1 f))) hd1 hR1⟩
  · exact (z.elim (fun q => rg_out_no hh (by decide) q) (fun q => rg_out_no hf5 (by decide) q)).elim
theorem co_shut {l : Launch} (hfl : l.stackTraces = false) (hW : lw y G td ru fr hf S hp td2 ru2 fr2 hf2 S2 hp2 al) {h : Nat} (hh : h < 4) : gk_M0 l yL_shut (Cond.codeWith yL_shut cL_shut 3 (some .int) [(0, 13, 14, 16)]) 8 160 16 128 y A [.ref (ly_a y 0), .int (nI h)] G (fun v G1 => v = some (.int (rg_b (hp h).isSome)) ∧ lw y G1 td ru fr (va_up hf h none) S (va_up hp h none) td2 ru2 fr2 hf2 S2 hp2 al) := by
  obtain ⟨Go, Gr, rfl, hd, hR, hb⟩ := lw_co hW
  refine gk_M0e (gk_frame (fun A => c_L_shut l hfl hR (i := nI h)) hd) (fun v G1 hq => ?_)
  obtain ⟨Go1, hpost, rfl, hd1⟩ := hq
  rcases hpost with ⟨k1, h1, e1, hv, hR1⟩ | ⟨z, -, -⟩
  · obtain rfl := mo_i e1 hh h1 (by decide)
    exact ⟨hv, hb _ td ru fr (va_up hf h none) S (va_up hp h none) hd1 hR1⟩
  · exact absurd z (rg_out_no hh (by decide))
theorem ct_shut {l : Launch} (hfl : l.stackTraces = false) (hW : lw y G td ru fr hf S hp td2 ru2 fr2 hf2 S2 hp2 al) {h : Nat} (hh : h < 4) : gk_M0 l yL_shut (Cond.codeWith yL_shut cL_shut 3 (some .int) [(0, 13, 14, 16)]) 8 160 16 128 y A [.ref (ly_a (ly_sw y) 0), .int (nI h)] G (fun v G1 => v = some (.int (rg_b (hp2 h).isSome)) ∧ lw y G1 td ru fr hf S hp td2 ru2 fr2 (va_up hf2 h none) S2 (va_up hp2 h none) al) := by
  obtain ⟨Go, Gr, rfl, hd, hR, hb⟩ := lw_ct hW
  refine gk_M0_sw (gk_M0e (gk_frame (fun A => c_L_shut l hfl hR (i := nI h)) hd) (fun v G1 hq => ?_))
  obtain ⟨Go1, hpost, rfl, hd1⟩ := hq
  rcases hpost with ⟨k1, h1, e1, hv, hR1⟩ | ⟨z, -, -⟩
  · obtain rfl := mo_i e1 hh h1 (by decide)
    exact ⟨hv, hb _ td2 ru2 fr2 (va_up hf2 h none) S2 (va_up hp2 h none) hd1 hR1⟩
  · exact absurd z (rg_out_no hh (by decide))
theorem co_tell {l : Launch} (hfl : l.stackTraces = false) (hW : lw y G td ru fr hf S hp td2 ru2 fr2 hf2 S2 hp2 al) {h f : Nat} (hh : h < 4) (hhf : hf h = some f) : gk_M0 l yL_tell (Cond.codeWith yL_tell cL_tell 3 (some .int) [(0, 13, 14, 16), (0, 13, 18, 41)]) 8 160 16 128 y A [.ref (ly_a y 0), .int (nI h)] G (fun v G1 => v = some (.int (rg_b (decide (¬ hp h = some (S.1 f))))) ∧ lw y G1 td ru fr hf S (va_up hp h (some (S.1 f))) td2 ru2 fr2 hf2 S2 hp2 al) := by
  obtain ⟨Go, Gr, rfl, hd, hR, hb⟩ := lw_co hW
  refine gk_M0e (gk_frame (fun A => c_L_tell l hfl hR (i := nI h)) hd) (fun v G1 hq => ?_)
  obtain ⟨Go1, hpost, rfl, hd1⟩ := hq
  rcases hpost with ⟨k1, f1, h1, h2, e1, e2, hv, hR1⟩ | ⟨z, -, -⟩ | ⟨⟨k1, h1, e1, e2⟩, -, -⟩
  · obtain rfl := mo_i e1 hh h1 (by decide)
    rw [hhf] at e2
    cases e2
    exact ⟨hv, hb _ td ru fr hf S (va_up hp h (some (S.1 f))) hd1 hR1⟩
  · exact absurd z (rg_out_no hh (by decide))
  · obtain rfl := mo_i e1 hh h1 (by decide)
    rw [hhf] at e2
    cases e2
theorem ct_tell {l : Launch} (hfl : l.stackTraces = false) (hW : lw y G td ru fr hf S hp td2 ru2 fr2 hf2 S2 hp2 al) {h f : Nat} (hh : h < 4) (hhf : hf2 h = some f) : gk_M0 l yL_tell (Cond.codeWith yL_tell cL_tell 3 (some .int) [(0, 13, 14, 16), (0, 13, 18, 41)]) 8 160 16 128 y A [.ref (ly_a (ly_sw y) 0), .int (nI h)] G (fun v G1 => v = some (.int (rg_b (decide (¬ hp2 h = some (S2.1 f))))) ∧ lw y G1 td ru fr hf S hp td2 ru2 fr2 hf2 S2 (va_up hp2 h (some (S2.1 f))) al) := by
  obtain ⟨Go, Gr, rfl, hd, hR, hb⟩ := lw_ct hW
  refine gk_M0_sw (gk_M0e (gk_frame (fun A => c_L_tell l hfl hR (i := nI h)) hd) (fun v G1 hq => ?_))
  obtain ⟨Go1, hpost, rfl, hd1⟩ := hq
  rcases hpost with ⟨k1, f1, h1, h2, e1, e2, hv, hR1⟩ | ⟨z, -, -⟩ | ⟨⟨k1, h1, e1, e2⟩, -, -⟩
  · obtain rfl := mo_i e1 hh h1 (by decide)
    rw [hhf] at e2
    cases e2
    exact ⟨hv, hb _ td2 ru2 fr2 hf2 S2 (va_up hp2 h (some (S2.1 f))) hd1 hR1⟩
  · exact absurd z (rg_out_no hh (by decide))
  · obtain rfl := mo_i e1 hh h1 (by decide)
    rw [hhf] at e2
    cases e2
theorem co_write {l : Launch} (hfl : l.stackTraces = false) (hW : lw y G td ru fr hf S hp td2 ru2 fr2 hf2 S2 hp2 al) {h t : Nat} {n : Int32} (hh : h < 4) (hht : hp h = some t) (hok : rg_in n 1 1000) (hLp : ∀ h, h < 4 → ∀ t, hp h = some t → S.2.2.2.2.2.1 t) : gk_M0 l yL_write (Cond.codeWith yL_write cL_write 4 (some .int) [(0, 6, 7, 16), (0, 6, 11, 19), (0, 6, 15, 41)]) 8 160 16 128 y A [.ref (ly_a y 0), .int (nI h), .int n] G (fun v G1 => v = some (.int (S.2.2.2.2.2.2 0 t + n)) ∧ lw y G1 td ru fr hf (S.1, S.2.1, S.2.2.1, S.2.2.2.1, S.2.2.2.2.1, S.2.2.2.2.2.1, rp_u2 S.2.2.2.2.2.2 0 t (S.2.2.2.2.2.2 0 t + n)) hp td2 ru2 fr2 hf2 S2 hp2 al) := by
  obtain ⟨Go, Gr, rfl, hd, hR, hb⟩ := lw_co hW
  refine gk_M0e (gk_frame (fun A => c_L_write l hfl hR (i := nI h) (n := n) hLp) hd) (fun v G1 hq => ?_)
  obtain ⟨Go1, hpost, rfl, hd1⟩ := hq
  rcases hpost with ⟨k1, t1, h1, e1, e2, -, hv, hR1⟩ | ⟨z, -, -⟩ | ⟨z, -, -⟩ | ⟨⟨-, k1, h1, e1, e2⟩, -, -⟩
  · obtain rfl := mo_i e1 hh h1 (by decide)
    rw [hht] at e2
    cases e2
    exact ⟨hv, hb _ td ru fr hf (S.1, S.2.1, S.2.2.1, S.2.2.2.1, S.2.2.2.2.1, S.2.2.2.2.2.1, rp_u2 S.2.2.2.2.2.2 0 t (S.2.2.2.2.2.2 0 t + n)) hp hd1 hR1⟩
  · exact absurd z (rg_out_no hh (by decide))
  · exact absurd hok z.2
  · obtain rfl := mo_i e1 hh h1 (by decide)
    rw [hht] at e2
    cases e2
theorem ct_write {l : Launch} (hfl : l.stackTraces = false) (hW : lw y G td ru fr hf S hp td2 ru2 fr2 hf2 S2 hp2 al) {h t : Nat} {n : Int32} (hh : h < 4) (hht : hp2 h = some t) (hok : rg_in n 1 1000) (hLp : ∀ h, h < 4 → ∀ t, hp2 h = some t → S2.2.2.2.2.2.1 t) : gk_M0 l yL_write (Cond.codeWith yL_write cL_write 4 (some .int) [(0, 6, 7, 16), (0, 6, 11, 19), (0, 6, 15, 41)]) 8 160 16 128 y A [.ref (ly_a (ly_sw y) 0), .int (nI h), .int n] G (fun v G1 => v = some (.int (S2.2.2.2.2.2.2 0 t + n)) ∧ lw y G1 td ru fr hf S hp td2 ru2 fr2 hf2 (S2.1, S2.2.1, S2.2.2.1, S2.2.2.2.1, S2.2.2.2.2.1, S2.2.2.2.2.2.1, rp_u2 S2.2.2.2.2.2.2 0 t (S2.2.2.2.2.2.2 0 t + n)) hp2 al) := by
  obtain ⟨Go, Gr, rfl, hd, hR, hb⟩ := lw_ct hW
  refine gk_M0_sw (gk_M0e (gk_frame (fun A => c_L_write l hfl hR (i := nI h) (n := n) hLp) hd) (fun v G1 hq => ?_))
  obtain ⟨Go1, hpost, rfl, hd1⟩ := hq
  rcases hpost with ⟨k1, t1, h1, e1, e2, -, hv, hR1⟩ | ⟨z, -, -⟩ | ⟨z, -, -⟩ | ⟨⟨-, k1, h1, e1, e2⟩, -, -⟩
  · obtain rfl := mo_i e1 hh h1 (by decide)
    rw [hht] at e2
    cases e2
    exact ⟨hv, hb _ td2 ru2 fr2 hf2 (S2.1, S2.2.1, S2.2.2.1, S2.2.2.2.1, S2.2.2.2.2.1, S2.2.2.2.2.2.1, rp_u2 S2.2.2.2.2.2.2 0 t (S2.2.2.2.2.2.2 0 t + n)) hp2 hd1 hR1⟩
  · exact absurd z (rg_out_no hh (by decide))
  · exact absurd hok z.2
  · obtain rfl := mo_i e1 hh h1 (by decide)
    rw [hht] at e2
    cases e2
theorem co_advance {l : Launch} (hfl : l.stackTraces = false) (hW : lw y G td ru fr hf S hp td2 ru2 fr2 hf2 S2 hp2 al) {n : Int32} (hok : rg_in n 1 100) (hle : td + n ≤ 5000) : gk_M0 l yL_advance (Cond.codeWith yL_advance cL_advance 3 (some .int) [(0, 5, 6, 19), (0, 5, 10, 41)]) 8 160 16 128 y A [.ref (ly_a y 0), .int n] G (fun v G1 => v = some (.int (td + n)) ∧ lw y G1 (td + n) ru fr hf S hp td2 ru2 fr2 hf2 S2 hp2 al) := by
  obtain ⟨Go, Gr, rfl, hd, hR, hb⟩ := lw_co hW
  refine gk_M0e (gk_frame (fun A => c_L_advance l hfl hR (n := n)) hd) (fun v G1 hq => ?_)
  obtain ⟨Go1, hpost, rfl, hd1⟩ := hq
  rcases hpost with ⟨-, -, hv, hR1⟩ | ⟨z, -, -⟩ | ⟨z, -, -⟩
  · exact ⟨hv, hb _ (td + n) ru fr hf S hp hd1 hR1⟩
  · exact absurd hok z
  · exact absurd hle z.2
theorem ct_advance {l : Launch} (hfl : l.stackTraces = false) (hW : lw y G td ru fr hf S hp td2 ru2 fr2 hf2 S2 hp2 al) {n : Int32} (hok : rg_in n 1 100) (hle : td2 + n ≤ 5000) : gk_M0 l yL_advance (Cond.codeWith yL_advance cL_advance 3 (some .int) [(0, 5, 6, 19), (0, 5, 10, 41)]) 8 160 16 128 y A [.ref (ly_a (ly_sw y) 0), .int n] G (fun v G1 => v = some (.int (td2 + n)) ∧ lw y G1 td ru fr hf S hp (td2 + n) ru2 fr2 hf2 S2 hp2 al) := by
  obtain ⟨Go, Gr, rfl, hd, hR, hb⟩ := lw_ct hW
  refine gk_M0_sw (gk_M0e (gk_frame (fun A => c_L_advance l hfl hR (n := n)) hd) (fun v G1 hq => ?_))
  obtain ⟨Go1, hpost, rfl, hd1⟩ := hq
  rcases hpost with ⟨-, -, hv, hR1⟩ | ⟨z, -, -⟩ | ⟨z, -, -⟩
  · exact ⟨hv, hb _ (td2 + n) ru2 fr2 hf2 S2 hp2 hd1 hR1⟩
  · exact absurd hok z
  · exact absurd hle z.2
theorem co_lose {l : Launch} (hfl : l.stackTraces = false) (hW : lw y G td ru fr hf S hp td2 ru2 fr2 hf2 S2 hp2 al) {f : Nat} (hf5 : f < 5) : gk_M0 l yL_lose (Cond.codeWith yL_lose cL_lose 3 (some .int) [(0, 5, 6, 16)]) 8 160 16 128 y A [.ref (ly_a y 0), .int (nI f)] G (fun v G1 => v = some (.int (S.2.1 f)) ∧ lw y G1 td ru fr hf (S.1, va_up S.2.1 f td, va_up S.2.2.1 f 1, S.2.2.2) hp td2 ru2 fr2 hf2 S2 hp2 al) := by
  obtain ⟨Go, Gr, rfl, hd, hR, hb⟩ := lw_co hW
  refine gk_M0e (gk_frame (fun A => c_L_lose l hfl hR (i := nI f)) hd) (fun v G1 hq => ?_)
  obtain ⟨Go1, hpost, rfl, hd1⟩ := hq
  rcases hpost with ⟨f1, h1, e1, hv, hR1⟩ | ⟨z, -, -⟩
  · obtain rfl := mo_i e1 hf5 h1 (by decide)
    exact ⟨hv, hb _ td ru fr hf (S.1, va_up S.2.1 f td, va_up S.2.2.1 f 1, S.2.2.2) hp hd1 hR1⟩
  · exact absurd z (rg_out_no hf5 (by decide))
theorem ct_lose {l : Launch} (hfl : l.stackTraces = false) (hW : lw y G td ru fr hf S hp td2 ru2 fr2 hf2 S2 hp2 al) {f : Nat} (hf5 : f < 5) : gk_M0 l yL_lose (Cond.codeWith yL_lose cL_lose 3 (some .int) [(0, 5, 6, 16)]) 8 160 16 128 y A [.ref (ly_a (ly_sw y) 0), .int (nI f)] G (fun v G1 => v = some (.int (S2.2.1 f)) ∧ lw y G1 td ru fr hf S hp td2 ru2 fr2 hf2 (S2.1, va_up S2.2.1 f td2, va_up S2.2.2.1 f 1, S2.2.2.2) hp2 al) := by
  obtain ⟨Go, Gr, rfl, hd, hR, hb⟩ := lw_ct hW
  refine gk_M0_sw (gk_M0e (gk_frame (fun A => c_L_lose l hfl hR (i := nI f)) hd) (fun v G1 hq => ?_))
  obtain ⟨Go1, hpost, rfl, hd1⟩ := hq
  rcases hpost with ⟨f1, h1, e1, hv, hR1⟩ | ⟨z, -, -⟩
  · obtain rfl := mo_i e1 hf5 h1 (by decide)
    exact ⟨hv, hb _ td2 ru2 fr2 hf2 (S2.1, va_up S2.2.1 f td2, va_up S2.2.2.1 f 1, S2.2.2.2) hp2 hd1 hR1⟩
  · exact absurd z (rg_out_no hf5 (by decide))
theorem co_turn {l : Launch} (hfl : l.stackTraces = false) (hW : lw y G td ru fr hf S hp td2 ru2 fr2 hf2 S2 hp2 al) {f : Nat} (hf5 : f < 5) (hLl : ∀ f, f < 5 → S.2.2.2.2.2.1 (S.1 f)) (hin5 : ∀ f, f < 5 → ∀ q ∈ S.2.2.2.2.1 f, S.2.2.2.2.2.1 q) (hlen5 : ∀ f, f < 5 → (S.2.2.2.2.1 f).length < 512) : gk_M0 l yL_turn (Cond.codeWith yL_turn cL_turn 3 (some .int) [(0, 5, 6, 16)]) 9 300 3 1509 y A [.ref (ly_a y 0), .int (nI f)] G (fun v G1 => ∃ q, ¬ S.2.2.2.2.2.1 q ∧ v = some (.int (nI (t_tth td ru fr S.1 hp S.2.2.2.2.1 S.2.2.2.2.2.2 f q).length)) ∧ lw y G1 td ru fr hf (t_turn td ru fr hp S f q) hp td2 ru2 fr2 hf2 S2 hp2 al) := by
  obtain ⟨Go, Gr, rfl, hd, hR, hb⟩ := lw_co hW
  refine gk_M0e (gk_frame (fun A => c_L_turn l hfl hR (i := nI f) hLl hin5 hlen5) hd) (fun v G1 hq => ?_)
  obtain ⟨Go1, hpost, rfl, hd1⟩ := hq
  rcases hpost with ⟨f1, q, h1, e1, hq, hv, hR1⟩ | ⟨z, -, -⟩
  · obtain rfl := mo_i e1 hf5 h1 (by decide)
    exact ⟨q, hq, hv, hb _ td ru fr hf (t_turn td ru fr hp S f q) hp hd1 hR1⟩
  · exact absurd z (rg_out_no hf5 (by decide))
theorem co_run {l : Launch} (hW : lw y G td ru fr hf S hp td2 ru2 fr2 hf2 S2 hp2 al) (hLl : ∀ f, f < 5 → S.2.2.2.2.2.1 (S.1 f)) (hin5 : ∀ f, f < 5 → ∀ q ∈ S.2.2.2.2.1 f, S.2.2.2.2.2.1 q) (hlen5 : ∀ f, f < 5 → (S.2.2.2.2.1 f).length < 512) : gk_M0 l yX4_run (Cond.code yX4_run cX4_run 3 (some .int)) 8 270 10 7515 y A [.ref (ly_a y 0)] G (fun v G1 => ∃ T b, t_runR td ru fr hp S 5 T b ∧ v = some (.int b) ∧ lw y G1 td ru fr hf T (t_tls b ru fr T.1 hf hp 3) td2 ru2 fr2 hf2 S2 hp2 al) := by
  obtain ⟨Go, Gr, rfl, hd, hR, hb⟩ := lw_co hW
  refine gk_M0e (gk_frame (fun A => c_X4_run l hR hLl hin5 hlen5) hd) (fun v G1 hq => ?_)
  obtain ⟨Go1, ⟨T, b, h1, hv, hR1⟩, rfl, hd1⟩ := hq
  exact ⟨T, b, h1, hv, hb _ td ru fr hf T (t_tls b ru fr T.1 hf hp 3) hd1 hR1⟩
theorem ct_turn {l : Launch} (hfl : l.stackTraces = false) (hW : lw y G td ru fr hf S hp td2 ru2 fr2 hf2 S2 hp2 al) {f : Nat} (hf5 : f < 5) (hLl : ∀ f, f < 5 → S2.2.2.2.2.2.1 (S2.1 f)) (hin5 : ∀ f, f < 5 → ∀ q ∈ S2.2.2.2.2.1 f, S2.2.2.2.2.2.1 q) (hlen5 : ∀ f, f < 5 → (S2.2.2.2.2.1 f).length < 512) : gk_M0 l yL_turn (Cond.codeWith yL_turn cL_turn 3 (some .int) [(0, 5, 6, 16)]) 9 300 3 1509 y A [.ref (ly_a (ly_sw y) 0), .int (nI f)] G (fun v G1 => ∃ q, ¬ S2.2.2.2.2.2.1 q ∧ v = some (.int (nI (t_tth td2 ru2 fr2 S2.1 hp2 S2.2.2.2.2.1 S2.2.2.2.2.2.2 f q).length)) ∧ lw y G1 td ru fr hf S hp td2 ru2 fr2 hf2 (t_turn td2 ru2 fr2 hp2 S2 f q) hp2 al) := by
  obtain ⟨Go, Gr, rfl, hd, hR, hb⟩ := lw_ct hW
  refine gk_M0_sw (gk_M0e (gk_frame (fun A => c_L_turn l hfl hR (i := nI f) hLl hin5 hlen5) hd) (fun v G1 hq => ?_))
  obtain ⟨Go1, hpost, rfl, hd1⟩ := hq
  rcases hpost with ⟨f1, q, h1, e1, hq, hv, hR1⟩ | ⟨z, -, -⟩
  · obtain rfl := mo_i e1 hf5 h1 (by decide)
    exact ⟨q, hq, hv, hb _ td2 ru2 fr2 hf2 (t_turn td2 ru2 fr2 hp2 S2 f q) hp2 hd1 hR1⟩
  · exact absurd z (rg_out_no hf5 (by decide))
theorem ct_run {l : Launch} (hW : lw y G td ru fr hf S hp td2 ru2 fr2 hf2 S2 hp2 al) (hLl : ∀ f, f < 5 → S2.2.2.2.2.2.1 (S2.1 f)) (hin5 : ∀ f, f < 5 → ∀ q ∈ S2.2.2.2.2.1 f, S2.2.2.2.2.2.1 q) (hlen5 : ∀ f, f < 5 → (S2.2.2.2.2.1 f).length < 512) : gk_M0 l yX4_run (Cond.code yX4_run cX4_run 3 (some .int)) 8 270 10 7515 y A [.ref (ly_a (ly_sw y) 0)] G (fun v G1 => ∃ T b, t_runR td2 ru2 fr2 hp2 S2 5 T b ∧ v = some (.int b) ∧ lw y G1 td ru fr hf S hp td2 ru2 fr2 hf2 T (t_tls b ru2 fr2 T.1 hf2 hp2 3) al) := by
  obtain ⟨Go, Gr, rfl, hd, hR, hb⟩ := lw_ct hW
  refine gk_M0_sw (gk_M0e (gk_frame (fun A => c_X4_run l hR hLl hin5 hlen5) hd) (fun v G1 hq => ?_))
  obtain ⟨Go1, ⟨T, b, h1, hv, hR1⟩, rfl, hd1⟩ := hq
  exact ⟨T, b, h1, hv, hb _ td2 ru2 fr2 hf2 T (t_tls b ru2 fr2 T.1 hf2 hp2 3) hd1 hR1⟩
end MO
/-! calls that throw -/
section CB
variable {y : ly_T} {A : Nat → Prop} {G : gk_G} {td : Int32} {ru : Nat → Nat → Int32} {fr : Nat → Nat} {hf hp : Nat → Option Nat} {S : ts_T}
theorem cb0_setDue {l : Launch} (hfl : l.stackTraces = false) (hR : rq y G td ru fr hf S hp) {i size wd mo le : Int32} (ho : rg_out i 3) : gk_M0 l yL_setDue (Cond.codeWith yL_setDue cL_setDue 7 (some .int) [(0, 12, 13, 16), (0, 12, 18, 19)]) 8 160 16 128 y A [.ref (ly_a y 0), .int i, .int size, .int wd, .int mo, .int le] G (fun v G1 => v = some (.int (-1000001)) ∧ G1 = G) := by
  refine gk_M0e (c_L_setDue l hfl hR (i := i) (size := size) (wd := wd) (mo := mo) (le := le)) (fun v G1 hq => ?_)
  rcases hq with ⟨r1, hr1, rfl, -⟩ | ⟨-, hv, hG⟩ | ⟨z, -⟩
  · exact absurd ho (rg_out_no hr1 (by decide))
  · exact ⟨hv, hG⟩
  · exact absurd ho z.1
theorem cb1_setDue {l : Launch} (hfl : l.stackTraces = false) (hR : rq y G td ru fr hf S hp) {i size wd mo le : Int32} (ho : ¬ rg_out i 3) (hn : ¬ (rg_in size 0 10000 ∧ rg_in wd (-1) 6 ∧ rg_in mo (-1) 29 ∧ rg_in le 0 100)) : gk_M0 l yL_setDue (Cond.codeWith yL_setDue cL_setDue 7 (some .int) [(0, 12, 13, 16), (0, 12, 18, 19)]) 8 160 16 128 y A [.ref (ly_a y 0), .int i, .int size, .int wd, .int mo, .int le] G (fun v G1 => v = some (.int (-1000002)) ∧ G1 = G) := by
  refine gk_M0e (c_L_setDue l hfl hR (i := i) (size := size) (wd := wd) (mo := mo) (le := le)) (fun v G1 hq => ?_)
  rcases hq with ⟨r1, hr1, rfl, z, -⟩ | ⟨z, -⟩ | ⟨-, hv, hG⟩
  · exact absurd z hn
  · exact absurd z ho
  · exact ⟨hv, hG⟩
theorem cb0_setOld {l : Launch} (hfl : l.stackTraces = false) (hR : rq y G td ru fr hf S hp) {i kp gr b1 b2 b3 : Int32} (ho : rg_out i 3) (hb1 : b1 = 0 ∨ b1 = 1) (hb2 : b2 = 0 ∨ b2 = 1) (hb3 : b3 = 0 ∨ b3 = 1) : gk_M0 l yL_setOld (Cond.codeWith yL_setOld cL_setOld 8 (some .int) [(0, 14, 15, 16), (0, 14, 20, 19)]) 8 160 16 128 y A [.ref (ly_a y 0), .int i, .int kp, .int gr, .int b1, .int b2, .int b3] G (fun v G1 => v = some (.int (-1000001)) ∧ G1 = G) := by
  refine gk_M0e (c_L_setOld l hfl hR (i := i) (kp := kp) (gr := gr) hb1 hb2 hb3) (fun v G1 hq => ?_)
  rcases hq with ⟨r1, hr1, rfl, -⟩ | ⟨-, hv, hG⟩ | ⟨z, -⟩
  · exact absurd ho (rg_out_no hr1 (by decide))
  · exact ⟨hv, hG⟩
  · exact absurd ho z.1
theorem cb1_setOld {l : Launch} (hfl : l.stackTraces = false) (hR : rq y G td ru fr hf S hp) {i kp gr b1 b2 b3 : Int32} (ho : ¬ rg_out i 3) (hn : ¬ (rg_in kp 0 10 ∧ rg_in gr 0 1000)) (hb1 : b1 = 0 ∨ b1 = 1) (hb2 : b2 = 0 ∨ b2 = 1) (hb3 : b3 = 0 ∨ b3 = 1) : gk_M0 l yL_setOld (Cond.codeWith yL_setOld cL_setOld 8 (some .int) [(0, 14, 15, 16), (0, 14, 20, 19)]) 8 160 16 128 y A [.ref (ly_a y 0), .int i, .int kp, .int gr, .int b1, .int b2, .int b3] G (fun v G1 => v = some (.int (-1000002)) ∧ G1 = G) := by
  refine gk_M0e (c_L_setOld l hfl hR (i := i) (kp := kp) (gr := gr) hb1 hb2 hb3) (fun v G1 hq => ?_)
  rcases hq with ⟨r1, hr1, rfl, z, -⟩ | ⟨z, -⟩ | ⟨-, hv, hG⟩
  · exact absurd z hn
  · exact absurd z ho
  · exact ⟨hv, hG⟩
theorem cb0_give {l : Launch} (hfl : l.stackTraces = false) (hR : rq y G td ru fr hf S hp) {i j : Int32} (ho : rg_out i 5 ∨ rg_out j 3) : gk_M0 l yL_give (Cond.codeWith yL_give cL_give 4 (some .int) [(0, 6, 7, 16)]) 8 160 16 128 y A [.ref (ly_a y 0), .int i, .int j] G (fun v G1 => v = some (.int (-1000001)) ∧ G1 = G) := by
  refine gk_M0e (c_L_give l hfl hR (i := i) (j := j)) (fun v G1 hq => ?_)
  rcases hq with ⟨f1, r1, h1, h2, rfl, rfl, -⟩ | ⟨-, hv, hG⟩
  · exact (ho.elim (fun q => rg_out_no h1 (by decide) q) (fun q => rg_out_no h2 (by decide) q)).elim
  · exact ⟨hv, hG⟩
theorem cb0_open {l : Launch} (hfl : l.stackTraces = false) (hR : rq y G td ru fr hf S hp) {i j : Int32} (ho : rg_out i 4 ∨ rg_out j 5) : gk_M0 l yL_open (Cond.codeWith yL_open cL_open 4 (some .int) [(0, 7, 8, 16)]) 8 160 16 128 y A [.ref (ly_a y 0), .int i, .int j] G (fun v G1 => v = some (.int (-1000001)) ∧ G1 = G) := by
  refine gk_M0e (c_L_open l hfl hR (i := i) (j := j)) (fun v G1 hq => ?_)
  rcases hq with ⟨f1, r1, h1, h2, rfl, rfl, -⟩ | ⟨-, hv, hG⟩
  · exact (ho.elim (fun q => rg_out_no h1 (by decide) q) (fun q => rg_out_no h2 (by decide) q)).elim
  · exact ⟨hv, hG⟩
theorem cb0_shut {l : Launch} (hfl : l.stackTraces = false) (hR : rq y G td ru fr hf S hp) {i : Int32} (ho : rg_out i 4) : gk_M0 l yL_shut (Cond.codeWith yL_shut cL_shut 3 (some .int) [(0, 13, 14, 16)]) 8 160 16 128 y A [.ref (ly_a y 0), .int i] G (fun v G1 => v = some (.int (-1000001)) ∧ G1 = G) := by
  refine gk_M0e (c_L_shut l hfl hR (i := i)) (fun v G1 hq => ?_)
  rcases hq with ⟨f1, h1, rfl, -⟩ | ⟨-, hv, hG⟩
  · exact absurd ho (rg_out_no h1 (by decide))
  · exact ⟨hv, hG⟩
theorem cb0_tell {l : Launch} (hfl : l.stackTraces = false) (hR : rq y G td ru fr hf S hp) {i : Int32} (ho : rg_out i 4) : gk_M0 l yL_tell (Cond.codeWith yL_tell cL_tell 3 (some .int) [(0, 13, 14, 16), (0, 13, 18, 41)]) 8 160 16 128 y A [.ref (ly_a y 0), .int i] G (fun v G1 => v = some (.int (-1000001)) ∧ G1 = G) := by
  refine gk_M0e (c_L_tell l hfl hR (i := i)) (fun v G1 hq => ?_)
  rcases hq with ⟨k1, f1, h1, h2, rfl, -⟩ | ⟨-, hv, hG⟩ | ⟨⟨k1, h1, rfl, -⟩, -⟩
  · exact absurd ho (rg_out_no h1 (by decide))
  · exact ⟨hv, hG⟩
  · exact absurd ho (rg_out_no h1 (by decide))
theorem cb2_tell {l : Launch} (hfl : l.stackTraces = false) (hR : rq y G td ru fr hf S hp) {h : Nat} (hh : h < 4) (hn : hf h = none) : gk_M0 l yL_tell (Cond.codeWith yL_tell cL_tell 3 (some .int) [(0, 13, 14, 16), (0, 13, 18, 41)]) 8 160 16 128 y A [.ref (ly_a y 0), .int (nI h)] G (fun v G1 => v = some (.int (-1000003)) ∧ G1 = G) := by
  refine gk_M0e (c_L_tell l hfl hR (i := nI h)) (fun v G1 hq => ?_)
  rcases hq with ⟨k1, f1, h1, h2, e1, e2, -⟩ | ⟨z, -⟩ | ⟨-, hv, hG⟩
  · obtain rfl := mo_i e1 hh h1 (by decide)
    rw [hn] at e2
    cases e2
  · exact absurd z (rg_out_no hh (by decide))
  · exact ⟨hv, hG⟩
theorem cb0_write {l : Launch} (hfl : l.stackTraces = false) (hR : rq y G td ru fr hf S hp) {i n : Int32} (ho : rg_out i 4) (hLp : ∀ h, h < 4 → ∀ t, hp h = some t → S.2.2.2.2.2.1 t) : gk_M0 l yL_write (Cond.codeWith yL_write cL_write 4 (some .int) [(0, 6, 7, 16), (0, 6, 11, 19), (0, 6, 15, 41)]) 8 160 16 128 y A [.ref (ly_a y 0), .int i, .int n] G (fun v G1 => v = some (.int (-1000001)) ∧ G1 = G) := by
  refine gk_M0e (c_L_write l hfl hR (i := i) (n := n) hLp) (fun v G1 hq => ?_)
  rcases hq with ⟨k1, t1, h1, rfl, -⟩ | ⟨-, hv, hG⟩ | ⟨z, -⟩ | ⟨⟨-, k1, h1, rfl, -⟩, -⟩
  · exact absurd ho (rg_out_no h1 (by decide))
  · exact ⟨hv, hG⟩
  · exact absurd ho z.1
  · exact absurd ho (rg_out_no h1 (by decide))
theorem cb1_write {l : Launch} (hfl : l.stackTraces = false) (hR : rq y G td ru fr hf S hp) {i n : Int32} (ho : ¬ rg_out i 4) (hn : ¬ rg_in n 1 1000) (hLp : ∀ h, h < 4 → ∀ t, hp h = some t → S.2.2.2.2.2.1 t) : gk_M0 l yL_write (Cond.codeWith yL_write cL_write 4 (some .int) [(0, 6, 7, 16), (0, 6, 11, 19), (0, 6, 15, 41)]) 8 160 16 128 y A [.ref (ly_a y 0), .int i, .int n] G (fun v G1 => v = some (.int (-1000002)) ∧ G1 = G) := by
  refine gk_M0e (c_L_write l hfl hR (i := i) (n := n) hLp) (fun v G1 hq => ?_)
  rcases hq with ⟨k1, t1, h1, rfl, -, z, -⟩ | ⟨z, -⟩ | ⟨-, hv, hG⟩ | ⟨⟨z, -⟩, -⟩
  · exact absurd z hn
  · exact absurd z ho
  · exact ⟨hv, hG⟩
  · exact absurd z hn
theorem cb2_write {l : Launch} (hfl : l.stackTraces = false) (hR : rq y G td ru fr hf S hp) {h : Nat} {n : Int32} (hh : h < 4) (hn : rg_in n 1 1000) (hz9 : hp h = none) (hLp : ∀ h, h < 4 → ∀ t, hp h = some t → S.2.2.2.2.2.1 t) : gk_M0 l yL_write (Cond.codeWith yL_write cL_write 4 (some .int) [(0, 6, 7, 16), (0, 6, 11, 19), (0, 6, 15, 41)]) 8 160 16 128 y A [.ref (ly_a y 0), .int (nI h), .int n] G (fun v G1 => v = some (.int (-1000003)) ∧ G1 = G) := by
  refine gk_M0e (c_L_write l hfl hR (i := nI h) (n := n) hLp) (fun v G1 hq => ?_)
  rcases hq with ⟨k1, t1, h1, e1, e2, -⟩ | ⟨z, -⟩ | ⟨z, -⟩ | ⟨-, hv, hG⟩
  · obtain rfl := mo_i e1 hh h1 (by decide)
    rw [hz9] at e2
    cases e2
  · exact absurd z (rg_out_no hh (by decide))
  · exact absurd hn z.2
  · exact ⟨hv, hG⟩
theorem cb1_advance {l : Launch} (hfl : l.stackTraces = false) (hR : rq y G td ru fr hf S hp) {n : Int32} (hn : ¬ rg_in n 1 100) : gk_M0 l yL_advance (Cond.codeWith yL_advance cL_advance 3 (some .int) [(0, 5, 6, 19), (0, 5, 10, 41)]) 8 160 16 128 y A [.ref (ly_a y 0), .int n] G (fun v G1 => v = some (.int (-1000002)) ∧ G1 = G) := by
  refine gk_M0e (c_L_advance l hfl hR (n := n)) (fun v G1 hq => ?_)
  rcases hq with ⟨z, -⟩ | ⟨-, hv, hG⟩ | ⟨⟨z, -⟩, -⟩
  · exact absurd z hn
  · exact ⟨hv, hG⟩
  · exact absurd z hn
theorem cb2_advance {l : Launch} (hfl : l.stackTraces = false) (hR : rq y G td ru fr hf S hp) {n : Int32} (hn : rg_in n 1 100) (hg : ¬ td + n ≤ 5000) : gk_M0 l yL_advance (Cond.codeWith yL_advance cL_advance 3 (some .int) [(0, 5, 6, 19), (0, 5, 10, 41)]) 8 160 16 128 y A [.ref (ly_a y 0), .int n] G (fun v G1 => v = some (.int (-1000003)) ∧ G1 = G) := by
  refine gk_M0e (c_L_advance l hfl hR (n := n)) (fun v G1 hq => ?_)
  rcases hq with ⟨-, z, -⟩ | ⟨z, -⟩ | ⟨-, hv, hG⟩
  · exact absurd z hg
  · exact absurd hn z
  · exact ⟨hv, hG⟩
theorem cb0_lose {l : Launch} (hfl : l.stackTraces = false) (hR : rq y G td ru fr hf S hp) {i : Int32} (ho : rg_out i 5) : gk_M0 l yL_lose (Cond.codeWith yL_lose cL_lose 3 (some .int) [(0, 5, 6, 16)]) 8 160 16 128 y A [.ref (ly_a y 0), .int i] G (fun v G1 => v = some (.int (-1000001)) ∧ G1 = G) := by
  refine gk_M0e (c_L_lose l hfl hR (i := i)) (fun v G1 hq => ?_)
  rcases hq with ⟨f1, h1, rfl, -⟩ | ⟨-, hv, hG⟩
  · exact absurd ho (rg_out_no h1 (by decide))
  · exact ⟨hv, hG⟩
theorem cb0_live {l : Launch} (hfl : l.stackTraces = false) (hR : rq y G td ru fr hf S hp) {i : Int32} (ho : rg_out i 5) (hLl : ∀ f, f < 5 → S.2.2.2.2.2.1 (S.1 f)) : gk_M0 l yL_live (Cond.codeWith yL_live cL_live 3 (some .int) [(0, 5, 6, 16)]) 8 160 16 128 y A [.ref (ly_a y 0), .int i] G (fun v G1 => v = some (.int (-1000001)) ∧ G1 = G) := by
  refine gk_M0e (c_L_live l hfl hR (i := i) hLl) (fun v G1 hq => ?_)
  rcases hq with ⟨f1, h1, rfl, -⟩ | ⟨-, hv, hG⟩
  · exact absurd ho (rg_out_no h1 (by decide))
  · exact ⟨hv, hG⟩
theorem cb0_olds {l : Launch} (hfl : l.stackTraces = false) (hR : rq y G td ru fr hf S hp) {i : Int32} (ho : rg_out i 5) : gk_M0 l yL_olds (Cond.codeWith yL_olds cL_olds 3 (some .int) [(0, 5, 6, 16)]) 8 160 16 128 y A [.ref (ly_a y 0), .int i] G (fun v G1 => v = some (.int (-1000001)) ∧ G1 = G) := by
  refine gk_M0e (c_L_olds l hfl hR (i := i)) (fun v G1 hq => ?_)
  rcases hq with ⟨f1, h1, rfl, -⟩ | ⟨-, hv, hG⟩
  · exact absurd ho (rg_out_no h1 (by decide))
  · exact ⟨hv, hG⟩
theorem cb0_thrown {l : Launch} (hfl : l.stackTraces = false) (hR : rq y G td ru fr hf S hp) {i : Int32} (ho : rg_out i 5) : gk_M0 l yL_thrown (Cond.codeWith yL_thrown cL_thrown 3 (some .int) [(0, 5, 6, 16)]) 8 160 16 128 y A [.ref (ly_a y 0), .int i] G (fun v G1 => v = some (.int (-1000001)) ∧ G1 = G) := by
  refine gk_M0e (c_L_thrown l hfl hR (i := i)) (fun v G1 hq => ?_)
  rcases hq with ⟨f1, h1, rfl, -⟩ | ⟨-, hv, hG⟩
  · exact absurd ho (rg_out_no h1 (by decide))
  · exact ⟨hv, hG⟩
theorem cb0_isDue {l : Launch} (hfl : l.stackTraces = false) (hR : rq y G td ru fr hf S hp) {i : Int32} (ho : rg_out i 5) (hLl : ∀ f, f < 5 → S.2.2.2.2.2.1 (S.1 f)) : gk_M0 l yL_isDue (Cond.codeWith yL_isDue cL_isDue 3 (some .int) [(0, 13, 14, 16)]) 8 160 16 128 y A [.ref (ly_a y 0), .int i] G (fun v G1 => v = some (.int (-1000001)) ∧ G1 = G) := by
  refine gk_M0e (c_L_isDue l hfl hR (i := i) hLl) (fun v G1 hq => ?_)
  rcases hq with ⟨f1, h1, rfl, -⟩ | ⟨-, hv, hG⟩
  · exact absurd ho (rg_out_no h1 (by decide))
  · exact ⟨hv, hG⟩
theorem cb0_nextDue {l : Launch} (hfl : l.stackTraces = false) (hR : rq y G td ru fr hf S hp) {i : Int32} (ho : rg_out i 5) (hLl : ∀ f, f < 5 → S.2.2.2.2.2.1 (S.1 f)) : gk_M0 l yL_nextDue (Cond.codeWith yL_nextDue cL_nextDue 3 (some .int) [(0, 5, 6, 16)]) 8 160 16 128 y A [.ref (ly_a y 0), .int i] G (fun v G1 => v = some (.int (-1000001)) ∧ G1 = G) := by
  refine gk_M0e (c_L_nextDue l hfl hR (i := i) hLl) (fun v G1 hq => ?_)
  rcases hq with ⟨f1, x1, h1, rfl, -⟩ | ⟨-, hv, hG⟩
  · exact absurd ho (rg_out_no h1 (by decide))
  · exact ⟨hv, hG⟩
theorem cb0_holds {l : Launch} (hfl : l.stackTraces = false) (hR : rq y G td ru fr hf S hp) {i : Int32} (ho : rg_out i 4) (hHo : ∀ h, h < 4 → ∀ f, hf h = some f → ∃ t, hp h = some t) : gk_M0 l yL_holds (Cond.codeWith yL_holds cL_holds 3 (some .int) [(0, 5, 6, 16)]) 8 160 16 128 y A [.ref (ly_a y 0), .int i] G (fun v G1 => v = some (.int (-1000001)) ∧ G1 = G) := by
  refine gk_M0e (c_L_holds l hfl hR (i := i) hHo) (fun v G1 hq => ?_)
  rcases hq with ⟨f1, x1, h1, rfl, -⟩ | ⟨-, hv, hG⟩
  · exact absurd ho (rg_out_no h1 (by decide))
  · exact ⟨hv, hG⟩
theorem cb0_turn {l : Launch} (hfl : l.stackTraces = false) (hR : rq y G td ru fr hf S hp) {i : Int32} (ho : rg_out i 5) (hLl : ∀ f, f < 5 → S.2.2.2.2.2.1 (S.1 f)) (hin5 : ∀ f, f < 5 → ∀ q ∈ S.2.2.2.2.1 f, S.2.2.2.2.2.1 q) (hlen5 : ∀ f, f < 5 → (S.2.2.2.2.1 f).length < 512) : gk_M0 l yL_turn (Cond.codeWith yL_turn cL_turn 3 (some .int) [(0, 5, 6, 16)]) 9 300 3 1509 y A [.ref (ly_a y 0), .int i] G (fun v G1 => v = some (.int (-1000001)) ∧ G1 = G) := by
  refine gk_M0e (c_L_turn l hfl hR (i := i) hLl hin5 hlen5) (fun v G1 hq => ?_)
  rcases hq with ⟨f1, x1, h1, rfl, -⟩ | ⟨-, hv, hG⟩
  · exact absurd ho (rg_out_no h1 (by decide))
  · exact ⟨hv, hG⟩
theorem cb0_lines {l : Launch} (hfl : l.stackTraces = false) (hR : rq y G td ru fr hf S hp) {f : Nat} {j : Int32} (hf5 : f < 5) (hlen : (S.2.2.2.2.1 f).length < 2 ^ 31) (ho : rg_out j (S.2.2.2.2.1 f).length) (hin5 : ∀ f, f < 5 → ∀ q ∈ S.2.2.2.2.1 f, S.2.2.2.2.2.1 q) : gk_M0 l yL_lines (Cond.codeWith yL_lines cL_lines 4 (some .int) [(0, 6, 7, 16)]) 8 160 16 128 y A [.ref (ly_a y 0), .int (nI f), .int j] G (fun v G1 => v = some (.int (-1000001)) ∧ G1 = G) := by
  refine gk_M0e (c_L_lines l hfl hR (i := nI f) (j := j) hin5) (fun v G1 hq => ?_)
  rcases hq with ⟨f1, k1, t1, h1, e1, e2, rfl, -⟩ | ⟨-, hv, hG⟩
  · obtain rfl := mo_i e1 hf5 h1 (by decide)
    exact absurd ho (rg_out_no (List.getElem?_eq_some_iff.mp e2).1 hlen)
  · exact ⟨hv, hG⟩
theorem cb0_name {l : Launch} (hfl : l.stackTraces = false) (hR : rq y G td ru fr hf S hp) {f : Nat} {j : Int32} (hf5 : f < 5) (hlen : (S.2.2.2.2.1 f).length < 2 ^ 31) (ho : rg_out j (S.2.2.2.2.1 f).length) (hin5 : ∀ f, f < 5 → ∀ q ∈ S.2.2.2.2.1 f, S.2.2.2.2.2.1 q) : gk_M0 l yL_name (Cond.codeWith yL_name cL_name 4 (some .int) [(0, 6, 7, 16)]) 8 160 16 128 y A [.ref (ly_a y 0), .int (nI f), .int j] G (fun v G1 => v = some (.int (-1000001)) ∧ G1 = G) := by
  refine gk_M0e (c_L_name l hfl hR (i := nI f) (j := j) hin5) (fun v G1 hq => ?_)
  rcases hq with ⟨f1, k1, t1, h1, e1, e2, rfl, -⟩ | ⟨-, hv, hG⟩
  · obtain rfl := mo_i e1 hf5 h1 (by decide)
    exact absurd ho (rg_out_no (List.getElem?_eq_some_iff.mp e2).1 hlen)
  · exact ⟨hv, hG⟩
theorem cb0_isSqueezed {l : Launch} (hfl : l.stackTraces = false) (hR : rq y G td ru fr hf S hp) {f : Nat} {j : Int32} (hf5 : f < 5) (hlen : (S.2.2.2.2.1 f).length < 2 ^ 31) (ho : rg_out j (S.2.2.2.2.1 f).length) (hin5 : ∀ f, f < 5 → ∀ q ∈ S.2.2.2.2.1 f, S.2.2.2.2.2.1 q) (hsq : ∀ t, S.2.2.2.2.2.1 t → S.2.2.2.2.2.2 2 t = 0 ∨ S.2.2.2.2.2.2 2 t = 1) : gk_M0 l yL_isSqueezed (Cond.codeWith yL_isSqueezed cL_isSqueezed 4 (some .int) [(0, 14, 15, 16)]) 8 160 16 128 y A [.ref (ly_a y 0), .int (nI f), .int j] G (fun v G1 => v = some (.int (-1000001)) ∧ G1 = G) := by
  refine gk_M0e (c_L_isSqueezed l hfl hR (i := nI f) (j := j) hin5 hsq) (fun v G1 hq => ?_)
  rcases hq with ⟨f1, k1, t1, h1, e1, e2, rfl, -⟩ | ⟨-, hv, hG⟩
  · obtain rfl := mo_i e1 hf5 h1 (by decide)
    exact absurd ho (rg_out_no (List.getElem?_eq_some_iff.mp e2).1 hlen)
  · exact ⟨hv, hG⟩
end CB
