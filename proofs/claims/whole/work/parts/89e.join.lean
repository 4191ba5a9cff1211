/-! PURE: a core joins a row. -/
theorem sum1 {f : Nat → Nat} {a : Nat} (ha : a < 4) : f a ≤ sm f 4 := sm_ge ha
theorem sum2 {f : Nat → Nat} {a b : Nat} (ha : a < 4) (hb : b < 4) (hab : a ≠ b) : f a + f b ≤ sm f 4 := by
  rcases (show a = 0 ∨ a = 1 ∨ a = 2 ∨ a = 3 by omega) with rfl | rfl | rfl | rfl <;> rcases (show b = 0 ∨ b = 1 ∨ b = 2 ∨ b = 3 by omega) with rfl | rfl | rfl | rfl <;> simp only [sm] <;> omega
theorem sum3 {f : Nat → Nat} {a b d : Nat} (ha : a < 4) (hb : b < 4) (hd : d < 4) (hab : a ≠ b) (had : a ≠ d) (hbd : b ≠ d) : f a + f b + f d ≤ sm f 4 := by
  rcases (show a = 0 ∨ a = 1 ∨ a = 2 ∨ a = 3 by omega) with rfl | rfl | rfl | rfl <;> rcases (show b = 0 ∨ b = 1 ∨ b = 2 ∨ b = 3 by omega) with rfl | rfl | rfl | rfl <;> rcases (show d = 0 ∨ d = 1 ∨ d = 2 ∨ d = 3 by omega) with rfl | rfl | rfl | rfl <;> simp only [sm] <;> omega
theorem lng_ge {D : Nat → Nat → Int32} {c g t r : Nat} (ht : t < 16) (hc : D 15 t = nI c) (hr : r < cn D t) (ho : ou D t r = true) (hg : gr D t r = g) : ln D t r ≤ lng D c g := by
  have h1 := mx_ge (f := fun r => if ou D t r = true ∧ gr D t r = g then ln D t r else 0) hr
  simp only [ho, hg, and_self, if_true] at h1
  have h2 := mx_ge (f := fun t => if D 15 t = nI c then mx (fun r => if ou D t r = true ∧ gr D t r = g then ln D t r else 0) (cn D t) else 0) ht
  simp only [hc, if_true] at h2
  exact Nat.le_trans h1 h2
theorem qf_step {D : Nat → Nat → Int32} {t r : Nat} (hr : r < cn D t) (ho : ou D t r = true) : qf D t r = qf D t (r + 1) + (ln D t r + spn D t r) := by
  have h := sm_one (f := fun k => if r ≤ k ∧ ou D t k = true then ln D t k + spn D t k else 0) (g := fun k => if r + 1 ≤ k ∧ ou D t k = true then ln D t k + spn D t k else 0) hr (fun j _ hne => by
    by_cases e : r ≤ j
    · simp only [e, show r + 1 ≤ j by omega]
    · simp only [e, show ¬ r + 1 ≤ j by omega])
  simp only [Nat.le_refl, ho, and_self, if_true, show ¬ r + 1 ≤ r by omega, false_and, if_false] at h
  unfold qf
  omega
theorem qf_skip {D : Nat → Nat → Int32} {t r : Nat} (ho : ¬ (r < cn D t ∧ ou D t r = true)) : qf D t r = qf D t (r + 1) := by
  unfold qf
  refine sm_congr (fun k hk => ?_)
  by_cases e : k = r
  · subst e
    have h1 : ¬ ou D t k = true := fun h => ho ⟨hk, h⟩
    rw [if_neg (fun h => h1 h.2), if_neg (fun h => h1 h.2)]
  · by_cases e2 : r ≤ k
    · simp only [e2, show r + 1 ≤ k by omega]
    · simp only [e2, show ¬ r + 1 ≤ k by omega]
theorem nI_inj {a b : Nat} (ha : a < 96) (hb : b < 96) (h : nI a = nI b) : a = b := (nI_eq (by omega) (by omega)).mp h
/-- who stands in a row, by its own section -/
theorem row_left {D A : Nat → Nat → Int32} {F u b : Nat → Nat} {g k : Nat} (h : PH D A F u b) (hg : g < 8) (hk : k < nn A 44 g) : ∃ c t, c < 4 ∧ t < 16 ∧ A 43 (4 * g + k) = nI c ∧ nn A 43 (4 * g + k) = c ∧ 1 < nn A 40 c ∧ A 39 c = nI t ∧ aGrp D A t = g ∧ (k = 0 → F c = b g + nn A 31 t) ∧ (∀ q, k = q + 1 → F c = F (nn A 43 (4 * g + q)) + nn A 31 t) ∧ nn A 31 t ≤ lng D c g ∧ 1 ≤ nn A 31 t ∧ Sec D A F c t := by
  obtain ⟨c, t, q1, q2, q3, q4, q5, q6, q7, q8⟩ := (h.2.2.1 g hg).2.1 k hk
  obtain ⟨t', hs⟩ := (h.2.1 c q1).2 q4
  have e : t' = t := nI_inj (by have := hs.1; omega) (by omega) (hs.2.1.symm.trans q5)
  subst e
  have hs0 := hs
  obtain ⟨s1, s2, s3, s4, s5, s6, s7, s8, s9, s10⟩ := hs
  have hj := h.1 t' q2 s3
  refine ⟨c, t', q1, q2, q3, by unfold nn; rw [q3]; exact cl (by omega), q4, q5, q6, q7, q8, ?_, s8, hs0⟩
  exact Nat.le_trans s7.2 (lng_ge q2 s4 s5 (hj.2.2.2.2.2.1 s5).1 q6)
