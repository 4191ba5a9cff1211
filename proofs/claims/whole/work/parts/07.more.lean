theorem ks_j0 {En : Nat → Prop} {k i j : Nat} (h : ks_v En k i j) (hk : ks_n2 k = 1) : j = 0 := by
  have h2 := h.2.2.1
  rw [hk] at h2
  omega
theorem ks_nar {x : Int32} (h : vp_nar .boolean x = x) : narrow .boolean (.int x) = .int x := by
  rw [show narrow .boolean (.int x) = .int (vp_nar .boolean x) from rfl, h]
theorem ks_hE9 {En : Nat → Prop} : ∀ k, ks_g k = 9 → En k := by
  intro k h
  unfold ks_g at h
  by_cases h1 : k < 14
  · rw [if_pos h1] at h; omega
  · rw [if_neg h1] at h
    by_cases h2 : k < 45
    · rw [if_pos h2] at h; omega
    · rw [if_neg h2] at h; omega
