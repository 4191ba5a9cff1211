theorem ks_j0 {k i j : Nat} (h : ks_v k i j) (hk : ks_n2 k = 1) : j = 0 := by
  have h2 := h.2.2
  rw [hk] at h2
  omega
theorem ks_nar {x : Int32} (h : vp_nar .boolean x = x) : narrow .boolean (.int x) = .int x := by
  rw [show narrow .boolean (.int x) = .int (vp_nar .boolean x) from rfl, h]
