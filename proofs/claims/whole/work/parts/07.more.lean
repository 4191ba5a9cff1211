theorem ks_j0 {k i j : Nat} (h : ks_v k i j) (hk : ks_n2 k = 1) : j = 0 := by
  have h2 := h.2.2
  rw [hk] at h2
  omega
