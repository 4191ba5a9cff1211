def pHoldL (μ : ks_S) : Nat → ks_S
  | 0 => μ
  | n + 1 => if pHoldL μ n 44 0 0 n ≤ 0 then pHoldL μ n else ks_up (pHoldL μ n) 40 0 0 (pHoldL μ n 43 0 0 (4 * n)).toNatClampNeg 3
theorem pHoldL_k {μ : ks_S} {k : Nat} (hk : k ≠ 40) : ∀ n i j s, pHoldL μ n k i j s = μ k i j s := by
  intro n
  induction n with
  | zero => intro i j s; rfl
  | succ n ih =>
    intro i j s
    rw [pHoldL]
    split
    · exact ih i j s
    · rw [ks_up_at, if_neg (fun q => hk q.1), ih]
theorem hold_loop (N : Nat) (μ : ks_S) (k41 : ks_S → Int32 → Int32 → Int32 → Option (Int32 × ks_S)) (k49 : ks_S → Int32 → Int32 → Int32 → Int32 → Option (Int32 × ks_S)) (x1 x2 x3 : Int32) (hrow : ∀ g, g < 8 → ¬ μ 44 0 0 g ≤ 0 → ∃ c, c < 4 ∧ μ 43 0 0 (4 * g) = nI c) : ∀ m n g, g + m = 8 → m < n → ∃ k, f_X5_tick_70 N k41 k49 n (pHoldL μ g) x1 x2 x3 (nI g) = f_X5_tick_111 N k41 k49 k N (pHoldL μ 8) x1 x2 x3 0 := by
  intro m
  induction m with
  | zero =>
    intro n g hg hn
    obtain ⟨n, rfl⟩ : ∃ n', n = n' + 1 := ⟨n - 1, by omega⟩
    obtain rfl : g = 8 := by omega
    exact ⟨f_X5_tick_70 N k41 k49 n, by rw [f_X5_tick_70, if_pos e8]⟩
  | succ m ih =>
    intro n g hg hn
    obtain ⟨n, rfl⟩ : ∃ n', n = n' + 1 := ⟨n - 1, by omega⟩
    have hg8 : g < 8 := by omega
    obtain ⟨k, hk⟩ := ih n (g + 1) (by omega) (by omega)
    refine ⟨k, ?_⟩
    rw [← hk, f_X5_tick_70, if_neg (z8 hg8), if_pos (i8 hg8), cl (i := g) (by omega), pHoldL, nI_1]
    by_cases h0 : pHoldL μ g 44 0 0 g ≤ 0
    · rw [if_pos h0, if_pos h0]
    · rw [if_neg h0, if_neg h0, nI_4, if_pos (i32 (by omega)), cl (i := 4 * g) (by omega), pHoldL_k (k := 43) (by decide)]
      obtain ⟨c, c1, c2⟩ := hrow g hg8 (by rw [pHoldL_k (k := 44) (by decide)] at h0; exact h0)
      rw [c2, if_pos (i4 c1)]
