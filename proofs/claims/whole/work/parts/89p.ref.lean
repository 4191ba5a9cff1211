/-! PURE: the reference is the machine. -/
def raw (μ : ks_S) : Nat → Nat → Int32 := fun k s => μ k 0 0 s
theorem cho_loop (N : Nat) (μ : ks_S) {c : Nat} (hc : c < 4) : ∀ m n i, i + m = 16 → m < n → ∃ k, f_X5_choose_20 N n (ks_up μ 39 0 0 c (aTopL (raw μ) (raw μ) c i)) (nI c) (nI i) = f_X5_choose_106 N k (ks_up μ 39 0 0 c (aTopL (raw μ) (raw μ) c 16)) (nI c) (if 0 ≤ aTopL (raw μ) (raw μ) c 16 then 1 else 0) (nI c) := by
  intro m
  induction m with
  | zero =>
    intro n i hi hn
    obtain ⟨n, rfl⟩ : ∃ n', n = n' + 1 := ⟨n - 1, by omega⟩
    obtain rfl : i = 16 := by omega
    refine ⟨f_X5_choose_20 N n, ?_⟩
    rw [f_X5_choose_20, if_pos e16, if_pos (i4 hc), cl (by omega), ks_up_hit]
    split <;> rfl
  | succ m ih =>
    intro n i hi hn
    obtain ⟨n, rfl⟩ : ∃ n', n = n' + 1 := ⟨n - 1, by omega⟩
    have hi16 : i < 16 := by omega
    have hT := topL_spec (raw μ) (raw μ) c i (by omega)
    obtain ⟨k, hk⟩ := ih n (i + 1) (by omega) (by omega)
    refine ⟨k, ?_⟩
    rw [← hk]
    clear hk ih
    have u26 : ∀ v, ks_up μ 39 0 0 c v 26 0 0 i = μ 26 0 0 i := fun v => by simp [ks_up_at]
    have u15 : ∀ v, ks_up μ 39 0 0 c v 15 0 0 i = μ 15 0 0 i := fun v => by simp [ks_up_at]
    have u16 : ∀ v j, ks_up μ 39 0 0 c v 16 0 0 j = μ 16 0 0 j := fun v j => by simp [ks_up_at]
    rw [f_X5_choose_20, if_neg (z16 hi16), if_pos (i16 hi16), cl (i := i) (by omega), u26, aTopL, nI_1]
    by_cases h0 : μ 26 0 0 i = 0
    · rw [if_pos h0, if_pos (show raw μ 26 i = 0 from h0)]
    · rw [if_neg h0, if_neg (show ¬ raw μ 26 i = 0 from h0), if_pos (i16 hi16), u15]
      by_cases h1 : μ 15 0 0 i = nI c
      · rw [if_pos h1, if_pos (show raw μ 15 i = nI c from h1), if_pos (i4 hc), cl (i := c) (by omega), ks_up_hit]
        rcases hT with ⟨t1, _⟩ | ⟨t, t1, t2, _⟩
        · rw [t1, if_pos (show (-1 : Int32) < 0 by decide), if_pos (i4 hc), ks_up_up, if_pos (show (-1 : Int32) < 0 by decide)]
        · rw [t2, if_neg (nI_pos (by omega)), if_pos (i16 hi16), if_pos (i4 hc), if_pos (i16 (by omega)), if_neg (nI_pos (by omega)), u16, u16, cl (i := t) (by omega)]
          by_cases h2 : μ 16 0 0 i ≤ μ 16 0 0 t
          · rw [if_pos h2, if_pos (show raw μ 16 i ≤ raw μ 16 t from h2)]
          · rw [if_neg h2, if_neg (show ¬ raw μ 16 i ≤ raw μ 16 t from h2), if_pos (i4 hc), ks_up_up]
      · rw [if_neg h1, if_neg (show ¬ raw μ 15 i = nI c from h1)]
