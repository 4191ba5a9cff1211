/-! PURE: the window in which a task's jobs get done. -/
theorem sm_delta {n i x : Nat} (h : i < n) : sm (fun j => if j = i then x else 0) n = x := by
  induction n with
  | zero => omega
  | succ n ih =>
    rw [sm]
    by_cases h1 : i = n
    · subst h1
      have h2 : sm (fun j => if j = i then x else 0) i = sm (fun _ => 0) i := sm_congr (fun j hj => if_neg (by omega))
      have h3 : ∀ m, sm (fun _ => 0) m = 0 := fun m => by
        induction m with
        | zero => rfl
        | succ m ihm => rw [sm, ihm]
      rw [h2, h3, if_pos rfl]
      omega
    · rw [ih (by omega), if_neg (by omega)]
      omega
theorem win_cnt {n T R : Nat} (hT : 1 ≤ T) (h : n = 0 ∨ (n - 1) * T < R) : n ≤ (R + T - 1) / T := by
  rw [Nat.le_div_iff_mul_le (by omega)]
  rcases h with rfl | h
  · omega
  · cases n with
    | zero => omega
    | succ n =>
      rw [Nat.succ_mul]
      have h2 : n * T < R := h
      omega
theorem win_sum {hp : Nat → Bool} {i : Nat} (hi : i < 16) {n C T : Nat → Nat} {R B : Nat} (hR : R = B + C i + sm (fun j => if hp j = true then (R + T j - 1) / T j * C j else 0) 16) (hRT : R ≤ T i) (hT : ∀ j, j < 16 → hp j = true ∨ j = i → 1 ≤ T j) (hn : ∀ j, j < 16 → hp j = true ∨ j = i → n j = 0 ∨ (n j - 1) * T j < R) (hii : hp i = false) : B + sm (fun j => if hp j = true ∨ j = i then n j * C j else 0) 16 ≤ R := by
  have h1 : sm (fun j => if hp j = true ∨ j = i then n j * C j else 0) 16 ≤ sm (fun j => (if hp j = true then (R + T j - 1) / T j * C j else 0) + (if j = i then C i else 0)) 16 := by
    refine sm_mono (fun j hj => ?_)
    by_cases e : j = i
    · subst e
      rw [if_pos (Or.inr rfl), if_neg (by rw [hii]; decide), if_pos rfl, Nat.zero_add]
      have h2 : n j ≤ 1 := by
        rcases hn j hj (Or.inr rfl) with h | h
        · omega
        · have h3 := hT j hj (Or.inr rfl)
          have h4 : (n j - 1) * T j < 1 * T j := by omega
          have h5 := Nat.lt_of_mul_lt_mul_right h4
          omega
      calc n j * C j ≤ 1 * C j := Nat.mul_le_mul_right _ h2
        _ = C j := Nat.one_mul _
    · by_cases e2 : hp j = true
      · rw [if_pos (Or.inl e2), if_pos e2, if_neg e, Nat.add_zero]
        exact Nat.mul_le_mul_right _ (win_cnt (hT j hj (Or.inl e2)) (hn j hj (Or.inl e2)))
      · rw [if_neg (fun h => h.elim e2 e)]
        exact Nat.zero_le _
  rw [sm_add, sm_delta hi] at h1
  omega
