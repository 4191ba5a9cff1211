/-! PURE: the reference is the machine. -/
/-- what is laid down, and what goes on, as the reference has them -/
def sD (μ : ks_S) : Nat → Nat → Int32 := fun k s => if 15 ≤ k ∧ k ≤ 25 then μ k 0 0 s else 0
def inr (D : Nat → Nat → Int32) (k s : Nat) : Bool := if k = 14 then decide (s = 13) else if k = 45 then decide (s = 0) else if k = 33 ∨ k = 34 ∨ k = 38 then decide (s < 96 ∧ s % 6 < cn D (s / 6)) else if 26 ≤ k ∧ k ≤ 37 then decide (s < 16) else if 39 ≤ k ∧ k ≤ 42 then decide (s < 4) else if k = 43 then decide (s < 32) else if k = 44 then decide (s < 8) else false
def dA (μ : ks_S) : Nat → Nat → Int32 := fun k s => if inr (sD μ) k s = true then (if k = 45 then μ 14 0 0 27 else μ k 0 0 s) else 0
theorem sD_up {μ : ks_S} {k i j z : Nat} {v : Int32} (h : ¬ (15 ≤ k ∧ k ≤ 25)) : sD (ks_up μ k i j z v) = sD μ := by
  funext k' s
  unfold sD
  by_cases e : 15 ≤ k' ∧ k' ≤ 25
  · rw [if_pos e, if_pos e, ks_up_at, if_neg]
    rintro ⟨e2, _⟩
    omega
  · rw [if_neg e, if_neg e]
theorem dA_up {μ : ks_S} {k s : Nat} {v : Int32} (h1 : 26 ≤ k) (h2 : k ≤ 44) (hin : inr (sD μ) k s = true) : dA (ks_up μ k 0 0 s v) = au (dA μ) k s v := by
  funext k' s'
  unfold dA au
  rw [sD_up (by omega)]
  by_cases e : k' = k ∧ s' = s
  · obtain ⟨rfl, rfl⟩ := e
    rw [if_pos hin, if_neg (by omega), ks_up_at, if_pos ⟨rfl, rfl, rfl, rfl⟩, if_pos ⟨rfl, rfl⟩]
  · rw [if_neg e]
    dsimp only
    by_cases e2 : inr (sD μ) k' s' = true
    · rw [if_pos e2, if_pos e2]
      have g1 : ks_up μ k 0 0 s v 14 0 0 27 = μ 14 0 0 27 := by
        rw [ks_up_at, if_neg]
        rintro ⟨q, _⟩
        omega
      have g2 : ks_up μ k 0 0 s v k' 0 0 s' = μ k' 0 0 s' := by
        rw [ks_up_at, if_neg]
        rintro ⟨q1, _, _, q2⟩
        exact e ⟨q1, q2⟩
      rw [g1, g2]
    · rw [if_neg e2, if_neg e2]
theorem dA_in {μ : ks_S} {k s : Nat} (h : inr (sD μ) k s = true) (hk : k ≠ 45) : dA μ k s = μ k 0 0 s := by
  unfold dA
  rw [if_pos h, if_neg hk]
theorem cho_loop (N : Nat) (μ : ks_S) (D A : Nat → Nat → Int32) {c : Nat} (hc : c < 4) (h26 : ∀ i, i < 16 → A 26 i = μ 26 0 0 i) (h15 : ∀ i, i < 16 → D 15 i = μ 15 0 0 i) (h16 : ∀ i, i < 16 → D 16 i = μ 16 0 0 i) : ∀ m n i, i + m = 16 → m < n → ∃ k, f_X5_choose_20 N n (ks_up μ 39 0 0 c (aTopL D A c i)) (nI c) (nI i) = f_X5_choose_106 N k (ks_up μ 39 0 0 c (aTopL D A c 16)) (nI c) (if 0 ≤ aTopL D A c 16 then 1 else 0) (nI c) := by
  intro m
  induction m with
  | zero =>
    intro n i hi hn
    obtain ⟨n, rfl⟩ : ∃ n', n = n' + 1 := ⟨n - 1, by omega⟩
    obtain rfl : i = 16 := by omega
    refine ⟨f_X5_choose_20 N n, ?_⟩
    rw [f_X5_choose_20, if_pos e16, if_pos (i4 hc), cl (by omega), ks_up_hit]
    split <;> rfl
  | succ m ih =>
    intro n i hi hn
    obtain ⟨n, rfl⟩ : ∃ n', n = n' + 1 := ⟨n - 1, by omega⟩
    have hi16 : i < 16 := by omega
    have hT := topL_spec D A c i (by omega)
    obtain ⟨k, hk⟩ := ih n (i + 1) (by omega) (by omega)
    refine ⟨k, ?_⟩
    rw [← hk]
    clear hk ih
    have u26 : ∀ v, ks_up μ 39 0 0 c v 26 0 0 i = μ 26 0 0 i := fun v => by simp [ks_up_at]
    have u15 : ∀ v, ks_up μ 39 0 0 c v 15 0 0 i = μ 15 0 0 i := fun v => by simp [ks_up_at]
    have u16 : ∀ v j, ks_up μ 39 0 0 c v 16 0 0 j = μ 16 0 0 j := fun v j => by simp [ks_up_at]
    rw [f_X5_choose_20, if_neg (z16 hi16), if_pos (i16 hi16), cl (i := i) (by omega), u26, aTopL, nI_1]
    by_cases h0 : μ 26 0 0 i = 0
    · rw [if_pos h0, if_pos ((h26 i hi16).trans h0)]
    · rw [if_neg h0, if_neg (fun q => h0 ((h26 i hi16).symm.trans q)), if_pos (i16 hi16), u15]
      by_cases h1 : μ 15 0 0 i = nI c
      · rw [if_pos h1, if_pos ((h15 i hi16).trans h1), if_pos (i4 hc), cl (i := c) (by omega), ks_up_hit]
        rcases hT with ⟨t1, _⟩ | ⟨t, t1, t2, _⟩
        · rw [t1, if_pos (show (-1 : Int32) < 0 by decide), if_pos (i4 hc), ks_up_up, if_pos (show (-1 : Int32) < 0 by decide)]
        · rw [t2, if_neg (nI_pos (by omega)), if_pos (i16 hi16), if_pos (i4 hc), if_pos (i16 (by omega)), if_neg (nI_pos (by omega)), u16, u16, cl (i := t) (by omega), h16 i hi16, h16 t (by omega)]
          by_cases h2 : μ 16 0 0 i ≤ μ 16 0 0 t
          · rw [if_pos h2, if_pos h2]
          · rw [if_neg h2, if_neg h2, if_pos (i4 hc), ks_up_up]
      · rw [if_neg h1, if_neg (fun q => h1 ((h15 i hi16).symm.trans q))]
