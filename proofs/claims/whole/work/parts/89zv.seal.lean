/-! PURE: forget, seal. -/
def w12 (σ : ks_S) (n : Nat) : ks_S := fun k i j z => if (k = 26 ∨ k = 27 ∨ k = 35 ∨ k = 36 ∨ k = 37) ∧ i = 0 ∧ j = 0 ∧ z < n then 0 else σ k i j z
def w61 (σ : ks_S) (n : Nat) : ks_S := fun k i j z => if k = 38 ∧ i = 0 ∧ j = 0 ∧ z < n then 0 else if k = 34 ∧ i = 0 ∧ j = 0 ∧ z < n then σ 23 0 0 z else σ k i j z
def w94 (σ : ks_S) (n : Nat) : ks_S := fun k i j z => if (k = 39 ∨ k = 41) ∧ i = 0 ∧ j = 0 ∧ z < n then -1 else if (k = 40 ∨ k = 42) ∧ i = 0 ∧ j = 0 ∧ z < n then 0 else σ k i j z
def w135 (σ : ks_S) (n : Nat) : ks_S := fun k i j z => if k = 44 ∧ i = 0 ∧ j = 0 ∧ z < n then 0 else σ k i j z
def fgt (σ : ks_S) : ks_S := w135 (w94 (w61 (w12 (ks_up (ks_up σ 14 0 0 13 0) 14 0 0 27 0) 16) 96) 4) 8
theorem loop135 {N : Nat} {σ : ks_S} {k12 k61 k94 : ks_S → Int32 → Option ks_S} : ∀ m n i, i + m = 8 → m < n → f_X5_forget_135 N k12 k61 k94 n (w135 σ i) (nI i) = some (w135 σ 8) := by
  intro m
  induction m with
  | zero =>
    intro n i hi hn
    obtain ⟨n, rfl⟩ : ∃ n', n = n' + 1 := ⟨n - 1, by omega⟩
    obtain rfl : i = 8 := by omega
    rw [f_X5_forget_135, if_pos e8]
  | succ m ih =>
    intro n i hi hn
    obtain ⟨n, rfl⟩ : ∃ n', n = n' + 1 := ⟨n - 1, by omega⟩
    have hi8 : i < 8 := by omega
    rw [f_X5_forget_135, if_neg (z8 hi8), if_pos (i8 hi8), cl (by omega), nI_1]
    have e : ks_up (w135 σ i) 44 0 0 i 0 = w135 σ (i + 1) := by
      funext k a b z
      rw [ks_up_at]
      unfold w135
      by_cases q : k = 44 ∧ a = 0 ∧ b = 0 ∧ z = i
      · rw [if_pos q, if_pos (by omega)]
      · rw [if_neg q]
        by_cases q2 : k = 44 ∧ a = 0 ∧ b = 0 ∧ z < i
        · rw [if_pos q2, if_pos (by omega)]
        · rw [if_neg q2, if_neg (by omega)]
    rw [e]
    exact ih n (i + 1) (by omega) (by omega)
theorem loop94 {N : Nat} {σ : ks_S} {k12 k61 : ks_S → Int32 → Option ks_S} : ∀ m n i, i + m = 4 → m < n → ∃ k94, f_X5_forget_94 N k12 k61 n (w94 σ i) (nI i) = f_X5_forget_135 N k12 k61 k94 N (w94 σ 4) 0 := by
  intro m
  induction m with
  | zero =>
    intro n i hi hn
    obtain ⟨n, rfl⟩ : ∃ n', n = n' + 1 := ⟨n - 1, by omega⟩
    obtain rfl : i = 4 := by omega
    exact ⟨_, by rw [f_X5_forget_94, if_pos e4]⟩
  | succ m ih =>
    intro n i hi hn
    obtain ⟨n, rfl⟩ : ∃ n', n = n' + 1 := ⟨n - 1, by omega⟩
    have hi4 : i < 4 := by omega
    obtain ⟨k, hk⟩ := ih n (i + 1) (by omega) (by omega)
    refine ⟨k, ?_⟩
    rw [f_X5_forget_94, if_neg (z4 hi4), ← hk]
    simp only [i4 hi4, ↓reduceIte, cl (i := i) (show i < 96 by omega), nI_1]
    have e : ks_up (ks_up (ks_up (ks_up (w94 σ i) 39 0 0 i (-1)) 40 0 0 i 0) 41 0 0 i (-1)) 42 0 0 i 0 = w94 σ (i + 1) := by
      funext k a b z
      simp only [ks_up_at]
      unfold w94
      by_cases hz : a = 0 ∧ b = 0 ∧ z = i
      · obtain ⟨rfl, rfl, rfl⟩ := hz
        by_cases k39 : k = 39
        · subst k39; simp
        · by_cases k40 : k = 40
          · subst k40; simp
          · by_cases k41 : k = 41
            · subst k41; simp
            · by_cases k42 : k = 42
              · subst k42; simp
              · simp [k39, k40, k41, k42]
      · have h1 : ∀ c, ¬ (k = c ∧ a = 0 ∧ b = 0 ∧ z = i) := fun c w => hz w.2
        rw [if_neg (h1 42), if_neg (h1 41), if_neg (h1 40), if_neg (h1 39)]
        by_cases q1 : (k = 39 ∨ k = 41) ∧ a = 0 ∧ b = 0 ∧ z < i
        · rw [if_pos q1, if_pos (by omega)]
        · rw [if_neg q1, if_neg (show ¬ ((k = 39 ∨ k = 41) ∧ a = 0 ∧ b = 0 ∧ z < i + 1) by omega)]
          by_cases q2 : (k = 40 ∨ k = 42) ∧ a = 0 ∧ b = 0 ∧ z < i
          · rw [if_pos q2, if_pos (by omega)]
          · rw [if_neg q2, if_neg (by omega)]
    rw [e]
theorem loop61 {N : Nat} {σ : ks_S} {k12 : ks_S → Int32 → Option ks_S} : ∀ m n i, i + m = 96 → m < n → ∃ k61, f_X5_forget_61 N k12 n (w61 σ i) (nI i) = f_X5_forget_94 N k12 k61 N (w61 σ 96) 0 := by
  intro m
  induction m with
  | zero =>
    intro n i hi hn
    obtain ⟨n, rfl⟩ : ∃ n', n = n' + 1 := ⟨n - 1, by omega⟩
    obtain rfl : i = 96 := by omega
    exact ⟨_, by rw [f_X5_forget_61, if_pos e96]⟩
  | succ m ih =>
    intro n i hi hn
    obtain ⟨n, rfl⟩ : ∃ n', n = n' + 1 := ⟨n - 1, by omega⟩
    have hi96 : i < 96 := by omega
    obtain ⟨k, hk⟩ := ih n (i + 1) (by omega) (by omega)
    refine ⟨k, ?_⟩
    have e23 : ks_up (w61 σ i) 38 0 0 i 0 23 0 0 i = σ 23 0 0 i := by
      rw [ks_up_at, if_neg (by omega)]
      unfold w61
      rw [if_neg (by omega), if_neg (by omega)]
    rw [f_X5_forget_61, if_neg (z96 hi96), ← hk]
    simp only [i96 hi96, ↓reduceIte, cl (i := i) hi96, nI_1]
    rw [e23]
    have e : ks_up (ks_up (w61 σ i) 38 0 0 i 0) 34 0 0 i (σ 23 0 0 i) = w61 σ (i + 1) := by
      funext k a b z
      simp only [ks_up_at]
      unfold w61
      by_cases hz : a = 0 ∧ b = 0 ∧ z = i
      · obtain ⟨rfl, rfl, rfl⟩ := hz
        by_cases k38 : k = 38
        · subst k38; simp
        · by_cases k34 : k = 34
          · subst k34; simp
          · simp [k38, k34]
      · have h1 : ∀ c, ¬ (k = c ∧ a = 0 ∧ b = 0 ∧ z = i) := fun c w => hz w.2
        rw [if_neg (h1 34), if_neg (h1 38)]
        by_cases q1 : k = 38 ∧ a = 0 ∧ b = 0 ∧ z < i
        · rw [if_pos q1, if_pos (by omega)]
        · rw [if_neg q1, if_neg (show ¬ (k = 38 ∧ a = 0 ∧ b = 0 ∧ z < i + 1) by omega)]
          by_cases q2 : k = 34 ∧ a = 0 ∧ b = 0 ∧ z < i
          · rw [if_pos q2, if_pos (by omega)]
          · rw [if_neg q2, if_neg (by omega)]
    rw [e]
theorem loop12 {N : Nat} {σ : ks_S} : ∀ m n i, i + m = 16 → m < n → ∃ k12, f_X5_forget_12 N n (w12 σ i) (nI i) = f_X5_forget_61 N k12 N (w12 σ 16) 0 := by
  intro m
  induction m with
  | zero =>
    intro n i hi hn
    obtain ⟨n, rfl⟩ : ∃ n', n = n' + 1 := ⟨n - 1, by omega⟩
    obtain rfl : i = 16 := by omega
    exact ⟨_, by rw [f_X5_forget_12, if_pos e16]⟩
  | succ m ih =>
    intro n i hi hn
    obtain ⟨n, rfl⟩ : ∃ n', n = n' + 1 := ⟨n - 1, by omega⟩
    have hi16 : i < 16 := by omega
    obtain ⟨k, hk⟩ := ih n (i + 1) (by omega) (by omega)
    refine ⟨k, ?_⟩
    rw [f_X5_forget_12, if_neg (z16 hi16), ← hk]
    simp only [i16 hi16, ↓reduceIte, cl (i := i) (show i < 96 by omega), nI_1]
    have e : ks_up (ks_up (ks_up (ks_up (ks_up (w12 σ i) 26 0 0 i 0) 27 0 0 i 0) 35 0 0 i 0) 36 0 0 i 0) 37 0 0 i 0 = w12 σ (i + 1) := by
      funext k a b z
      simp only [ks_up_at]
      unfold w12
      by_cases hz : a = 0 ∧ b = 0 ∧ z = i
      · obtain ⟨rfl, rfl, rfl⟩ := hz
        by_cases q : k = 26 ∨ k = 27 ∨ k = 35 ∨ k = 36 ∨ k = 37
        · rw [if_pos (show (k = 26 ∨ k = 27 ∨ k = 35 ∨ k = 36 ∨ k = 37) ∧ 0 = 0 ∧ 0 = 0 ∧ z < z + 1 from ⟨q, rfl, rfl, by omega⟩)]
          rcases q with rfl | rfl | rfl | rfl | rfl <;> simp
        · have : k ≠ 26 ∧ k ≠ 27 ∧ k ≠ 35 ∧ k ≠ 36 ∧ k ≠ 37 := by omega
          simp [this]
      · have h1 : ∀ c, ¬ (k = c ∧ a = 0 ∧ b = 0 ∧ z = i) := fun c w => hz w.2
        rw [if_neg (h1 37), if_neg (h1 36), if_neg (h1 35), if_neg (h1 27), if_neg (h1 26)]
        by_cases q1 : (k = 26 ∨ k = 27 ∨ k = 35 ∨ k = 36 ∨ k = 37) ∧ a = 0 ∧ b = 0 ∧ z < i
        · rw [if_pos q1, if_pos (by omega)]
        · rw [if_neg q1, if_neg (by omega)]
    rw [e]
theorem ref_forget {N : Nat} (hN : 100 < N) (σ : ks_S) : f_X5_forget N σ = some (fgt σ) := by
  unfold f_X5_forget fgt
  generalize ks_up (ks_up σ 14 0 0 13 0) 14 0 0 27 0 = σ1
  have z12 : w12 σ1 0 = σ1 := by
    funext k a b z
    unfold w12
    rw [if_neg (by omega)]
  obtain ⟨k12, h12⟩ := loop12 (N := N) (σ := σ1) 16 N 0 rfl (by omega)
  rw [z12] at h12
  have h12 : f_X5_forget_12 N N σ1 0 = _ := h12
  rw [h12]
  generalize w12 σ1 16 = σ2
  have z61 : w61 σ2 0 = σ2 := by
    funext k a b z
    unfold w61
    rw [if_neg (by omega), if_neg (by omega)]
  obtain ⟨k61, h61⟩ := loop61 (N := N) (σ := σ2) (k12 := k12) 96 N 0 rfl (by omega)
  rw [z61] at h61
  have h61 : f_X5_forget_61 N k12 N σ2 0 = _ := h61
  rw [h61]
  generalize w61 σ2 96 = σ3
  have z94 : w94 σ3 0 = σ3 := by
    funext k a b z
    unfold w94
    rw [if_neg (by omega), if_neg (by omega)]
  obtain ⟨k94, h94⟩ := loop94 (N := N) (σ := σ3) (k12 := k12) (k61 := k61) 4 N 0 rfl (by omega)
  rw [z94] at h94
  have h94 : f_X5_forget_94 N k12 k61 N σ3 0 = _ := h94
  rw [h94]
  generalize w94 σ3 4 = σ4
  have z135 : w135 σ4 0 = σ4 := by
    funext k a b z
    unfold w135
    rw [if_neg (by omega)]
  have h135 := loop135 (N := N) (σ := σ4) (k12 := k12) (k61 := k61) (k94 := k94) 8 N 0 rfl (by omega)
  rw [z135] at h135
  exact h135
/-- what forget leaves and what it writes -/
theorem fgt_k (σ : ks_S) {k : Nat} (h : k ≠ 14 ∧ k ≠ 26 ∧ k ≠ 27 ∧ k ≠ 34 ∧ k ≠ 35 ∧ k ≠ 36 ∧ k ≠ 37 ∧ k ≠ 38 ∧ k ≠ 39 ∧ k ≠ 40 ∧ k ≠ 41 ∧ k ≠ 42 ∧ k ≠ 44) : fgt σ k = σ k := by
  funext i j z
  unfold fgt w135 w94 w61 w12
  rw [if_neg (by omega), if_neg (by omega), if_neg (by omega), if_neg (by omega), if_neg (by omega), if_neg (by omega), ks_up_at, if_neg (by omega), ks_up_at, if_neg (by omega)]
theorem fgt_14 (σ : ks_S) {z : Nat} : fgt σ 14 0 0 z = if z = 27 then 0 else if z = 13 then 0 else σ 14 0 0 z := by
  unfold fgt w135 w94 w61 w12
  rw [if_neg (by omega), if_neg (by omega), if_neg (by omega), if_neg (by omega), if_neg (by omega), if_neg (by omega), ks_up_at, ks_up_at]
  simp
theorem fgt_0 (σ : ks_S) {k z : Nat} (h : ((k = 26 ∨ k = 27 ∨ k = 35 ∨ k = 36 ∨ k = 37) ∧ z < 16) ∨ (k = 38 ∧ z < 96) ∨ ((k = 40 ∨ k = 42) ∧ z < 4) ∨ (k = 44 ∧ z < 8)) : fgt σ k 0 0 z = 0 := by
  unfold fgt w135 w94 w61 w12
  rcases h with ⟨h1, h2⟩ | ⟨h1, h2⟩ | ⟨h1, h2⟩ | ⟨h1, h2⟩
  · rw [if_neg (by omega), if_neg (by omega), if_neg (by omega), if_neg (by omega), if_neg (by omega), if_pos ⟨h1, rfl, rfl, h2⟩]
  · rw [if_neg (by omega), if_neg (by omega), if_neg (by omega), if_pos ⟨h1, rfl, rfl, h2⟩]
  · rw [if_neg (by omega), if_neg (by omega), if_pos ⟨h1, rfl, rfl, h2⟩]
  · rw [if_pos ⟨h1, rfl, rfl, h2⟩]
theorem fgt_1 (σ : ks_S) {k z : Nat} (h : (k = 39 ∨ k = 41) ∧ z < 4) : fgt σ k 0 0 z = -1 := by
  unfold fgt w135 w94
  rw [if_neg (by omega), if_pos ⟨h.1, rfl, rfl, h.2⟩]
theorem fgt_34 (σ : ks_S) {z : Nat} (h : z < 96) : fgt σ 34 0 0 z = σ 23 0 0 z := by
  unfold fgt w135 w94 w61
  rw [if_neg (by omega), if_neg (by omega), if_neg (by omega), if_neg (by omega), if_pos ⟨rfl, rfl, rfl, h⟩]
  unfold w12
  rw [if_neg (by omega), ks_up_at, if_neg (by omega), ks_up_at, if_neg (by omega)]
theorem sD_fgt (σ : ks_S) : sD (fgt σ) = sD σ := by
  funext k s
  unfold sD
  by_cases e : 15 ≤ k ∧ k ≤ 25
  · rw [if_pos e, if_pos e, fgt_k σ (by omega)]
  · rw [if_neg e, if_neg e]
/-- a fresh start: what is sealed just now -/
theorem SE_start {w : Nat} {s : ks_S} (hST : ST (sD s)) (hC : CSt (sD s) s) (hG : CGr (sD s) s) (hSG : SG (sD s)) (hSR : SR (sD s)) (hU : UN s) (h34 : ∀ z, z < 96 → s 34 0 0 z = s 23 0 0 z) : SE w s := by
  obtain ⟨⟨u1, u2, u3⟩, v1, v2, v3, v4, v5⟩ := hU
  have d16 : ∀ k t, 26 ≤ k → k ≤ 37 → k ≠ 33 → k ≠ 34 → t < 16 → dA s k t = s k 0 0 t := fun k t a b c d e => dA_in (inr16 a b c d e) (by omega)
  have d4 : ∀ k c, 39 ≤ k → k ≤ 42 → c < 4 → dA s k c = s k 0 0 c := fun k c a b e => dA_in (inr4 a b e) (by omega)
  have dn : dA s 14 13 = nI 0 := by rw [dA_in inr14 (by decide), u2]; rfl
  have d44 : ∀ g, g < 8 → dA s 44 g = nI 0 := fun g hg => by rw [dA_in (inr44 hg) (by decide), (v3 g hg).2]; rfl
  have d40 : ∀ c, c < 4 → dA s 40 c = nI 0 := fun c hc => by rw [d4 40 c (by decide) (by decide) hc, (v2 c hc).2.2.2.1]; rfl
  have d26 : ∀ t, t < 16 → dA s 26 t = 0 := fun t ht => by rw [d16 26 t (by decide) (by decide) (by decide) (by decide) ht]; exact (v1 t ht).2.2.2.2.2.2.2.1
  have d27 : ∀ t, t < 16 → dA s 27 t = 0 := fun t ht => by rw [d16 27 t (by decide) (by decide) (by decide) (by decide) ht]; exact (v1 t ht).2.2.2.2.2.2.2.2.1
  have n40 : ∀ c, c < 4 → nn (dA s) 40 c = 0 := fun c hc => nn_nI (d40 c hc) (by decide)
  have nnow : nn (dA s) 14 13 = 0 := nn_nI dn (by decide)
  have hPH : PH (sD s) (dA s) (fun _ => 0) (fun _ => nn (dA s) 14 13) (fun _ => nn (dA s) 14 13) := by
    refine ⟨fun t ht ho => absurd (d26 t ht) ho, fun c hc => ⟨(ok_nI (d40 c hc) (by omega) (by decide)).1, fun q => by rw [n40 c hc] at q; omega⟩, fun g hg => ⟨(ok_nI (d44 g hg) (by omega) (by decide)).1, fun k hk => ?_, fun k q hk => ?_⟩, fun i hi _ hw => ?_⟩
    · rw [nn_nI (d44 g hg) (by decide)] at hk; omega
    · rw [nn_nI (d44 g hg) (by decide)] at hk; omega
    · obtain ⟨j, j1, _, j3⟩ := hw
      exact absurd (d26 j j1) j3
  refine ⟨hG, hSR, ⟨hST, hSG, ⟨fun _ => 0, hPH, fun c t hc q => by rw [n40 c hc] at q; omega⟩, by rw [nnow]; exact dn, fun t ht q => absurd (d27 t ht) q⟩, ?_, ?_, ?_, ?_, ?_, ?_⟩
  · refine ⟨fun t ht => ?_, fun t r ht hr => ?_, fun c hc => ?_, ⟨fun c hc => ?_, fun t ht => ?_⟩, fun g hg => ?_, ?_, fun t r ht hr _ => v4 t r ht hr⟩
    · obtain ⟨a0, a1, a2, a3, a4, a5, a6, a7, a8, a9, a10, a11, a12, a13, a14, a15, a16⟩ := v1 t ht
      have dd : ∀ k, 26 ≤ k → k ≤ 37 → k ≠ 33 → k ≠ 34 → dA s k t = s k 0 0 t := fun k a b c d => d16 k t a b c d ht
      rw [dd 26 (by decide) (by decide) (by decide) (by decide), dd 27 (by decide) (by decide) (by decide) (by decide), dd 28 (by decide) (by decide) (by decide) (by decide), dd 29 (by decide) (by decide) (by decide) (by decide), dd 30 (by decide) (by decide) (by decide) (by decide), dd 31 (by decide) (by decide) (by decide) (by decide), dd 32 (by decide) (by decide) (by decide) (by decide), dd 35 (by decide) (by decide) (by decide) (by decide), dd 36 (by decide) (by decide) (by decide) (by decide), dd 37 (by decide) (by decide) (by decide) (by decide)]
      exact ⟨by rw [a1, a7], by rw [a0, a8], a12, a13, a14, fun _ => a15, a16, by rw [a3, a9], by rw [a5, a10], by rw [a6, a11]⟩
    · have hcn6 : cn (sD s) t ≤ 6 := (cn6 hST ht).2
      refine ⟨fun q => absurd (d26 t ht) q, ?_, ?_⟩
      · rw [(v4 t r ht (by omega)).1, if_pos rfl, dA_in (inr96 (Or.inr (Or.inl rfl)) ht hr hcn6) (by decide), h34 _ (by omega)]
        rcases hC t ht with ⟨_, w⟩ | ⟨a0, a1, a2, a3, a4, a5, a6, a7, a8⟩
        · have := cn0 hST ht w
          omega
        · rw [(a8 r hr).2.2.1]
          exact (rs (by decide) (by decide)).symm
      · rw [(v4 t r ht (by omega)).2, dA_in (inr96 (Or.inr (Or.inr rfl)) ht hr hcn6) (by decide), v5 _ (by omega)]
    · obtain ⟨a1, a2, a3, a4, a5, a6⟩ := v2 c hc
      rw [d4 39 c (by decide) (by decide) hc, d4 42 c (by decide) (by decide) hc]
      exact ⟨by rw [a1, a3], by rw [a2, a6]⟩
    · obtain ⟨a1, a2, a3, a4, a5, a6⟩ := v2 c hc
      exact Or.inl ⟨by rw [d4 39 c (by decide) (by decide) hc]; exact a3, by rw [d4 40 c (by decide) (by decide) hc]; exact a4⟩
    · exact Or.inl (v1 t ht).2.2.1
    · refine ⟨by rw [(v3 g hg).1, d44 g hg]; rfl, fun i hi => ?_⟩
      rw [nn_nI (d44 g hg) (by decide)] at hi
      omega
    · unfold RB
      rw [← rd45 (RR_refl s), u3, sI_congr (g := fun _ => 0) (fun t ht => (v1 t ht).2.2.2.2.1)]
      decide
  · rw [u1, dn]; rfl
  · intro c hc
    obtain ⟨a1, a2, a3, a4, a5, a6⟩ := v2 c hc
    rw [d4 39 c (by decide) (by decide) hc, d4 41 c (by decide) (by decide) hc, a3, a5]
  · intro c t hc _ _ q
    rw [d40 c hc] at q
    exact absurd q (by decide)
  · rw [nnow]
    omega
  · intro t r ht hr
    have hcn6 : cn (sD s) t ≤ 6 := (cn6 hST ht).2
    obtain ⟨_, _, u3, u4, _⟩ := hST.2.1 t r ht hr
    have e : dA s 34 (6 * t + r) = sD s 23 (6 * t + r) := by
      rw [dA_in (inr96 (Or.inr (Or.inl rfl)) ht hr hcn6) (by decide), h34 _ (by omega)]
      exact rs (by decide) (by decide)
    have n : nn (dA s) 34 (6 * t + r) = ln (sD s) t r := nn_e e
    refine ⟨⟨by rw [n, e]; exact u3.1, by omega⟩, by omega⟩
