/-! PURE: blocking and response. -/
def bQ (D : Nat → Nat → Int32) (t : Nat) : Nat → Nat := fun r => if ou D t r = true then ln D t r + spn D t r - 1 else 0
def bS (D : Nat → Nat → Int32) (t : Nat) : Nat → Nat := fun r => if ou D t r = true then ln D t r + spn D t r else 0
def bF (D : Nat → Nat → Int32) (i : Nat) : Nat → Nat := fun t => if D 15 t = D 15 i ∧ nn D 16 t < nn D 16 i then mx (bQ D t) (cn D t) else 0
theorem blk_bF (D : Nat → Nat → Int32) (i : Nat) : blk D i = mx (bF D i) 16 := rfl
theorem bQ_bS {D : Nat → Nat → Int32} {t : Nat} (hST : ST D) (ht : t < 16) : ∀ r, r ≤ cn D t → mx (bQ D t) r = mx (bS D t) r - 1 ∧ mx (bS D t) r ≤ 500 := by
  intro r
  induction r with
  | zero => intro _; exact ⟨rfl, by rw [mx]; omega⟩
  | succ r ih =>
    intro hr
    obtain ⟨i1, i2⟩ := ih (by omega)
    have h1 := (hST.2.1 t r ht (by omega)).2.2.2.1
    have h2 := ln100 hST ht (show r < cn D t by omega)
    have h3 := spn400 (t := t) (r := r) hST
    have q1 : bQ D t r = if ou D t r = true then ln D t r + spn D t r - 1 else 0 := rfl
    have q2 : bS D t r = if ou D t r = true then ln D t r + spn D t r else 0 := rfl
    rw [mx, mx, i1, q1, q2]
    by_cases ho : ou D t r = true
    · rw [if_pos ho, if_pos ho]
      constructor
      · repeat' split
        all_goals omega
      · split <;> omega
    · rw [if_neg ho, if_neg ho]
      constructor
      · repeat' split
        all_goals omega
      · split <;> omega
theorem bF500 {D : Nat → Nat → Int32} {i t : Nat} (hST : ST D) (ht : t ≤ 16) : mx (bF D i) t ≤ 500 := mx_le (fun j hj => by
  unfold bF
  split
  · have := bQ_bS hST (show j < 16 by omega) (cn D j) (Nat.le_refl _)
    omega
  · omega)
theorem ref_blk {N : Nat} (hN : 16 < N) {μ : ks_S} {i : Nat} (hST : ST (sD μ)) (hSG : SG (sD μ)) (hi : i < 16) (hth : sD μ 15 i ≠ -1) : f_X5_blocking N μ (nI i) = some (nI (blk (sD μ) i), μ) := by
  obtain ⟨_, _, _, _, ki, _⟩ := core_of hST hi hth
  have loop1 : ∀ t, t < 16 → sD μ 15 t = sD μ 15 i → nn (sD μ) 16 t < nn (sD μ) 16 i → ∀ k4 m n r a, r + m = cn (sD μ) t → m < n → a ≤ 500 → f_X5_blocking_13 N k4 n μ (nI i) (nI (if a < mx (bQ (sD μ) t) r then mx (bQ (sD μ) t) r else a)) (nI t) (nI r) = k4 μ (nI i) (nI (if a < mx (bQ (sD μ) t) (cn (sD μ) t) then mx (bQ (sD μ) t) (cn (sD μ) t) else a)) (nI (t + 1)) := by
    intro t ht h15 h16 k4 m
    have hcn6 : cn (sD μ) t ≤ 6 := (cn6 hST ht).2
    have h20 : sD μ 20 t = nI (cn (sD μ) t) := (cn6 hST ht).1
    obtain ⟨_, _, _, _, kt, _⟩ := core_of hST ht (show sD μ 15 t ≠ -1 by rw [h15]; exact hth)
    induction m with
    | zero =>
      intro n r a hr hn ha
      obtain ⟨n, rfl⟩ : ∃ n', n = n' + 1 := ⟨n - 1, by omega⟩
      obtain rfl : r = cn (sD μ) t := by omega
      rw [f_X5_blocking_13, if_pos (i16 ht), cl (i := t) (by omega), rs (μ := μ) (k := 20) (by decide) (by decide), h20, if_pos (nI_le (Nat.le_refl _) (by omega)), nI_1]
    | succ m ih =>
      intro n r a hr hn ha
      obtain ⟨n, rfl⟩ : ∃ n', n = n' + 1 := ⟨n - 1, by omega⟩
      have hlt : r < cn (sD μ) t := by omega
      obtain ⟨u1, u2, u3, u4, u5⟩ := hST.2.1 t r ht hlt
      have hk := ih n (r + 1) a (by omega) (by omega) ha
      rw [mx] at hk
      have hb := bQ_bS hST ht r (by omega)
      have hln := ln100 hST ht hlt
      have hsp := spn400 (t := t) (r := r) hST
      have hle : ¬ sD μ 16 i ≤ sD μ 16 t := by
        rw [ok_le ki kt (by decide) (by decide)]
        omega
      rw [f_X5_blocking_13, if_pos (i16 ht), cl (i := t) (by omega), rs (μ := μ) (k := 20) (by decide) (by decide), h20, if_neg (nI_ge hlt (by omega)), if_pos (i16 ht), if_pos (i16 hi), cl (i := i) (by omega), rs (μ := μ) (k := 15) (by decide) (by decide), rs (μ := μ) (k := 15) (by decide) (by decide), if_pos h15, if_pos (i16 ht), if_pos (i16 hi), rs (μ := μ) (k := 16) (by decide) (by decide), rs (μ := μ) (k := 16) (by decide) (by decide), if_neg hle, ref_outer' (by omega), Option.bind_some]
      dsimp only
      by_cases ho : ou (sD μ) t r = true
      · have hQ : bQ (sD μ) t r = ln (sD μ) t r + spn (sD μ) t r - 1 := by unfold bQ; rw [if_pos ho]
        rw [hQ] at hk
        rw [if_pos ho, if_neg (by decide), nI_6, if_pos (i96 (by omega)), ref_spin hN hST hSG ht hlt, Option.bind_some]
        dsimp only
        obtain ⟨y, hy⟩ : ∃ y, ln (sD μ) t r + spn (sD μ) t r = y + 1 := ⟨ln (sD μ) t r + spn (sD μ) t r - 1, by omega⟩
        rw [hy, Nat.add_sub_cancel] at hk
        rw [cl (i := 6 * t + r) (by omega), rs (μ := μ) (k := 23) (by decide) (by decide), show sD μ 23 (6 * t + r) = nI (ln (sD μ) t r) from u3.1, nI_add, hy, nI_pred, nI_1]
        rw [← hk]
        generalize mx (bQ (sD μ) t) r = z at *
        by_cases q : y ≤ (if a < z then z else a)
        · rw [if_pos (nI_le q (by split <;> omega))]
          congr 2
          repeat' split
          all_goals (repeat' split at *)
          all_goals omega
        · rw [if_neg (nI_ge (by omega) (by omega))]
          congr 2
          repeat' split
          all_goals (repeat' split at *)
          all_goals omega
      · have hQ : bQ (sD μ) t r = 0 := by unfold bQ; rw [if_neg ho]
        rw [hQ, if_neg (show ¬ mx (bQ (sD μ) t) r < 0 by omega)] at hk
        rw [if_neg ho, if_pos rfl, if_pos (nI_pos' (by split <;> omega)), nI_1]
        exact hk
  have loop2 : ∀ m n t, t + m = 16 → m < n → f_X5_blocking_4 N n μ (nI i) (nI (mx (bF (sD μ) i) t)) (nI t) = some (nI (blk (sD μ) i), μ) := by
    intro m
    induction m with
    | zero =>
      intro n t ht hn
      obtain ⟨n, rfl⟩ : ∃ n', n = n' + 1 := ⟨n - 1, by omega⟩
      obtain rfl : t = 16 := by omega
      rw [f_X5_blocking_4, if_pos e16, blk_bF]
    | succ m ih =>
      intro n t ht hn
      obtain ⟨n, rfl⟩ : ∃ n', n = n' + 1 := ⟨n - 1, by omega⟩
      have ht16 : t < 16 := by omega
      have hcn6 : cn (sD μ) t ≤ 6 := (cn6 hST ht16).2
      have h20 : sD μ 20 t = nI (cn (sD μ) t) := (cn6 hST ht16).1
      have hk := ih n (t + 1) (by omega) (by omega)
      rw [mx] at hk
      have h500 := bF500 (i := i) hST (show t ≤ 16 by omega)
      rw [f_X5_blocking_4, if_neg (z16 ht16)]
      by_cases hq : sD μ 15 t = sD μ 15 i ∧ nn (sD μ) 16 t < nn (sD μ) 16 i
      · have hf : bF (sD μ) i t = mx (bQ (sD μ) t) (cn (sD μ) t) := by unfold bF; rw [if_pos hq]
        have := loop1 t ht16 hq.1 hq.2 (f_X5_blocking_4 N n) (cn (sD μ) t) N 0 (mx (bF (sD μ) i) t) (by omega) (by omega) h500
        rw [show mx (bQ (sD μ) t) 0 = 0 from rfl, if_neg (show ¬ mx (bF (sD μ) i) t < 0 by omega)] at this
        rw [show (0 : Int32) = nI 0 from rfl, this, ← hf]
        exact hk
      · have hf : bF (sD μ) i t = 0 := by unfold bF; rw [if_neg hq]
        rw [hf, if_neg (show ¬ mx (bF (sD μ) i) t < 0 by omega)] at hk
        rw [← hk]
        obtain ⟨n0, hn0⟩ : ∃ n0, N = n0 + 1 := ⟨N - 1, by omega⟩
        have e : f_X5_blocking_13 N (f_X5_blocking_4 N n) N = f_X5_blocking_13 N (f_X5_blocking_4 N n) (n0 + 1) := by rw [← hn0]
        rw [e, f_X5_blocking_13, if_pos (i16 ht16), cl (i := t) (by omega), rs (μ := μ) (k := 20) (by decide) (by decide), h20, nI_1]
        by_cases h0 : cn (sD μ) t = 0
        · rw [if_pos (by rw [h0]; decide)]
        · rw [if_neg (show ¬ nI (cn (sD μ) t) ≤ 0 from nI_ge (b := cn (sD μ) t) (a := 0) (by omega) (by omega)), if_pos (i16 ht16), if_pos (i16 hi), cl (i := i) (by omega), rs (μ := μ) (k := 15) (by decide) (by decide), rs (μ := μ) (k := 15) (by decide) (by decide)]
          by_cases h15 : sD μ 15 t = sD μ 15 i
          · obtain ⟨_, _, _, _, kt, _⟩ := core_of hST ht16 (show sD μ 15 t ≠ -1 by rw [h15]; exact hth)
            rw [if_pos h15, if_pos (i16 ht16), if_pos (i16 hi), rs (μ := μ) (k := 16) (by decide) (by decide), rs (μ := μ) (k := 16) (by decide) (by decide), if_pos]
            rw [ok_le ki kt (by decide) (by decide)]
            have : ¬ nn (sD μ) 16 t < nn (sD μ) 16 i := fun w => hq ⟨h15, w⟩
            omega
          · rw [if_neg h15]
  exact loop2 16 N 0 rfl hN
/-- what the class has worked out is that of D -/
def CI (D : Nat → Nat → Int32) (σ : ks_S) : Prop := ∀ t, t < 16 → D 15 t ≠ -1 → σ 8 t 0 6 = nI (infl D t) ∧ ∀ r, r < cn D t → σ 11 t r 4 = if ou D t r = true then nI (spn D t r) else 0
theorem cls_stay {N : Nat} (hN : 16 < N) {D : Nat → Nat → Int32} {σ : ks_S} {t : Nat} (hST : ST D) (hC : CSt D σ) (hI : CI D σ) (ht : t < 16) (hth : D 15 t ≠ -1) : f_X3_longestStay N σ t = some (nI (mx (bS D t) (cn D t)), σ) := by
  have hcn6 : cn D t ≤ 6 := (cn6 hST ht).2
  have h20 : D 20 t = nI (cn D t) := (cn6 hST ht).1
  rcases hC t ht with ⟨_, w⟩ | ⟨a0, a1, a2, a3, a4, a5, a6, a7, a8⟩
  · exact absurd w hth
  · have loop : ∀ m n r, r + m = cn D t → m < n → f_X3_longestStay_4 N n σ t (nI (mx (bS D t) r)) (nI r) = some (nI (mx (bS D t) (cn D t)), σ) := by
      intro m
      induction m with
      | zero =>
        intro n r hr hn
        obtain ⟨n, rfl⟩ : ∃ n', n = n' + 1 := ⟨n - 1, by omega⟩
        obtain rfl : r = cn D t := by omega
        rw [f_X3_longestStay_4, a7, h20, if_pos (nI_le (Nat.le_refl _) (by omega))]
      | succ m ih =>
        intro n r hr hn
        obtain ⟨n, rfl⟩ : ∃ n', n = n' + 1 := ⟨n - 1, by omega⟩
        have hlt : r < cn D t := by omega
        obtain ⟨u1, u2, u3, u4, u5⟩ := hST.2.1 t r ht hlt
        have hk := ih n (r + 1) (by omega) (by omega)
        rw [mx] at hk
        have hb := (bQ_bS hST ht r (by omega)).2
        have hln := ln100 hST ht hlt
        have hsp := spn400 (t := t) (r := r) hST
        rw [f_X3_longestStay_4, a7, h20, if_neg (nI_ge hlt (by omega)), if_pos (i6 (by omega)), cl (i := r) (by omega), f_X1_isOuter, (a8 r hlt).2.2.2]
        by_cases e : D 24 (6 * t + r) = -1
        · have ho : ou D t r = true := decide_eq_true e
          have hS : bS D t r = ln D t r + spn D t r := by unfold bS; rw [if_pos ho]
          rw [hS] at hk
          rw [if_pos e, Option.bind_some]
          dsimp only
          rw [if_neg (by decide), if_pos (i6 (by omega)), if_pos (i6 (by omega)), (a8 r hlt).2.2.1, ((hI t ht hth).2 r hlt), if_pos ho, show D 23 (6 * t + r) = nI (ln D t r) from u3.1, nI_add, nI_max (by omega) (by omega), nI_1]
          exact hk
        · have hS : bS D t r = 0 := by unfold bS; rw [if_neg (fun w => by have := ou_f e; rw [w] at this; exact absurd this (by decide))]
          rw [hS, if_neg (show ¬ mx (bS D t) r < 0 by omega)] at hk
          rw [if_neg e, Option.bind_some]
          dsimp only
          rw [if_pos rfl, nI_1]
          exact hk
    exact loop (cn D t) N 0 (by omega) (by omega)
theorem cls_blk {N : Nat} (hN : 16 < N) {D : Nat → Nat → Int32} {σ : ks_S} {i : Nat} (hST : ST D) (hC : CSt D σ) (hI : CI D σ) (hi : i < 16) (hth : D 15 i ≠ -1) : f_X4_blockingOf N σ i = some (nI (blk D i), σ) := by
  obtain ⟨ci, c1, c2, _, ki, _⟩ := core_of hST hi hth
  rcases hC i hi with ⟨_, w⟩ | ⟨b0, b1, b2, b3, _⟩
  · exact absurd w hth
  · have loop : ∀ m n t, t + m = 16 → m < n → f_X4_blockingOf_14 N n σ i (nI (mx (bF D i) t)) 16 (nI t) = some (nI (blk D i), σ) := by
      intro m
      induction m with
      | zero =>
        intro n t ht hn
        obtain ⟨n, rfl⟩ : ∃ n', n = n' + 1 := ⟨n - 1, by omega⟩
        obtain rfl : t = 16 := by omega
        rw [f_X4_blockingOf_14, if_pos e16, blk_bF]
      | succ m ih =>
        intro n t ht hn
        obtain ⟨n, rfl⟩ : ∃ n', n = n' + 1 := ⟨n - 1, by omega⟩
        have ht16 : t < 16 := by omega
        have hk := ih n (t + 1) (by omega) (by omega)
        rw [mx] at hk
        have h500 := bF500 (i := i) hST (show t ≤ 16 by omega)
        rw [f_X4_blockingOf_14, if_neg (z16 ht16), if_pos (i16 ht16), cl (i := t) (by omega), b2, c2, cls_on ht16 c1 hC, Option.bind_some]
        dsimp only
        have skip : bF D i t = 0 → f_X4_blockingOf_14 N n σ i (nI (mx (bF D i) t)) 16 (nI t + 1) = some (nI (blk D i), σ) := fun hf => by
          rw [hf, if_neg (show ¬ mx (bF D i) t < 0 by omega)] at hk
          rw [nI_1]
          exact hk
        by_cases h15 : D 15 t = nI ci
        · have hth' : D 15 t ≠ -1 := by rw [h15, ← c2]; exact hth
          obtain ⟨_, _, _, _, kt, _⟩ := core_of hST ht16 hth'
          rcases hC t ht16 with ⟨_, w⟩ | ⟨a0, a1, a2, a3, _⟩
          · exact absurd w hth'
          · rw [if_pos h15, if_neg (by decide), b3, a3]
            by_cases h16 : D 16 i ≤ D 16 t
            · rw [if_pos h16]
              rw [ok_le ki kt (by decide) (by decide)] at h16
              refine skip ?_
              unfold bF
              rw [if_neg (fun w => by have := w.2; omega)]
            · rw [if_neg h16, cls_stay hN hST hC hI ht16 hth', Option.bind_some]
              dsimp only
              rw [ok_le ki kt (by decide) (by decide)] at h16
              have hf : bF D i t = mx (bQ D t) (cn D t) := by
                unfold bF
                rw [if_pos ⟨by rw [h15, c2], by omega⟩]
              obtain ⟨d1, d2⟩ := bQ_bS hST ht16 (cn D t) (Nat.le_refl _)
              rw [hf, d1] at hk
              rw [nI_1]
              by_cases h0 : mx (bS D t) (cn D t) = 0
              · rw [h0, if_neg (show ¬ mx (bF D i) t < 0 - 1 by omega)] at hk
                rw [h0, if_neg]
                · exact hk
                · rw [show nI 0 - 1 = -1 from rfl, Int32.not_lt]
                  exact Int32.le_trans (by decide) (nI_pos' (n := mx (bF D i) t) (by omega))
              · obtain ⟨y, hy⟩ : ∃ y, mx (bS D t) (cn D t) = y + 1 := ⟨mx (bS D t) (cn D t) - 1, by omega⟩
                rw [hy, Nat.add_sub_cancel] at hk
                rw [hy, nI_pred, nI_max (by omega) (by omega)]
                exact hk
        · rw [if_neg h15, if_pos rfl]
          refine skip ?_
          unfold bF
          rw [if_neg (fun w => h15 (by rw [w.1, c2]))]
    exact loop 16 N 0 rfl hN
