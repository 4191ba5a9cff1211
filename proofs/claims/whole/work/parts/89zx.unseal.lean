/-! PURE: unseal, shorten, tick. -/
theorem fill6 {N : Nat} {x : Int32} : ∀ m n i σ, i + m = 4 → m < n → ∃ σ', f_fill_6_5 N n σ x (nI i) 4 = some σ' ∧ (∀ k, k ≠ 6 → σ' k = σ k) ∧ (∀ z, i ≤ z → z < 4 → σ' 6 0 0 z = x) ∧ ∀ z, z < i → σ' 6 0 0 z = σ 6 0 0 z := by
  intro m
  induction m with
  | zero =>
    intro n i σ hi hn
    obtain ⟨n, rfl⟩ : ∃ n', n = n' + 1 := ⟨n - 1, by omega⟩
    obtain rfl : i = 4 := by omega
    exact ⟨σ, by rw [f_fill_6_5, if_pos e4], fun _ _ => rfl, fun z h1 h2 => by omega, fun _ _ => rfl⟩
  | succ m ih =>
    intro n i σ hi hn
    obtain ⟨n, rfl⟩ : ∃ n', n = n' + 1 := ⟨n - 1, by omega⟩
    have hi4 : i < 4 := by omega
    rw [f_fill_6_5, if_neg (z4 hi4), if_pos (i4 hi4), cl (i := i) (by omega), nI_1]
    obtain ⟨σ', a1, a2, a3, a4⟩ := ih n (i + 1) (ks_up σ 6 0 0 i x) (by omega) (by omega)
    refine ⟨σ', a1, fun k hk => ?_, fun z h1 h2 => ?_, fun z h => ?_⟩
    · rw [a2 k hk]
      funext a b c
      rw [ks_up_at, if_neg (by omega)]
    · by_cases e : z = i
      · subst e
        rw [a4 z (by omega), ks_up_hit]
      · exact a3 z (by omega) h2
    · rw [a4 z (by omega), ks_up_at, if_neg (by omega)]
theorem fill7 {N : Nat} {x : Int32} : ∀ m n i σ, i + m = 4 → m < n → ∃ σ', f_fill_7_5 N n σ x (nI i) 4 = some σ' ∧ (∀ k, k ≠ 7 → σ' k = σ k) ∧ (∀ z, i ≤ z → z < 4 → σ' 7 0 0 z = x) ∧ ∀ z, z < i → σ' 7 0 0 z = σ 7 0 0 z := by
  intro m
  induction m with
  | zero =>
    intro n i σ hi hn
    obtain ⟨n, rfl⟩ : ∃ n', n = n' + 1 := ⟨n - 1, by omega⟩
    obtain rfl : i = 4 := by omega
    exact ⟨σ, by rw [f_fill_7_5, if_pos e4], fun _ _ => rfl, fun z h1 h2 => by omega, fun _ _ => rfl⟩
  | succ m ih =>
    intro n i σ hi hn
    obtain ⟨n, rfl⟩ : ∃ n', n = n' + 1 := ⟨n - 1, by omega⟩
    have hi4 : i < 4 := by omega
    rw [f_fill_7_5, if_neg (z4 hi4), if_pos (i4 hi4), cl (i := i) (by omega), nI_1]
    obtain ⟨σ', a1, a2, a3, a4⟩ := ih n (i + 1) (ks_up σ 7 0 0 i x) (by omega) (by omega)
    refine ⟨σ', a1, fun k hk => ?_, fun z h1 h2 => ?_, fun z h => ?_⟩
    · rw [a2 k hk]
      funext a b c
      rw [ks_up_at, if_neg (by omega)]
    · by_cases e : z = i
      · subst e
        rw [a4 z (by omega), ks_up_hit]
      · exact a3 z (by omega) h2
    · rw [a4 z (by omega), ks_up_at, if_neg (by omega)]
/-- the jobs of a task are forgotten -/
theorem cls_forget1 {N : Nat} {t : Nat} : ∀ m n r σ, r + m = 6 → m < n → σ 8 t 0 7 ≤ 6 → ∃ σ', f_X3_forgetJobs_2 N n σ t (nI r) = some σ' ∧ (∀ k, k ≠ 9 → k ≠ 11 → σ' k = σ k) ∧ (∀ v z, v ≠ t → σ' 9 v 0 z = σ 9 v 0 z) ∧ (∀ v q z, v ≠ t ∨ (z ≠ 5 ∧ z ≠ 7) ∨ q < r → σ' 11 v q z = σ 11 v q z) ∧ (∀ z, σ' 9 t 0 z = if z = 0 ∨ z = 8 ∨ z = 9 ∨ z = 10 ∨ z = 11 then 0 else σ 9 t 0 z) ∧ ∀ q z, z = 5 ∨ z = 7 → r ≤ q → q < 6 → σ' 11 t q z = 0 ∨ (σ' 11 t q z = σ 11 t q z ∧ σ 8 t 0 7 ≤ nI q) := by
  have done : ∀ n r σ, σ 8 t 0 7 ≤ nI r → r ≤ 6 → ∃ σ', f_X3_forgetJobs_2 N (n + 1) σ t (nI r) = some σ' ∧ (∀ k, k ≠ 9 → k ≠ 11 → σ' k = σ k) ∧ (∀ v z, v ≠ t → σ' 9 v 0 z = σ 9 v 0 z) ∧ (∀ v q z, v ≠ t ∨ (z ≠ 5 ∧ z ≠ 7) ∨ q < r → σ' 11 v q z = σ 11 v q z) ∧ (∀ z, σ' 9 t 0 z = if z = 0 ∨ z = 8 ∨ z = 9 ∨ z = 10 ∨ z = 11 then 0 else σ 9 t 0 z) ∧ ∀ q z, z = 5 ∨ z = 7 → r ≤ q → q < 6 → σ' 11 t q z = 0 ∨ (σ' 11 t q z = σ 11 t q z ∧ σ 8 t 0 7 ≤ nI q) := fun n r σ hle hr6 => by
    rw [f_X3_forgetJobs_2, if_pos hle, f_X0_forget, Option.bind_some]
    refine ⟨_, rfl, fun k h1 h2 => ?_, fun v z hv => ?_, fun v q z _ => ?_, fun z => ?_, fun q z _ hq hq6 => Or.inr ⟨?_, ?_⟩⟩
    · funext a b c
      simp [ks_up_at, h1]
    · simp [ks_up_at, hv]
    · simp [ks_up_at]
    · by_cases e0 : z = 0
      · subst e0; simp [ks_up_at]
      · by_cases e8 : z = 8
        · subst e8; simp [ks_up_at]
        · by_cases e9 : z = 9
          · subst e9; simp [ks_up_at]
          · by_cases e10 : z = 10
            · subst e10; simp [ks_up_at]
            · by_cases e11 : z = 11
              · subst e11; simp [ks_up_at]
              · simp [ks_up_at, e0, e8, e9, e10, e11]
    · simp [ks_up_at]
    · exact Int32.le_trans hle (nI_le hq (by omega))
  intro m
  induction m with
  | zero =>
    intro n r σ hr hn h6
    obtain ⟨n, rfl⟩ : ∃ n', n = n' + 1 := ⟨n - 1, by omega⟩
    obtain rfl : r = 6 := by omega
    exact done n 6 σ h6 (by omega)
  | succ m ih =>
    intro n r σ hr hn h6
    obtain ⟨n, rfl⟩ : ∃ n', n = n' + 1 := ⟨n - 1, by omega⟩
    by_cases hle : σ 8 t 0 7 ≤ nI r
    · exact done n r σ hle (by omega)
    · rw [f_X3_forgetJobs_2, if_neg hle, if_pos (i6 (by omega)), cl (i := r) (by omega), f_X1_forgetJobs, Option.bind_some, nI_1]
      have e8 : ks_up (ks_up σ 11 t r 5 0) 11 t r 7 0 8 t 0 7 = σ 8 t 0 7 := by simp [ks_up_at]
      obtain ⟨σ', a1, a2, a3, a4, a5, a6⟩ := ih n (r + 1) (ks_up (ks_up σ 11 t r 5 0) 11 t r 7 0) (by omega) (by omega) (by rw [e8]; exact h6)
      rw [e8] at a6
      refine ⟨σ', a1, fun k h1 h2 => ?_, fun v z hv => ?_, fun v q z h => ?_, fun z => ?_, fun q z hz hq hq6 => ?_⟩
      · rw [a2 k h1 h2]
        funext a b c
        simp [ks_up_at, h2]
      · rw [a3 v z hv]
        simp [ks_up_at]
      · rw [a4 v q z (by omega), ks_up_at, if_neg (by omega), ks_up_at, if_neg (by omega)]
      · rw [a5 z]
        simp [ks_up_at]
      · by_cases e : q = r
        · subst e
          refine Or.inl ?_
          rw [a4 t q z (by omega)]
          rcases hz with rfl | rfl
          · simp [ks_up_at]
          · simp [ks_up_at]
        · have e2 : ks_up (ks_up σ 11 t r 5 0) 11 t r 7 0 11 t q z = σ 11 t q z := by
            rw [ks_up_at, if_neg (by omega), ks_up_at, if_neg (by omega)]
          rcases a6 q z hz (by omega) hq6 with w | w
          · exact Or.inl w
          · rw [e2] at w
            exact Or.inr w
theorem cls_forget {N : Nat} (hN : 16 < N) : ∀ m n t σ, t + m = 16 → m < n → (∀ v, v < 16 → σ 8 v 0 7 ≤ 6) → ∃ σ', f_X4_unseal_58 N n σ 16 (nI t) = some (.inr (), σ') ∧ (∀ k, k ≠ 9 → k ≠ 11 → σ' k = σ k) ∧ (∀ v z, v < 16 → σ' 9 v 0 z = if t ≤ v ∧ (z = 0 ∨ z = 8 ∨ z = 9 ∨ z = 10 ∨ z = 11) then 0 else σ 9 v 0 z) ∧ (∀ v q z, (z ≠ 5 ∧ z ≠ 7) ∨ v < t → σ' 11 v q z = σ 11 v q z) ∧ ∀ v q z, z = 5 ∨ z = 7 → t ≤ v → v < 16 → q < 6 → σ' 11 v q z = 0 ∨ (σ' 11 v q z = σ 11 v q z ∧ σ 8 v 0 7 ≤ nI q) := by
  intro m
  induction m with
  | zero =>
    intro n t σ ht hn h
    obtain ⟨n, rfl⟩ : ∃ n', n = n' + 1 := ⟨n - 1, by omega⟩
    obtain rfl : t = 16 := by omega
    exact ⟨σ, by rw [f_X4_unseal_58, if_pos e16], fun _ _ _ => rfl, fun v z hv => by rw [if_neg (by omega)], fun _ _ _ _ => rfl, fun v q z _ h1 h2 => by omega⟩
  | succ m ih =>
    intro n t σ ht hn h
    obtain ⟨n, rfl⟩ : ∃ n', n = n' + 1 := ⟨n - 1, by omega⟩
    have ht16 : t < 16 := by omega
    obtain ⟨σ1, a1, a2, a3, a4, a5, a6⟩ := cls_forget1 (N := N) (t := t) 6 N 0 σ rfl (by omega) (h t ht16)
    have a1 : f_X3_forgetJobs N σ t = some σ1 := a1
    rw [f_X4_unseal_58, if_neg (z16 ht16), if_pos (i16 ht16), cl (i := t) (by omega), a1, Option.bind_some, nI_1]
    have e8 : σ1 8 = σ 8 := a2 8 (by decide) (by decide)
    obtain ⟨σ2, b1, b2, b3, b4, b5⟩ := ih n (t + 1) σ1 (by omega) (by omega) (by rw [e8]; exact h)
    rw [e8] at b5
    refine ⟨σ2, b1, fun k h1 h2 => (b2 k h1 h2).trans (a2 k h1 h2), fun v z hv => ?_, fun v q z hz => ?_, fun v q z hz h1 h2 h3 => ?_⟩
    · rw [b3 v z hv]
      by_cases e : v = t
      · subst e
        rw [if_neg (by omega), a5 z]
        by_cases q : z = 0 ∨ z = 8 ∨ z = 9 ∨ z = 10 ∨ z = 11
        · rw [if_pos q, if_pos ⟨Nat.le_refl _, q⟩]
        · rw [if_neg q, if_neg (fun w => q w.2)]
      · rw [a3 v z e]
        by_cases q : t + 1 ≤ v ∧ (z = 0 ∨ z = 8 ∨ z = 9 ∨ z = 10 ∨ z = 11)
        · rw [if_pos q, if_pos ⟨by omega, q.2⟩]
        · rw [if_neg q, if_neg (fun w => q ⟨by omega, w.2⟩)]
    · rw [b4 v q z (by omega), a4 v q z (by omega)]
    · by_cases e : v = t
      · subst e
        rw [b4 v q z (by omega)]
        exact a6 q z hz (by omega) h3
      · rcases b5 v q z hz (by omega) h2 h3 with w | ⟨w1, w2⟩
        · exact Or.inl w
        · exact Or.inr ⟨by rw [w1, a4 v q z (by omega)], w2⟩
theorem cls_anyOpen {N : Nat} (hN : 16 < N) (σ : ks_S) : ∃ b, f_X4_isAnyJobOpen N σ = some (b, σ) ∧ ((b = 0 ∧ ∀ t, t < 16 → σ 9 t 0 1 = 0) ∨ (b = 1 ∧ ∃ t, t < 16 ∧ σ 9 t 0 1 ≠ 0)) := by
  have loop : ∀ m n t, t + m = 16 → m < n → ∃ b, f_X4_isAnyJobOpen_10 N n σ 16 (nI t) = some (b, σ) ∧ ((b = 0 ∧ ∀ v, t ≤ v → v < 16 → σ 9 v 0 1 = 0) ∨ (b = 1 ∧ ∃ v, v < 16 ∧ σ 9 v 0 1 ≠ 0)) := by
    intro m
    induction m with
    | zero =>
      intro n t ht hn
      obtain ⟨n, rfl⟩ : ∃ n', n = n' + 1 := ⟨n - 1, by omega⟩
      obtain rfl : t = 16 := by omega
      exact ⟨0, by rw [f_X4_isAnyJobOpen_10, if_pos e16], Or.inl ⟨rfl, fun v h1 h2 => by omega⟩⟩
    | succ m ih =>
      intro n t ht hn
      obtain ⟨n, rfl⟩ : ∃ n', n = n' + 1 := ⟨n - 1, by omega⟩
      have ht16 : t < 16 := by omega
      rw [f_X4_isAnyJobOpen_10, if_neg (z16 ht16), if_pos (i16 ht16), cl (by omega), nI_1]
      by_cases q : σ 9 t 0 1 = 0
      · rw [if_pos q]
        obtain ⟨b, b1, b2⟩ := ih n (t + 1) (by omega) (by omega)
        refine ⟨b, b1, ?_⟩
        rcases b2 with ⟨b3, b4⟩ | b3
        · refine Or.inl ⟨b3, fun v h1 h2 => ?_⟩
          by_cases e : v = t
          · subst e; exact q
          · exact b4 v (by omega) h2
        · exact Or.inr b3
      · rw [if_neg q]
        exact ⟨1, rfl, Or.inr ⟨rfl, t, ht16, q⟩⟩
  obtain ⟨b, b1, b2⟩ := loop 16 N 0 rfl hN
  refine ⟨b, b1, ?_⟩
  rcases b2 with ⟨b3, b4⟩ | b3
  · exact Or.inl ⟨b3, fun t ht => b4 t (by omega) ht⟩
  · exact Or.inr b3
/-- a job that isn't on is plain -/
theorem SE_plain {w : Nat} {σ : ks_S} (h : SE w σ) {t : Nat} (ht : t < 16) (ho : σ 9 t 0 1 = 0) : σ 9 t 0 3 = 1 := by
  obtain ⟨s1, s2, ⟨_, _, ⟨F, hBT⟩, _⟩, ⟨hT, hQ, hK, hS, hW, hB, hZ⟩, s5, s6, s7, s8⟩ := h
  rcases hS.2 t ht with z | ⟨z, ⟨c, c1, c2⟩, _⟩
  · exact z
  · exfalso
    have hq : σ 9 t 0 3 = dA σ 40 c := by
      rcases hS.1 c c1 with w | ⟨u, u1, u2, u3, _⟩
      · rw [c2] at w
        exact absurd w.1 (nI_n1 (by omega))
      · rw [nI_inj (by omega) (by omega) (c2.symm.trans u2)]
        exact u3
    have hn : 1 < nn (dA σ) 40 c := by
      rcases z with z | z
      · rw [nn_nI (n := 2) (by rw [← hq]; exact z) (by decide)]; decide
      · rw [nn_nI (n := 3) (by rw [← hq]; exact z) (by decide)]; decide
    obtain ⟨u, hu⟩ := (hBT.1.2.1 c c1).2 hn
    have e : u = t := nI_inj (by have := hu.1; omega) (by omega) (hu.2.1.symm.trans c2)
    subst e
    exact hu.2.2.1 (by rw [← (hT u ht).1]; exact ho)
theorem op_unseal {N w : Nat} (hN : 20000 < N) {σ : ks_S} (o : Int64) (h : INV w σ) : OPU w (f_L_unseal N σ o) (fun s => f_X5_unseal N s) := by
  obtain ⟨h1, h2, h3, h4, h5⟩ := id h
  rcases INV_seal h with ⟨q1, q2, q3⟩ | ⟨q1, q2, q3⟩
  · refine ⟨1, σ, o, ks_up σ 14 0 0 0 1, ?_, ?_, thr_hit _ _, INV_thr 1 h⟩
    · simp [f_L_unseal, f_X4_unseal, q1]
    · simp [f_X5_unseal, q2, f_X5_unseal_15, f_X5_unseal_20, ref_rf, rf]
  · have hsym : ∀ t, t < 16 → σ 9 t 0 1 = dA σ 26 t := fun t ht => (q3.2.2.2.1.1 t ht).1
    obtain ⟨b, b1, b2⟩ := cls_anyOpen (N := N) (by omega) σ
    rcases b2 with ⟨rfl, b3⟩ | ⟨rfl, t0, t1, t2⟩
    · -- nothing is on
      obtain ⟨σ1, a1, a2, a3, _⟩ := fill6 (N := N) (x := -1) 4 N 0 (ks_up (ks_up σ 0 0 0 6 0) 0 0 0 7 0) rfl (by omega)
      have a1 : f_fill_6 N (ks_up (ks_up σ 0 0 0 6 0) 0 0 0 7 0) (-1) = some σ1 := a1
      obtain ⟨σ2, c1, c2, c3, _⟩ := fill7 (N := N) (x := 0) 4 N 0 σ1 rfl (by omega)
      have c1 : f_fill_7 N σ1 0 = some σ2 := c1
      have z2 : ∀ k, k ≠ 0 → k ≠ 6 → k ≠ 7 → σ2 k = σ k := fun k e0 e6 e7 => by
        rw [c2 k e7, a2 k e6]
        funext i j z
        rw [ks_up_at, if_neg (by omega), ks_up_at, if_neg (by omega)]
      have z20 : σ2 0 0 0 7 = 0 ∧ σ2 0 0 0 6 = 0 := by
        rw [c2 0 (by decide), a2 0 (by decide)]
        exact ⟨ks_up_hit _ _ _ _ _ _, by rw [ks_up_at, if_neg (by omega), ks_up_hit]⟩
      obtain ⟨σ3, d1, d2, d3, d4, d5⟩ := cls_forget (N := N) (by omega) 16 N 0 σ2 rfl (by omega) (by rw [z2 8 (by decide) (by decide) (by decide)]; exact h5)
      have d1 : f_X4_unseal_58 N N σ2 16 0 = some (.inr (), σ3) := d1
      have hhi : ∀ k, 14 ≤ k → σ3 k = σ k := fun k hk => by rw [d2 k (by omega) (by omega), z2 k (by omega) (by omega) (by omega)]
      have s12 : σ3 14 0 0 12 = 1 := by rw [hhi 14 (by decide)]; exact q2
      obtain ⟨bo, e1, e2⟩ := ref_open (N := N) (by omega) σ3
      have e3 : sD σ3 = sD σ := sD_cls hhi
      have e0 : bo = 0 := by
        rcases e2 with ⟨w, _⟩ | ⟨_, t, w1, w2⟩
        · exact w
        · exfalso
          have : dA σ3 26 t = dA σ 26 t := by
            unfold dA
            rw [e3]
            have : σ3 26 = σ 26 := hhi 26 (by decide)
            rw [this, show σ3 14 = σ 14 from hhi 14 (by decide)]
          rw [this, ← hsym t w1, b3 t w1] at w2
          exact w2 rfl
      subst e0
      have e9 : ∀ v z, v < 16 → σ3 9 v 0 z = if z = 0 ∨ z = 8 ∨ z = 9 ∨ z = 10 ∨ z = 11 then 0 else σ 9 v 0 z := fun v z hv => by
        rw [d3 v z hv, z2 9 (by decide) (by decide) (by decide)]
        by_cases q : z = 0 ∨ z = 8 ∨ z = 9 ∨ z = 10 ∨ z = 11
        · rw [if_pos ⟨by omega, q⟩, if_pos q]
        · rw [if_neg (fun w => q w.2), if_neg q]
      have e11 : ∀ v q z, z ≠ 5 → z ≠ 7 → σ3 11 v q z = σ 11 v q z := fun v q z w1 w2 => by
        rw [d4 v q z (Or.inl ⟨w1, w2⟩), z2 11 (by decide) (by decide) (by decide)]
      have ek : ∀ k, k ≠ 0 → k ≠ 6 → k ≠ 7 → k ≠ 9 → k ≠ 11 → σ3 k = σ k := fun k w0 w1 w2 w3 w4 => by rw [d2 k w3 w4, z2 k w0 w1 w2]
      let s2 := fgt (ks_up (ks_up σ3 14 0 0 0 0) 14 0 0 12 0)
      have hs2 : s2 = fgt (ks_up (ks_up σ3 14 0 0 0 0) 14 0 0 12 0) := rfl
      have kk : ∀ k, k ≠ 14 → ks_up (ks_up σ3 14 0 0 0 0) 14 0 0 12 0 k = σ3 k := fun k hk => by
        funext i j z
        rw [ks_up_at, if_neg (by omega), ks_up_at, if_neg (by omega)]
      have fk : ∀ k, k < 14 → s2 k = σ3 k := fun k hk => by rw [hs2, fgt_k _ (by omega), kk k (by omega)]
      have eD : sD s2 = sD σ := by rw [hs2, sD_fgt, sD_up (by omega), sD_thr, e3]
      obtain ⟨s1, s2', s3, ⟨hT, hQ, hK, hS, hW, hB, hZ⟩, s5, s6, s7, s8⟩ := id q3
      have hI := LV_idle s3 (fun t ht => by rw [← hsym t ht]; exact b3 t ht)
      refine ⟨0, σ3, o, s2, ?_, ?_, ?_, ?_⟩
      · simp [f_L_unseal, f_X4_unseal, q1, b1, a1, c1, d1]
      · show f_X5_unseal N σ3 = some s2
        simp [f_X5_unseal, s12, e1, f_X5_unseal_20, ref_rf, rf, ref_forget (show 100 < N by omega), hs2]
      · rw [hs2, fgt_14, if_neg (by decide), if_neg (by decide), ks_up_at, if_neg (by omega), thr_hit]
      · refine ⟨by rw [eD]; exact h1, ?_, ?_, Or.inl ⟨?_, ?_, ?_⟩, ?_⟩
        · rw [eD]
          intro t ht
          rw [fk 8 (by decide), fk 11 (by decide), ek 8 (by decide) (by decide) (by decide) (by decide) (by decide)]
          rcases h2 t ht with q | ⟨a0, a1, a2, a3, a4, a5, a6, a7, a8⟩
          · exact Or.inl q
          · refine Or.inr ⟨a0, a1, a2, a3, a4, a5, a6, a7, fun r hr => ?_⟩
            rw [e11 t r 0 (by decide) (by decide), e11 t r 1 (by decide) (by decide), e11 t r 2 (by decide) (by decide), e11 t r 3 (by decide) (by decide)]
            exact a8 r hr
        · rw [eD]
          have ew : wg (sD σ) s2 = wg (sD σ) σ := by
            funext k s
            unfold wg
            rw [fk 3 (by decide), ek 3 (by decide) (by decide) (by decide) (by decide) (by decide)]
          refine ⟨?_, fun t ht hth => ?_⟩
          · rw [fk 3 (by decide), ek 3 (by decide) (by decide) (by decide) (by decide) (by decide)]
            exact h3.1
          · rw [ew, fk 8 (by decide), ek 8 (by decide) (by decide) (by decide) (by decide) (by decide), fk 11 (by decide)]
            obtain ⟨m1, m2⟩ := h3.2 t ht hth
            refine ⟨m1, fun r hr => ?_⟩
            rw [e11 t r 4 (by decide) (by decide)]
            exact m2 r hr
        · rw [fk 0 (by decide), d2 0 (by decide) (by decide)]
          exact z20.2
        · rw [hs2, fgt_14, if_neg (by decide), if_neg (by decide), ks_up_hit]
        · rw [hs2]
          refine UN_fgt ?_ (fun t ht => ?_) (fun c hc => ?_) (fun g hg => ?_) (fun t r ht hr => ?_)
          · rw [kk 0 (by decide), d2 0 (by decide) (by decide)]
            exact z20.1
          · rw [kk 9 (by decide), kk 28 (by decide), kk 29 (by decide), kk 30 (by decide), kk 31 (by decide), kk 32 (by decide), hhi 28 (by decide), hhi 29 (by decide), hhi 30 (by decide), hhi 31 (by decide), hhi 32 (by decide)]
            obtain ⟨a1, a2, a3, a4, a5, a6, a7, a8, a9, a10⟩ := hT t ht
            have pl := SE_plain q3 ht (b3 t ht)
            have dd : ∀ k, 26 ≤ k → k ≤ 37 → k ≠ 33 → k ≠ 34 → σ k 0 0 t = dA σ k t := fun k a b c d => rd (inr16 a b c d ht) (by omega)
            rw [dd 28 (by decide) (by decide) (by decide) (by decide), dd 29 (by decide) (by decide) (by decide) (by decide), dd 30 (by decide) (by decide) (by decide) (by decide), dd 31 (by decide) (by decide) (by decide) (by decide), dd 32 (by decide) (by decide) (by decide) (by decide)]
            rw [e9 t 0 ht, e9 t 1 ht, e9 t 3 ht, e9 t 8 ht, e9 t 9 ht, e9 t 10 ht, e9 t 11 ht, e9 t 2 ht, e9 t 4 ht, e9 t 5 ht, e9 t 6 ht, e9 t 7 ht]
            simp only [if_pos (show (0 : Nat) = 0 ∨ 0 = 8 ∨ 0 = 9 ∨ 0 = 10 ∨ 0 = 11 by omega), if_neg (show ¬ ((1 : Nat) = 0 ∨ 1 = 8 ∨ 1 = 9 ∨ 1 = 10 ∨ 1 = 11) by omega), if_neg (show ¬ ((3 : Nat) = 0 ∨ 3 = 8 ∨ 3 = 9 ∨ 3 = 10 ∨ 3 = 11) by omega), if_pos (show (8 : Nat) = 0 ∨ 8 = 8 ∨ 8 = 9 ∨ 8 = 10 ∨ 8 = 11 by omega), if_pos (show (9 : Nat) = 0 ∨ 9 = 8 ∨ 9 = 9 ∨ 9 = 10 ∨ 9 = 11 by omega), if_pos (show (10 : Nat) = 0 ∨ 10 = 8 ∨ 10 = 9 ∨ 10 = 10 ∨ 10 = 11 by omega), if_pos (show (11 : Nat) = 0 ∨ 11 = 8 ∨ 11 = 9 ∨ 11 = 10 ∨ 11 = 11 by omega), if_neg (show ¬ ((2 : Nat) = 0 ∨ 2 = 8 ∨ 2 = 9 ∨ 2 = 10 ∨ 2 = 11) by omega), if_neg (show ¬ ((4 : Nat) = 0 ∨ 4 = 8 ∨ 4 = 9 ∨ 4 = 10 ∨ 4 = 11) by omega), if_neg (show ¬ ((5 : Nat) = 0 ∨ 5 = 8 ∨ 5 = 9 ∨ 5 = 10 ∨ 5 = 11) by omega), if_neg (show ¬ ((6 : Nat) = 0 ∨ 6 = 8 ∨ 6 = 9 ∨ 6 = 10 ∨ 6 = 11) by omega), if_neg (show ¬ ((7 : Nat) = 0 ∨ 7 = 8 ∨ 7 = 9 ∨ 7 = 10 ∨ 7 = 11) by omega)]
            exact ⟨rfl, b3 t ht, pl, rfl, rfl, rfl, rfl, a3, a4, a5, a6 (by rw [pl]; decide), a7⟩
          · rw [kk 6 (by decide), kk 7 (by decide), d2 6 (by decide) (by decide), d2 7 (by decide) (by decide), c2 6 (by decide)]
            exact ⟨a3 c (by omega) hc, c3 c (by omega) hc⟩
          · rw [kk 12 (by decide), ek 12 (by decide) (by decide) (by decide) (by decide) (by decide), (hW g hg).1]
            obtain ⟨_, _, ⟨F, hBT⟩, _⟩ := s3
            have o44 := (hBT.1.2.2.1 g hg).1
            have := hI.2.2 g hg
            rw [o44.1, show (0 : Int32) = nI 0 from rfl, nI_leI (by have := o44.2; omega) (by decide)] at this
            rw [o44.1, show nn (dA σ) 44 g = 0 by omega]
            rfl
          · rw [kk 11 (by decide)]
            have key : ∀ z, z = 5 ∨ z = 7 → σ3 11 t r z = 0 := fun z hz => by
              rcases d5 t r z hz (by omega) ht hr with w | ⟨w1, w2⟩
              · exact w
              · rw [w1, z2 11 (by decide) (by decide) (by decide)]
                rw [z2 8 (by decide) (by decide) (by decide)] at w2
                have hcr : cn (sD σ) t ≤ r := by
                  rcases h2 t ht with ⟨_, q⟩ | ⟨a0, a1, a2, a3, a4, a5, a6, a7, a8⟩
                  · rw [cn0 h1 ht q]; omega
                  · have o20 := cn6 h1 ht
                    have o6 : cn (sD σ) t ≤ 6 := o20.2
                    rw [a7, show sD σ 20 t = nI (cn (sD σ) t) from o20.1, nI_leI (by omega) (by omega)] at w2
                    exact w2
                have := hZ t r ht hr hcr
                rcases hz with rfl | rfl
                · exact this.1
                · exact this.2
            exact ⟨key 5 (Or.inl rfl), key 7 (Or.inr rfl)⟩
        · rw [fk 8 (by decide), ek 8 (by decide) (by decide) (by decide) (by decide) (by decide)]
          exact h5
    · obtain ⟨bo, e1, e2⟩ := ref_open (N := N) (by omega) σ
      have e0 : bo = 1 := by
        rcases e2 with ⟨_, w⟩ | ⟨w, _⟩
        · exact absurd ((hsym t0 t1).trans (w t0 t1)) t2
        · exact w
      subst e0
      refine ⟨1, σ, o, ks_up σ 14 0 0 0 1, ?_, ?_, thr_hit _ _, INV_thr 1 h⟩
      · simp [f_L_unseal, f_X4_unseal, q1, b1]
      · simp [f_X5_unseal, q2, e1, f_X5_unseal_15, f_X5_unseal_20, ref_rf, rf]
