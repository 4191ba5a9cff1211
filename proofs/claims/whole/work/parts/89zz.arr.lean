/-! PURE: arrive. -/
def sj (σ : ks_S) (t n : Nat) : ks_S := fun k a b z => if k = 11 ∧ a = t ∧ b < n ∧ z = 6 then (if σ 11 t b 5 = 0 then σ 11 t b 2 else σ 11 t b 5) else if k = 11 ∧ a = t ∧ b < n ∧ z = 5 then 0 else σ k a b z
theorem sj_step (σ : ks_S) (t r : Nat) : f_X1_startJob (sj σ t r) t r = some (sj σ t (r + 1)) := by
  have e5 : sj σ t r 11 t r 5 = σ 11 t r 5 := by unfold sj; rw [if_neg (by omega), if_neg (by omega)]
  have e2 : sj σ t r 11 t r 2 = σ 11 t r 2 := by unfold sj; rw [if_neg (by omega), if_neg (by omega)]
  have key : ∀ v, (if σ 11 t r 5 = 0 then σ 11 t r 2 else σ 11 t r 5) = v → ks_up (ks_up (sj σ t r) 11 t r 6 v) 11 t r 5 0 = sj σ t (r + 1) := fun v hv => by
    funext k a b z
    rw [ks_up_at, ks_up_at]
    unfold sj
    by_cases q5 : k = 11 ∧ a = t ∧ b = r ∧ z = 5
    · rw [if_pos q5, if_neg (by omega), if_pos (by omega)]
    · rw [if_neg q5]
      by_cases q6 : k = 11 ∧ a = t ∧ b = r ∧ z = 6
      · obtain ⟨rfl, rfl, rfl, rfl⟩ := q6
        rw [if_pos ⟨rfl, rfl, rfl, rfl⟩, if_pos ⟨rfl, rfl, by omega, rfl⟩, hv]
      · rw [if_neg q6]
        by_cases p6 : k = 11 ∧ a = t ∧ b < r ∧ z = 6
        · rw [if_pos p6, if_pos (show k = 11 ∧ a = t ∧ b < r + 1 ∧ z = 6 by omega)]
        · rw [if_neg p6, if_neg (show ¬ (k = 11 ∧ a = t ∧ b < r + 1 ∧ z = 6) by omega)]
          by_cases p5 : k = 11 ∧ a = t ∧ b < r ∧ z = 5
          · rw [if_pos p5, if_pos (by omega)]
          · rw [if_neg p5, if_neg (by omega)]
  unfold f_X1_startJob
  rw [e5, e2]
  by_cases q : σ 11 t r 5 = 0
  · rw [if_pos q, key _ (if_pos q)]
  · rw [if_neg q, key _ (if_neg q)]
theorem cls_start {N : Nat} (hN : 16 < N) {D : Nat → Nat → Int32} {σ : ks_S} {t : Nat} (now : Int32) (hST : ST D) (hC : CSt D σ) (ht : t < 16) (hth : D 15 t ≠ -1) : f_X3_startJob N σ t now = some (ks_up (ks_up (ks_up (ks_up (ks_up (ks_up (sj σ t (cn D t)) 9 t 0 0 1) 9 t 0 1 1) 9 t 0 2 now) 9 t 0 3 1) 9 t 0 4 0) 9 t 0 5 (nI (aNx D t 0))) := by
  have hcn6 : cn D t ≤ 6 := (cn6 hST ht).2
  have h20 : D 20 t = nI (cn D t) := (cn6 hST ht).1
  rcases hC t ht with ⟨_, w⟩ | ⟨a0, a1, a2, a3, a4, a5, a6, a7, a8⟩
  · exact absurd w hth
  · have e7 : ∀ r, sj σ t r 8 t 0 7 = nI (cn D t) := fun r => by
      unfold sj
      rw [if_neg (by omega), if_neg (by omega), a7]
      exact h20
    have loop : ∀ m n r, r + m = cn D t → m < n → f_X3_startJob_2 N n (sj σ t r) t now (nI r) = some (ks_up (ks_up (ks_up (ks_up (ks_up (ks_up (sj σ t (cn D t)) 9 t 0 0 1) 9 t 0 1 1) 9 t 0 2 now) 9 t 0 3 1) 9 t 0 4 0) 9 t 0 5 (nI (aNx D t 0))) := by
      intro m
      induction m with
      | zero =>
        intro n r hr hn
        obtain ⟨n, rfl⟩ : ∃ n', n = n' + 1 := ⟨n - 1, by omega⟩
        obtain rfl : r = cn D t := by omega
        rw [f_X3_startJob_2, e7, if_pos (nI_le (Nat.le_refl _) (by omega))]
        have ho : f_X3_outerFrom N (sj σ t (cn D t)) t 0 = some (nI (nxo D t 7 0), sj σ t (cn D t)) := cls_outer (N := N) (D := D) ht (cn6 hST ht) (by rw [e7]; exact h20.symm) (fun r hr => by
          unfold sj
          rw [if_neg (by omega), if_neg (by omega)]
          exact (a8 r hr).2.2.2) 6 N 0 (by omega) (by omega) (by omega)
        rw [ho, Option.bind_some]
        dsimp only
        rw [f_X0_start, Option.bind_some]
        rfl
      | succ m ih =>
        intro n r hr hn
        obtain ⟨n, rfl⟩ : ∃ n', n = n' + 1 := ⟨n - 1, by omega⟩
        rw [f_X3_startJob_2, e7, if_neg (nI_ge (by omega) (by omega)), if_pos (i6 (by omega)), cl (i := r) (by omega), sj_step, Option.bind_some, nI_1]
        exact ih n (r + 1) (by omega) (by omega)
    have e0 : sj σ t 0 = σ := by
      funext k a b z
      unfold sj
      rw [if_neg (by omega), if_neg (by omega)]
    have := loop (cn D t) N 0 (by omega) (by omega)
    rw [e0] at this
    exact this
/-- the machine's side of it -/
def aR (D B : Nat → Nat → Int32) (t n : Nat) : Nat → Nat → Int32 := fun k s => if k = 33 ∧ 6 * t ≤ s ∧ s < 6 * t + n then B 34 s else if k = 34 ∧ 6 * t ≤ s ∧ s < 6 * t + n then D 23 s else B k s
theorem ref_arr1 {N : Nat} {μ : ks_S} {B : Nat → Nat → Int32} {t : Nat} (hST : ST (sD μ)) (ht : t < 16) : ∀ m n r μ', r + m = cn (sD μ) t → m < n → RR μ μ' (aR (sD μ) B t r) → ∃ μ'', f_X5_arrive_111 N n μ' (nI t) (nI r) = some (1, μ'') ∧ RR μ μ'' (aR (sD μ) B t (cn (sD μ) t)) := by
  have hcn6 : cn (sD μ) t ≤ 6 := (cn6 hST ht).2
  have h20 : sD μ 20 t = nI (cn (sD μ) t) := (cn6 hST ht).1
  intro m
  induction m with
  | zero =>
    intro n r μ' hr hn h
    obtain ⟨n, rfl⟩ : ∃ n', n = n' + 1 := ⟨n - 1, by omega⟩
    obtain rfl : r = cn (sD μ) t := by omega
    rw [f_X5_arrive_111, if_pos (i16 ht), cl (i := t) (by omega), rsR h (by decide) (by decide), h20, if_pos (nI_le (Nat.le_refl _) (by omega))]
    exact ⟨μ', rfl, h⟩
  | succ m ih =>
    intro n r μ' hr hn h
    obtain ⟨n, rfl⟩ : ∃ n', n = n' + 1 := ⟨n - 1, by omega⟩
    have hlt : r < cn (sD μ) t := by omega
    have hi : 6 * t + r < 96 := by omega
    have in33 : inr (sD μ) 33 (6 * t + r) = true := inr96 (Or.inl rfl) ht hlt hcn6
    have in34 : inr (sD μ) 34 (6 * t + r) = true := inr96 (Or.inr (Or.inl rfl)) ht hlt hcn6
    rw [f_X5_arrive_111, if_pos (i16 ht), cl (i := t) (by omega), rsR h (by decide) (by decide), h20, if_neg (nI_ge hlt (by omega))]
    simp only [nI_6, i96 hi, ↓reduceIte, cl (i := 6 * t + r) hi, nI_1]
    have e34 : μ' 34 0 0 (6 * t + r) = B 34 (6 * t + r) := by
      rw [rdR h in34 (by decide)]
      unfold aR
      rw [if_neg (by omega), if_neg (by omega)]
    have h1 := RR_up (B 34 (6 * t + r)) (k := 33) (s := 6 * t + r) (by decide) (by decide) in33 h
    have e23 : ks_up μ' 33 0 0 (6 * t + r) (B 34 (6 * t + r)) 23 0 0 (6 * t + r) = sD μ 23 (6 * t + r) := rsR h1 (by decide) (by decide)
    rw [e34, e23]
    have h2 := RR_up (sD μ 23 (6 * t + r)) (k := 34) (s := 6 * t + r) (by decide) (by decide) in34 h1
    have e : au (au (aR (sD μ) B t r) 33 (6 * t + r) (B 34 (6 * t + r))) 34 (6 * t + r) (sD μ 23 (6 * t + r)) = aR (sD μ) B t (r + 1) := by
      funext k s
      unfold au aR
      by_cases q34 : k = 34 ∧ s = 6 * t + r
      · obtain ⟨rfl, rfl⟩ := q34
        rw [if_pos ⟨rfl, rfl⟩, if_neg (by omega), if_pos (by omega)]
      · rw [if_neg q34]
        by_cases q33 : k = 33 ∧ s = 6 * t + r
        · obtain ⟨rfl, rfl⟩ := q33
          rw [if_pos ⟨rfl, rfl⟩, if_pos (by omega)]
        · rw [if_neg q33]
          by_cases p33 : k = 33 ∧ 6 * t ≤ s ∧ s < 6 * t + r
          · rw [if_pos p33, if_pos (show k = 33 ∧ 6 * t ≤ s ∧ s < 6 * t + (r + 1) by omega)]
          · rw [if_neg p33, if_neg (show ¬ (k = 33 ∧ 6 * t ≤ s ∧ s < 6 * t + (r + 1)) by omega)]
            by_cases p34 : k = 34 ∧ 6 * t ≤ s ∧ s < 6 * t + r
            · rw [if_pos p34, if_pos (by omega)]
            · rw [if_neg p34, if_neg (by omega)]
    rw [e] at h2
    exact ih n (r + 1) _ (by omega) (by omega) h2
def aA (D A : Nat → Nat → Int32) (t : Nat) : Nat → Nat → Int32 := aR D (au (au (au (au (au A 27 t 1) 26 t 1) 28 t (A 14 13)) 29 t 0) 30 t (nI (aNx D t 0))) t (cn D t)
theorem ref_arr {N : Nat} (hN : 16 < N) {μ : ks_S} {t : Nat} (hST : ST (sD μ)) (ht : t < 16) : ∃ μ', f_X5_arrive_66 N μ (nI t) = some (1, μ') ∧ RR μ μ' (aA (sD μ) (dA μ) t) := by
  have n16 : ∀ {k}, 26 ≤ k → k ≤ 37 → k ≠ 33 → k ≠ 34 → inr (sD μ) k t = true := fun a b c d => inr16 a b c d ht
  have h1 := RR_up 1 (k := 27) (s := t) (by decide) (by decide) (n16 (by decide) (by decide) (by decide) (by decide)) (RR_refl μ)
  have h2 := RR_up 1 (k := 26) (s := t) (by decide) (by decide) (n16 (by decide) (by decide) (by decide) (by decide)) h1
  have h3 := RR_up (dA μ 14 13) (k := 28) (s := t) (by decide) (by decide) (n16 (by decide) (by decide) (by decide) (by decide)) h2
  have h4 := RR_up 0 (k := 29) (s := t) (by decide) (by decide) (n16 (by decide) (by decide) (by decide) (by decide)) h3
  have h5 := RR_up (-1) (k := 30) (s := t) (by decide) (by decide) (n16 (by decide) (by decide) (by decide) (by decide)) h4
  unfold f_X5_arrive_66
  simp only [i16 ht, ↓reduceIte, cl (i := t) (show t < 96 by omega)]
  have e14 : ks_up (ks_up μ 27 0 0 t 1) 26 0 0 t 1 14 0 0 13 = dA μ 14 13 := by
    rw [rdR h2 inr14 (by decide), au_k _ _ _ _ (by decide), au_k _ _ _ _ (by decide)]
  rw [e14]
  have hnx := ref_goToNext (N := N) (by omega) (t := t) (r := 0) h5 ht (cn6 hST ht) (by rw [ks_up_hit]; decide) (by omega)
  rw [hnx, Option.bind_some, ks_up_up]
  have h6 := RR_up (nI (aNx (sD μ) t 0)) (k := 30) (s := t) (by decide) (by decide) (n16 (by decide) (by decide) (by decide) (by decide)) h4
  have e0 : ∀ B : Nat → Nat → Int32, aR (sD μ) B t 0 = B := fun B => by
    funext k s
    unfold aR
    rw [if_neg (by omega), if_neg (by omega)]
  obtain ⟨μ', a1, a2⟩ := ref_arr1 (N := N) (B := au (au (au (au (au (dA μ) 27 t 1) 26 t 1) 28 t (dA μ 14 13)) 29 t 0) 30 t (nI (aNx (sD μ) t 0))) hST ht (cn (sD μ) t) N 0 _ (by omega) (by have := (cn6 hST ht).2; have : cn (sD μ) t ≤ 6 := this; omega) (by rw [e0]; exact h6)
  exact ⟨μ', a1, a2⟩
theorem op_arrive {N w : Nat} (hN : 16 < N) {σ : ks_S} (o : Int64) (x : Int32) (h : INV w σ) : ∃ code s1 o1 r s2, f_L_arrive N σ o x = some (code, (s1, o1)) ∧ f_X5_arrive N s1 x = some (r, s2) ∧ s2 14 0 0 0 = code ∧ (code = 0 → (r = 0 ∧ o1 = 0) ∨ (r = 1 ∧ o1 = 1)) ∧ INV w s2 := by
  obtain ⟨h1, h2, h3, h4, h5⟩ := id h
  rcases task_dec h1 h2 (RD_sD σ) x with ⟨t, ht, rfl, hth, t1, t2⟩ | ⟨t1, t2, _⟩
  · rcases INV_seal h with ⟨q1, q2, q3⟩ | ⟨q1, q2, q3⟩
    · refine ⟨2, σ, o, 0, ks_up σ 14 0 0 0 2, ?_, ?_, thr_hit _ _, fun e => absurd e (by decide), INV_thr 2 h⟩
      · simp [f_L_arrive, f_X4_arrive, t1, q1]
      · simp [f_X5_arrive, f_X5_arrive_14, f_X5_arrive_26, t2, q2, ref_rf, rf]
    · obtain ⟨s1, s2, s3, ⟨hT, hQ, hK, hS, hW, hB, hZ⟩, s5, s6, s7, s8, s9⟩ := id q3
      obtain ⟨_, hSG, ⟨F, hBT⟩, hnow, hTM⟩ := id s3
      obtain ⟨b1, b2, b3, b4, b5, b6, b7, b8, b9, b10⟩ := hT t ht
      obtain ⟨c0, _, _, _, k1, k2, k3, k4, k5, k6, k7, k8, k9⟩ := core_of h1 ht hth
      have hcn6 : cn (sD σ) t ≤ 6 := k9.2
      have hk2 := k2.2
      rcases h2 t ht with ⟨_, w⟩ | ⟨a0, a1, a2, a3, a4, a5, a6, a7, a8⟩
      · exact absurd w hth
      · have n16 : ∀ {k}, 26 ≤ k → k ≤ 37 → k ≠ 33 → k ≠ 34 → σ k 0 0 t = dA σ k t := fun {k} a b c d => rd (inr16 a b c d ht) (by omega)
        have r27 : σ 27 0 0 t = dA σ 27 t := n16 (by decide) (by decide) (by decide) (by decide)
        have r28 : σ 28 0 0 t = dA σ 28 t := n16 (by decide) (by decide) (by decide) (by decide)
        have r14 : σ 14 0 0 13 = dA σ 14 13 := rd inr14 (by decide)
        have r17 : σ 17 0 0 t = sD σ 17 t := rs (by decide) (by decide)
        by_cases hgo : dA σ 27 t = 0 ∨ sD σ 17 t ≤ dA σ 14 13 - dA σ 28 t
        · -- it comes
          have hnow31 : nn (dA σ) 14 13 < 2 ^ 31 := by
            have : ∀ x : Int32, x.toNatClampNeg < 2 ^ 31 := fun x => by
              have := Int32.toInt_lt x
              unfold Int32.toNatClampNeg
              omega
            exact this _
          have hper : dA σ 27 t ≠ 0 → nn (dA σ) 28 t + nn (sD σ) 17 t ≤ nn (dA σ) 14 13 := fun hc => by
            have hle := hgo.resolve_left hc
            obtain ⟨h28, e28⟩ := hTM t ht hc
            rw [hnow, e28, pk_sub h28, k2.1, nI_leI (by omega) (by omega)] at hle
            omega
          have hcl : dA σ 26 t = 0 := by
            cases Decidable.em (dA σ 26 t = 0) with
            | inl w => exact w
            | inr w =>
              exfalso
              have z1 := BT_on h1 ht w hBT
              have z2 := hper (hBT.1.1 t ht w).2.1
              omega
          have pl : σ 9 t 0 3 = 1 := SE_plain q3 ht (by rw [b1]; exact hcl)
          -- the class
          have hcls : f_X4_arrive N σ (nI t) = some (.inr 1, ks_up (ks_up (ks_up (ks_up (ks_up (ks_up (sj σ t (cn (sD σ) t)) 9 t 0 0 1) 9 t 0 1 1) 9 t 0 2 (σ 0 0 0 7)) 9 t 0 3 1) 9 t 0 4 0) 9 t 0 5 (nI (aNx (sD σ) t 0))) := by
            have hst := cls_start hN (σ 0 0 0 7) h1 h2 ht hth
            rcases Decidable.em (dA σ 27 t = 0) with z | z
            · simp [f_X4_arrive, t1, q1, b2, z, hst]
            · have hle := hgo.resolve_left z
              have hle : σ 8 t 0 3 ≤ σ 0 0 0 7 - σ 9 t 0 2 := by rw [a4, s5, b3]; exact hle
              simp [f_X4_arrive, t1, q1, b2, z, hle, hst]
          let σ1 := ks_up (ks_up (ks_up (ks_up (ks_up (ks_up (sj σ t (cn (sD σ) t)) 9 t 0 0 1) 9 t 0 1 1) 9 t 0 2 (σ 0 0 0 7)) 9 t 0 3 1) 9 t 0 4 0) 9 t 0 5 (nI (aNx (sD σ) t 0))
          have hσ1 : σ1 = ks_up (ks_up (ks_up (ks_up (ks_up (ks_up (sj σ t (cn (sD σ) t)) 9 t 0 0 1) 9 t 0 1 1) 9 t 0 2 (σ 0 0 0 7)) 9 t 0 3 1) 9 t 0 4 0) 9 t 0 5 (nI (aNx (sD σ) t 0)) := rfl
          have sjk : ∀ k a b z, k ≠ 11 → sj σ t (cn (sD σ) t) k a b z = σ k a b z := fun k a b z hk => by
            unfold sj
            rw [if_neg (by omega), if_neg (by omega)]
          have ek : ∀ k, k ≠ 9 → k ≠ 11 → σ1 k = σ k := fun k w1 w2 => by
            funext a b z
            rw [hσ1, ks_up_at, if_neg (by omega), ks_up_at, if_neg (by omega), ks_up_at, if_neg (by omega), ks_up_at, if_neg (by omega), ks_up_at, if_neg (by omega), ks_up_at, if_neg (by omega), sjk k a b z w2]
          have e9 : ∀ v z, v ≠ t → σ1 9 v 0 z = σ 9 v 0 z := fun v z hv => by
            rw [hσ1, ks_up_at, if_neg (by omega), ks_up_at, if_neg (by omega), ks_up_at, if_neg (by omega), ks_up_at, if_neg (by omega), ks_up_at, if_neg (by omega), ks_up_at, if_neg (by omega), sjk 9 _ _ _ (by decide)]
          have e9t : σ1 9 t 0 0 = 1 ∧ σ1 9 t 0 1 = 1 ∧ σ1 9 t 0 2 = σ 0 0 0 7 ∧ σ1 9 t 0 3 = 1 ∧ σ1 9 t 0 4 = 0 ∧ σ1 9 t 0 5 = nI (aNx (sD σ) t 0) := by
            rw [hσ1]
            simp [ks_up_at]
          have e9o : ∀ z, 6 ≤ z → σ1 9 t 0 z = σ 9 t 0 z := fun z hz => by
            rw [hσ1, ks_up_at, if_neg (by omega), ks_up_at, if_neg (by omega), ks_up_at, if_neg (by omega), ks_up_at, if_neg (by omega), ks_up_at, if_neg (by omega), ks_up_at, if_neg (by omega), sjk 9 _ _ _ (by decide)]
          have e11 : ∀ v q z, σ1 11 v q z = sj σ t (cn (sD σ) t) 11 v q z := fun v q z => by
            rw [hσ1, ks_up_at, if_neg (by omega), ks_up_at, if_neg (by omega), ks_up_at, if_neg (by omega), ks_up_at, if_neg (by omega), ks_up_at, if_neg (by omega), ks_up_at, if_neg (by omega)]
          have e11o : ∀ v q z, (v ≠ t ∨ cn (sD σ) t ≤ q ∨ (z ≠ 5 ∧ z ≠ 6)) → σ1 11 v q z = σ 11 v q z := fun v q z hq => by
            rw [e11]
            unfold sj
            rw [if_neg (by omega), if_neg (by omega)]
          have e116 : ∀ q, q < cn (sD σ) t → σ1 11 t q 6 = (if σ 11 t q 5 = 0 then σ 11 t q 2 else σ 11 t q 5) ∧ σ1 11 t q 5 = 0 := fun q hq => by
            rw [e11, e11]
            unfold sj
            refine ⟨?_, ?_⟩
            · rw [if_pos ⟨rfl, rfl, hq, rfl⟩]
            · rw [if_neg (by omega), if_pos ⟨rfl, rfl, hq, rfl⟩]
          have hhi : ∀ k, 14 ≤ k → σ1 k = σ k := fun k hk => ek k (by omega) (by omega)
          have d1 : sD (ks_up σ1 14 0 0 0 0) = sD σ := by rw [sD_thr]; exact sD_cls hhi
          have d2 : dA (ks_up σ1 14 0 0 0 0) = dA σ := by rw [dA_thr]; exact dA_cls hhi
          obtain ⟨μ, m1, m2⟩ := ref_arr hN (μ := ks_up σ1 14 0 0 0 0) (t := t) (by rw [d1]; exact h1) ht
          rw [d1, d2] at m2
          have hRD : RD (sD σ) σ1 := fun k s b1 b2 => by rw [hhi k (by omega)]; exact rs b1 (by omega)
          have htk := isTask_of h1 hRD ht hth
          have q21 : σ1 14 0 0 12 = 1 := by rw [hhi 14 (by decide)]; exact q2
          have href : f_X5_arrive N σ1 (nI t) = some (1, μ) := by
            have g27 : ks_up σ1 14 0 0 0 0 27 0 0 t = dA σ 27 t := by rw [thr_k σ1 0 (by decide), hhi 27 (by decide), r27]
            have g28 : ks_up σ1 14 0 0 0 0 28 0 0 t = dA σ 28 t := by rw [thr_k σ1 0 (by decide), hhi 28 (by decide), r28]
            have g17 : ks_up σ1 14 0 0 0 0 17 0 0 t = sD σ 17 t := by rw [thr_k σ1 0 (by decide), hhi 17 (by decide), r17]
            have g14 : ks_up σ1 14 0 0 0 0 14 0 0 13 = dA σ 14 13 := by rw [thr_14 σ1 0 (by decide), hhi 14 (by decide), r14]
            rcases Decidable.em (dA σ 27 t = 0) with z | z
            · simp [f_X5_arrive, f_X5_arrive_14, f_X5_arrive_26, htk, q21, ref_rf, rf, i16 ht, cl (show t < 96 by omega), g27, z, m1]
            · have hle := hgo.resolve_left z
              simp [f_X5_arrive, f_X5_arrive_14, f_X5_arrive_26, htk, q21, ref_rf, rf, i16 ht, cl (show t < 96 by omega), g27, g28, g17, g14, z, hle, m1]
          obtain ⟨c1, c2, c3, c4, c5⟩ := m2
          have fk : ∀ k, k < 14 → μ k = σ1 k := fun k hk => by rw [c3 k hk, thr_k σ1 0 (by omega)]
          have eD : sD μ = sD σ := c2.trans d1
          refine ⟨0, σ1, 1, 1, μ, ?_, href, by rw [c5, thr_hit], fun _ => Or.inr ⟨rfl, rfl⟩, ?_⟩
          · simp [f_L_arrive, hcls, hσ1]
          · -- what holds then
            obtain ⟨x1, x2, x3, x4⟩ := nxo_spec (D := sD σ) (t := t) 7 0 (by omega) (by omega)
            have hx : aNx (sD σ) t 0 = nxo (sD σ) t 7 0 := rfl
            have Ar : ∀ k s, k ≠ 26 → k ≠ 27 → k ≠ 28 → k ≠ 29 → k ≠ 30 → k ≠ 33 → k ≠ 34 → aA (sD σ) (dA σ) t k s = dA σ k s := fun k s w1 w2 w3 w4 w5 w6 w7 => by
              unfold aA aR
              rw [if_neg (by omega), if_neg (by omega), au_k _ _ _ _ w5, au_k _ _ _ _ w4, au_k _ _ _ _ w3, au_k _ _ _ _ w1, au_k _ _ _ _ w2]
            have Ao : ∀ k v, (k = 26 ∨ k = 27 ∨ k = 28 ∨ k = 29 ∨ k = 30) → v ≠ t → aA (sD σ) (dA σ) t k v = dA σ k v := fun k v w1 hv => by
              unfold aA aR
              rw [if_neg (by omega), if_neg (by omega), au_s _ _ _ _ hv, au_s _ _ _ _ hv, au_s _ _ _ _ hv, au_s _ _ _ _ hv, au_s _ _ _ _ hv]
            have A26 : aA (sD σ) (dA σ) t 26 t = 1 := by unfold aA aR; simp [au]
            have A27 : aA (sD σ) (dA σ) t 27 t = 1 := by unfold aA aR; simp [au]
            have A28 : aA (sD σ) (dA σ) t 28 t = dA σ 14 13 := by unfold aA aR; simp [au]
            have A29 : aA (sD σ) (dA σ) t 29 t = nI 0 := by unfold aA aR; simp [au]; rfl
            have A30 : aA (sD σ) (dA σ) t 30 t = nI (nxo (sD σ) t 7 0) := by unfold aA aR; simp [au]; rfl
            have A33 : ∀ q, q < cn (sD σ) t → aA (sD σ) (dA σ) t 33 (6 * t + q) = dA σ 34 (6 * t + q) ∧ aA (sD σ) (dA σ) t 34 (6 * t + q) = sD σ 23 (6 * t + q) := fun q hq => by
              unfold aA aR
              rw [if_pos (show (33 : Nat) = 33 ∧ 6 * t ≤ 6 * t + q ∧ 6 * t + q < 6 * t + cn (sD σ) t by omega), if_neg (by omega), if_pos (show (34 : Nat) = 34 ∧ 6 * t ≤ 6 * t + q ∧ 6 * t + q < 6 * t + cn (sD σ) t by omega)]
              refine ⟨?_, rfl⟩
              rw [au_k _ _ _ _ (by decide), au_k _ _ _ _ (by decide), au_k _ _ _ _ (by decide), au_k _ _ _ _ (by decide), au_k _ _ _ _ (by decide)]
            have A33o : ∀ k v q, (k = 33 ∨ k = 34) → v ≠ t → q < 6 → aA (sD σ) (dA σ) t k (6 * v + q) = dA σ k (6 * v + q) := fun k v q hk hv hq => by
              unfold aA aR
              rw [if_neg (by omega), if_neg (by omega), au_k _ _ _ _ (by omega), au_k _ _ _ _ (by omega), au_k _ _ _ _ (by omega), au_k _ _ _ _ (by omega), au_k _ _ _ _ (by omega)]
            have n14 : nn (aA (sD σ) (dA σ) t) 14 13 = nn (dA σ) 14 13 := nn_e (Ar 14 13 (by decide) (by decide) (by decide) (by decide) (by decide) (by decide) (by decide))
            have v34 : ∀ q, q < cn (sD σ) t → ok (dA σ) 34 (6 * t + q) (ln (sD σ) t q) ∧ 1 ≤ nn (dA σ) 34 (6 * t + q) := fun q hq => s9 t q ht hq
            have hBT' : BT (sD σ) (aA (sD σ) (dA σ) t) F := by
              refine BT_arrive (x := nxo (sD σ) t 7 0) h1 s2 ht hth hcl hnow (fun v hv q => (hTM v hv q).1) hper (fun k hk => ?_) (fun s hs => Ao 26 s (by omega) hs) (by rw [A26]; decide) (fun s hs => Ao 27 s (by omega) hs) (by rw [A27]; decide) (fun s hs => Ao 28 s (by omega) hs) A28 (fun s hs => Ao 29 s (by omega) hs) A29 (fun s hs => Ao 30 s (by omega) hs) A30 x2 (fun q hq => x3 q (by omega) hq) x4 (fun v q hv hq => A33o 33 v q (by omega) hv hq) (fun q hq => ?_) hBT
              · simp only [List.mem_cons, List.not_mem_nil, or_false] at hk
                funext s
                exact Ar k s (by omega) (by omega) (by omega) (by omega) (by omega) (by omega) (by omega)
              · have := v34 q hq
                unfold ok at this ⊢
                rw [nn_e (A33 q hq).1, (A33 q hq).1]
                exact this
            have hLV : LV (sD σ) (aA (sD σ) (dA σ) t) := by
              refine ⟨h1, hSG, ⟨F, hBT'⟩, ?_, fun v hv q => ?_⟩
              · rw [n14, Ar 14 13 (by decide) (by decide) (by decide) (by decide) (by decide) (by decide) (by decide)]
                exact hnow
              · rw [n14]
                by_cases e : v = t
                · subst e
                  rw [nn_e A28, A28]
                  exact ⟨Nat.le_refl _, hnow⟩
                · rw [Ao 27 v (by omega) e] at q
                  rw [nn_e (Ao 28 v (by omega) e), Ao 28 v (by omega) e]
                  exact hTM v hv q
            refine ⟨by rw [eD]; exact h1, ?_, ?_, Or.inr ⟨?_, ?_, ?_⟩, by rw [fk 8 (by decide), ek 8 (by decide) (by decide)]; exact h5⟩
            · rw [eD]
              intro v hv
              rw [fk 8 (by decide), fk 11 (by decide), ek 8 (by decide) (by decide)]
              rcases h2 v hv with q | ⟨y0, y1, y2, y3, y4, y5, y6, y7, y8⟩
              · exact Or.inl q
              · refine Or.inr ⟨y0, y1, y2, y3, y4, y5, y6, y7, fun q hq => ?_⟩
                rw [e11o v q 0 (by omega), e11o v q 1 (by omega), e11o v q 2 (by omega), e11o v q 3 (by omega)]
                exact y8 q hq
            · rw [eD]
              have ew : wg (sD σ) μ = wg (sD σ) σ := by
                funext k s
                unfold wg
                rw [fk 3 (by decide), ek 3 (by decide) (by decide)]
              refine ⟨by rw [fk 3 (by decide), ek 3 (by decide) (by decide)]; exact h3.1, fun v hv hvh => ?_⟩
              rw [ew, fk 8 (by decide), ek 8 (by decide) (by decide), fk 11 (by decide)]
              obtain ⟨y1, y2⟩ := h3.2 v hv hvh
              refine ⟨y1, fun q hq => ?_⟩
              rw [e11o v q 4 (by omega)]
              exact y2 q hq
            · rw [fk 0 (by decide), ek 0 (by decide) (by decide)]; exact q1
            · rw [c4, thr_14 _ _ (by decide)]; exact q21
            · unfold SE
              rw [eD, c1]
              have er : ∀ k s, k ≠ 26 → k ≠ 27 → k ≠ 28 → k ≠ 29 → k ≠ 30 → k ≠ 33 → k ≠ 34 → aA (sD σ) (dA σ) t k s = dA σ k s := Ar
              refine ⟨?_, s2, hLV, ?_, ?_, ?_, ?_, ?_, fun v q hv hq => ?_⟩
              · intro l hl
                rw [fk 3 (by decide), ek 3 (by decide) (by decide)]
                exact s1 l hl
              · refine RC_k fk ?_
                refine ⟨fun v hv => ?_, fun v q hv hq => ?_, fun c hc => ?_, ⟨fun c hc => ?_, fun v hv => ?_⟩, fun g hg => ?_, ?_, fun v q hv hq hq2 => ?_⟩
                · rw [er 31 v (by decide) (by decide) (by decide) (by decide) (by decide) (by decide) (by decide), er 32 v (by decide) (by decide) (by decide) (by decide) (by decide) (by decide) (by decide), er 35 v (by decide) (by decide) (by decide) (by decide) (by decide) (by decide) (by decide), er 36 v (by decide) (by decide) (by decide) (by decide) (by decide) (by decide) (by decide), er 37 v (by decide) (by decide) (by decide) (by decide) (by decide) (by decide) (by decide)]
                  by_cases e : v = t
                  · subst e
                    obtain ⟨y0, y1, y2, y3, y4, y5⟩ := e9t
                    rw [A26, A27, A28, A29, A30, y0, y1, y2, y3, y4, y5, e9o 6 (by decide), e9o 7 (by decide), e9o 8 (by decide), e9o 10 (by decide), e9o 11 (by decide)]
                    exact ⟨rfl, rfl, s5, rfl, rfl, fun _ => b6 (by rw [pl]; decide), b7, b8, b9, b10⟩
                  · rw [Ao 26 v (by omega) e, Ao 27 v (by omega) e, Ao 28 v (by omega) e, Ao 29 v (by omega) e, Ao 30 v (by omega) e]
                    simp only [e9 v _ e]
                    exact hT v hv
                · have hcv6 : cn (sD σ) v ≤ 6 := (cn6 h1 hv).2
                  rw [er 38 _ (by decide) (by decide) (by decide) (by decide) (by decide) (by decide) (by decide), e11o v q 7 (by omega), e11o v q 2 (by omega)]
                  obtain ⟨z1, z2, z3⟩ := hQ v q hv hq
                  by_cases e : v = t
                  · subst e
                    obtain ⟨g1, g2⟩ := e116 q hq
                    rw [(A33 q hq).1, (A33 q hq).2, g1, g2, if_pos rfl, z2]
                    exact ⟨fun _ => rfl, (a8 q hq).2.2.1, z3⟩
                  · rw [A33o 33 v q (by omega) e (by omega), A33o 34 v q (by omega) e (by omega), Ao 26 v (by omega) e, e11o v q 6 (by omega), e11o v q 5 (by omega)]
                    exact ⟨z1, z2, z3⟩
                · rw [ek 6 (by decide) (by decide), ek 7 (by decide) (by decide), er 39 c (by decide) (by decide) (by decide) (by decide) (by decide) (by decide) (by decide), er 42 c (by decide) (by decide) (by decide) (by decide) (by decide) (by decide) (by decide)]
                  exact hK c hc
                · rw [er 39 c (by decide) (by decide) (by decide) (by decide) (by decide) (by decide) (by decide), er 40 c (by decide) (by decide) (by decide) (by decide) (by decide) (by decide) (by decide)]
                  rcases hS.1 c hc with z | ⟨v, v1, v2, v3, v4⟩
                  · exact Or.inl z
                  · refine Or.inr ⟨v, v1, v2, ?_, v4⟩
                    by_cases e : v = t
                    · subst e
                      rw [e9t.2.2.2.1, ← v3, pl]
                    · rw [e9 v 3 e]; exact v3
                · by_cases e : v = t
                  · subst e
                    exact Or.inl e9t.2.2.2.1
                  · have hcv6 : cn (sD σ) v ≤ 6 := (cn6 h1 hv).2
                    rw [e9 v 3 e, er 31 v (by decide) (by decide) (by decide) (by decide) (by decide) (by decide) (by decide), nn_e (Ao 30 v (by omega) e)]
                    rcases hS.2 v hv with z | ⟨z1, ⟨c, z2, z3⟩, z4⟩
                    · exact Or.inl z
                    · refine Or.inr ⟨z1, ⟨c, z2, by rw [er 39 c (by decide) (by decide) (by decide) (by decide) (by decide) (by decide) (by decide)]; exact z3⟩, fun z => ?_⟩
                      have hq30 : nn (dA σ) 30 v < 6 := by
                        have hqq : σ 9 v 0 3 = dA σ 40 c := by
                          rcases hS.1 c z2 with w | ⟨u, u1, u2, u3, _⟩
                          · rw [z3] at w
                            exact absurd w.1 (nI_n1 (by omega))
                          · rw [nI_inj (by omega) (by omega) (z3.symm.trans u2)]
                            exact u3
                        obtain ⟨u, hu⟩ := (hBT.1.2.1 c z2).2 (by rw [nn_nI (n := 2) (by rw [← hqq]; exact z) (by decide)]; decide)
                        have e : u = v := nI_inj (by have := hu.1; omega) (by omega) (hu.2.1.symm.trans z3)
                        subst e
                        have := hu.2.2.2.2.1
                        omega
                      rw [A33o 33 v _ (by omega) e hq30]
                      exact z4 z
                · rw [ek 12 (by decide) (by decide), ek 13 (by decide) (by decide), er 44 g (by decide) (by decide) (by decide) (by decide) (by decide) (by decide) (by decide), nn_e (er 44 g (by decide) (by decide) (by decide) (by decide) (by decide) (by decide) (by decide))]
                  refine ⟨(hW g hg).1, fun i hi2 => ?_⟩
                  rw [er 43 _ (by decide) (by decide) (by decide) (by decide) (by decide) (by decide) (by decide)]
                  exact (hW g hg).2 i hi2
                · unfold RB at *
                  rw [er 45 0 (by decide) (by decide) (by decide) (by decide) (by decide) (by decide) (by decide), ← hB]
                  refine sI_congr (fun v hv => ?_)
                  by_cases e : v = t
                  · subst e; exact e9o 9 (by decide)
                  · exact e9 v 9 e
                · rw [e11o v q 5 (by
                    by_cases e : v = t
                    · subst e; omega
                    · omega), e11o v q 7 (by omega)]
                  exact hZ v q hv hq hq2
              · rw [fk 0 (by decide), ek 0 (by decide) (by decide), er 14 13 (by decide) (by decide) (by decide) (by decide) (by decide) (by decide) (by decide)]
                exact s5
              · intro c hc
                rw [er 41 c (by decide) (by decide) (by decide) (by decide) (by decide) (by decide) (by decide), er 39 c (by decide) (by decide) (by decide) (by decide) (by decide) (by decide) (by decide)]
                exact s6 c hc
              · rw [n14]
                intro c v hc hv z1 z2
                rw [er 39 c (by decide) (by decide) (by decide) (by decide) (by decide) (by decide) (by decide)] at z1
                rw [er 40 c (by decide) (by decide) (by decide) (by decide) (by decide) (by decide) (by decide)] at z2
                rw [er 32 v (by decide) (by decide) (by decide) (by decide) (by decide) (by decide) (by decide)]
                exact s7 c v hc hv z1 z2
              · rw [n14]
                exact s8
              · have hcv6 : cn (sD σ) v ≤ 6 := (cn6 h1 hv).2
                by_cases e : v = t
                · subst e
                  obtain ⟨_, _, u3, u4, _⟩ := h1.2.1 v q hv hq
                  have z := (A33 q hq).2
                  have n : nn (aA (sD σ) (dA σ) v) 34 (6 * v + q) = ln (sD σ) v q := nn_e z
                  exact ⟨⟨by rw [n, z]; exact u3.1, by omega⟩, by omega⟩
                · have z := A33o 34 v q (by omega) e (by omega)
                  unfold ok
                  rw [nn_e z, z]
                  exact s9 v q hv hq
        · have g27 : ¬ dA σ 27 t = 0 := fun z => hgo (Or.inl z)
          have g17 : ¬ sD σ 17 t ≤ dA σ 14 13 - dA σ 28 t := fun z => hgo (Or.inr z)
          have g8 : ¬ σ 8 t 0 3 ≤ σ 0 0 0 7 - σ 9 t 0 2 := by rw [a4, s5, b3]; exact g17
          have x27 : ks_up σ 14 0 0 0 0 27 0 0 t = dA σ 27 t := by rw [thr_k σ 0 (by decide), r27]
          have x28 : ks_up σ 14 0 0 0 0 28 0 0 t = dA σ 28 t := by rw [thr_k σ 0 (by decide), r28]
          have x17 : ks_up σ 14 0 0 0 0 17 0 0 t = sD σ 17 t := by rw [thr_k σ 0 (by decide), r17]
          have x14 : ks_up σ 14 0 0 0 0 14 0 0 13 = dA σ 14 13 := by rw [thr_14 σ 0 (by decide), r14]
          refine ⟨0, σ, 0, 0, ks_up σ 14 0 0 0 0, ?_, ?_, thr_hit _ _, fun _ => Or.inl ⟨rfl, rfl⟩, INV_thr 0 h⟩
          · simp [f_L_arrive, f_X4_arrive, t1, q1, b2, g27, g8]
          · simp [f_X5_arrive, f_X5_arrive_14, f_X5_arrive_26, t2, q2, ref_rf, rf, i16 ht, cl (show t < 96 by omega), x27, x28, x17, x14, g27, g17]
  · refine ⟨1, σ, o, 0, ks_up σ 14 0 0 0 1, ?_, ?_, thr_hit _ _, fun e => absurd e (by decide), INV_thr 1 h⟩
    · simp [f_L_arrive, f_X4_arrive, t1]
    · by_cases q : σ 14 0 0 12 = 0 <;> simp [f_X5_arrive, f_X5_arrive_14, f_X5_arrive_26, t2, q, ref_rf, rf]
