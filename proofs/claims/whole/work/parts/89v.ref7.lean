/-! PURE: the reference's ticks are the machine's. -/
def LV (D A : Nat → Nat → Int32) : Prop := ST D ∧ SG D ∧ (∃ F, BT D A F) ∧ A 14 13 = nI (nn A 14 13) ∧ ∀ t, t < 16 → A 27 t ≠ 0 → nn A 28 t ≤ nn A 14 13 ∧ A 28 t = nI (nn A 28 t)
theorem tick_now {D A : Nat → Nat → Int32} : aTick D A 14 13 = A 14 13 + 1 := au_hit _ _ _ _
theorem LV_tick {D A : Nat → Nat → Int32} (h : LV D A) (hlt : nn A 14 13 + 1 < 2 ^ 31) : LV D (aTick D A) ∧ nn (aTick D A) 14 13 = nn A 14 13 + 1 := by
  obtain ⟨h1, h2, ⟨F, h3⟩, h4, h5⟩ := h
  have e : aTick D A 14 13 = nI (nn A 14 13 + 1) := by rw [tick_now, ← nI_1, ← h4]
  have n : nn (aTick D A) 14 13 = nn A 14 13 + 1 := nn_nI e hlt
  have r : ∀ k, k = 27 ∨ k = 28 → aTick D A k = A k := fun k hk => by
    unfold aTick
    rw [au_row _ _ _ (by omega), aWM_row (by simp; omega)]
  refine ⟨⟨h1, h2, BT_tick h1 h2 h4 hlt (fun t ht q => (h5 t ht q).1) h3, by rw [n]; exact e, fun t ht q => ?_⟩, n⟩
  rw [r 27 (Or.inl rfl)] at q
  have := h5 t ht q
  rw [n]
  unfold nn at *
  rw [r 28 (Or.inr rfl)]
  exact ⟨by omega, this.2⟩
theorem LV_idle {D A : Nat → Nat → Int32} (h : LV D A) (h0 : ∀ t, t < 16 → A 26 t = 0) : Idle A := by
  obtain ⟨h1, h2, ⟨F, h3⟩, h4, h5⟩ := h
  refine ⟨h0, fun c hc => ?_, fun g hg => ?_⟩
  · obtain ⟨q1, q2⟩ := h3.1.2.1 c hc
    have : ¬ 1 < nn A 40 c := fun q => by
      obtain ⟨t, ht⟩ := q2 q
      exact ht.2.2.1 (h0 t ht.1)
    rw [q1.1, show (1 : Int32) = nI 1 from rfl]
    exact nI_le (by omega) (by decide)
  · have q1 := (h3.1.2.2.1 g hg).1
    have : ¬ 0 < nn A 44 g := fun q => by
      obtain ⟨s, v, p1, p2, p3, p3', p4, p5, p6, p7, p8, _, _, p11⟩ := row_left h3.1 hg q
      exact p11.2.2.1 (h0 v p11.1)
    rw [q1.1, show (0 : Int32) = nI 0 from rfl]
    exact nI_le (by omega) (by decide)
theorem t49_step {N n : Nat} {k41 : ks_S → Int32 → Int32 → Int32 → Option (Int32 × ks_S)} {σ σ' : ks_S} {x1 x2 x3 : Int32} {c : Nat} (hc : c < 4) (h : f_X5_choose N σ (nI c) = some σ') : f_X5_tick_49 N k41 (n + 1) σ x1 x2 x3 (nI c) = f_X5_tick_49 N k41 n σ' x1 x2 x3 (nI (c + 1)) := by
  rw [f_X5_tick_49, if_neg (z4 hc), h, Option.bind_some, nI_1]
theorem t111_step {N n : Nat} {k41 : ks_S → Int32 → Int32 → Int32 → Option (Int32 × ks_S)} {k49 k70 : ks_S → Int32 → Int32 → Int32 → Int32 → Option (Int32 × ks_S)} {σ σ' : ks_S} {x1 x2 x3 r : Int32} {c : Nat} (hc : c < 4) (h : f_X5_goOn N σ (nI c) = some (r, σ')) : f_X5_tick_111 N k41 k49 k70 (n + 1) σ x1 x2 x3 (nI c) = f_X5_tick_111 N k41 k49 k70 n σ' x1 (x2 + r) x3 (nI (c + 1)) := by
  rw [f_X5_tick_111, if_neg (z4 hc), h, Option.bind_some]
  dsimp only
  rw [nI_1]
def idC (A : Nat → Nat → Int32) (c : Nat) : Nat → Nat → Int32 := au (au (au (au A 41 c (-1)) 42 c 0) 39 c (-1)) 40 c 0
theorem t166_step {N n : Nat} {k41 : ks_S → Int32 → Int32 → Int32 → Option (Int32 × ks_S)} {k49 k70 k111 : ks_S → Int32 → Int32 → Int32 → Int32 → Option (Int32 × ks_S)} {μ σ : ks_S} {B : Nat → Nat → Int32} {x1 x2 x3 : Int32} {c : Nat} (hc : c < 4) (h : RR μ σ B) : ∃ σ', f_X5_tick_166 N k41 k49 k70 k111 (n + 1) σ x1 x2 x3 1 (nI c) = f_X5_tick_166 N k41 k49 k70 k111 n σ' x1 x2 x3 1 (nI (c + 1)) ∧ RR μ σ' (idC B c) := by
  rw [f_X5_tick_166, if_neg (z4 hc), if_neg (by decide)]
  simp only [i4 hc, ↓reduceIte, cl (i := c) (by omega)]
  rw [nI_1]
  exact ⟨_, rfl, RR_up _ (by decide) (by decide) (inr4 (by decide) (by decide) hc) (RR_up _ (by decide) (by decide) (inr4 (by decide) (by decide) hc) (RR_up _ (by decide) (by decide) (inr4 (by decide) (by decide) hc) (RR_up _ (by decide) (by decide) (inr4 (by decide) (by decide) hc) h)))⟩
theorem idC_all (A : Nat → Nat → Int32) : idC (idC (idC (idC A 0) 1) 2) 3 = idA A := by
  funext k s
  unfold idC idA au
  by_cases hs : s < 4
  · obtain rfl | rfl | rfl | rfl : s = 0 ∨ s = 1 ∨ s = 2 ∨ s = 3 := by omega
    all_goals
      by_cases k39 : k = 39
      · subst k39; simp
      · by_cases k40 : k = 40
        · subst k40; simp
        · by_cases k41 : k = 41
          · subst k41; simp
          · by_cases k42 : k = 42
            · subst k42; simp
            · simp [k39, k40, k41, k42]
  · have s0 : s ≠ 0 := by omega
    have s1 : s ≠ 1 := by omega
    have s2 : s ≠ 2 := by omega
    have s3 : s ≠ 3 := by omega
    simp [s0, s1, s2, s3, hs]
/-- the end of a tick -/
theorem ref_mid {N : Nat} (hN : 16 < N) {k41 : ks_S → Int32 → Int32 → Int32 → Option (Int32 × ks_S)} {μ : ks_S} {x1 x2 x3 : Int32} (h : LV (sD μ) (dA μ)) : ∃ k49 k70 n' μ', f_X5_tick_49 N k41 N μ x1 x2 x3 0 = f_X5_tick_111 N k41 k49 k70 (n' + 1) μ' x1 (aAdd (sD μ) (dA μ) x2) x3 (nI 4) ∧ RR μ μ' (aWrk (sD μ) (aMid (sD μ) (dA μ))) := by
  obtain ⟨h1, h2, ⟨F, h3⟩, h4, h5⟩ := h
  obtain ⟨n0, hn0⟩ : ∃ n0, N = n0 + 5 := ⟨N - 5, by omega⟩
  have c0 : CH (sD μ) (dA μ) F 0 := ⟨h3.1, fun c hc => absurd hc (by omega)⟩
  obtain ⟨μ1, a1, r1⟩ := ref_choose hN (c := 0) (by omega) h1 h2 c0.1
  obtain ⟨F1, c1⟩ := CH_step h1 h2 (by omega) c0
  obtain ⟨μ2, a2, r2⟩ := ref_choose hN (μ := μ1) (c := 1) (F := F1) (by omega) (by rw [r1.2.1]; exact h1) (by rw [r1.2.1]; exact h2) (by rw [r1.2.1, r1.1]; exact c1.1)
  rw [r1.2.1, r1.1] at r2
  obtain ⟨F2, c2⟩ := CH_step h1 h2 (by omega) c1
  obtain ⟨μ3, a3, r3⟩ := ref_choose hN (μ := μ2) (c := 2) (F := F2) (by omega) (by rw [r2.2.1, r1.2.1]; exact h1) (by rw [r2.2.1, r1.2.1]; exact h2) (by rw [r2.2.1, r2.1, r1.2.1]; exact c2.1)
  rw [r2.2.1, r2.1, r1.2.1] at r3
  obtain ⟨F3, c3⟩ := CH_step h1 h2 (by omega) c2
  obtain ⟨μ4, a4, r4⟩ := ref_choose hN (μ := μ3) (c := 3) (F := F3) (by omega) (by rw [r3.2.1, r2.2.1, r1.2.1]; exact h1) (by rw [r3.2.1, r2.2.1, r1.2.1]; exact h2) (by rw [r3.2.1, r3.1, r2.2.1, r1.2.1]; exact c3.1)
  rw [r3.2.1, r3.1, r2.2.1, r1.2.1] at r4
  obtain ⟨F4, c4⟩ := CH_step h1 h2 (by omega) c3
  have rc : RR μ μ4 (aCho (sD μ) (dA μ)) := RR_trans r1 (RR_trans r2 (RR_trans r3 r4))
  have c4 : CH (sD μ) (aCho (sD μ) (dA μ)) F4 4 := c4
  have hrow : ∀ g, g < 8 → ¬ dA μ4 44 g ≤ 0 → ∃ c, c < 4 ∧ dA μ4 43 (4 * g) = nI c := fun g hg q => by
    rw [rc.1] at q ⊢
    have o := (c4.1.2.2.1 g hg).1
    have hm : 0 < nn (aCho (sD μ) (dA μ)) 44 g := Nat.pos_of_ne_zero (fun e => q (by rw [o.1, e]; decide))
    obtain ⟨s, v, p1, p2, p3, _⟩ := row_left c4.1 hg hm
    exact ⟨s, p1, p3⟩
  have hh := ref_hold hrow 8 (Nat.le_refl _)
  rw [rc.1] at hh
  have rh : RR μ (pHoldL μ4 8) (aMid (sD μ) (dA μ)) := RR_trans rc hh
  obtain ⟨kk, hk⟩ := hold_loop N μ4 k41 (f_X5_tick_49 N k41 n0) x1 x2 x3 (fun g hg q => by
    obtain ⟨c, p1, p2⟩ := hrow g hg (by rw [← rd (inr44 hg) (by decide)]; exact q)
    exact ⟨c, p1, by rw [← p2]; exact rd (inr43 (by omega)) (by decide)⟩) 8 N 0 rfl (by omega)
  rw [pHoldL] at hk
  have w0 := WK_start c4
  have w0 : WK (sD μ) (aMid (sD μ) (dA μ)) F4 (fun _ => nn (aCho (sD μ) (dA μ)) 14 13) (fun _ => nn (aCho (sD μ) (dA μ)) 14 13) 0 := w0
  have e49 : f_X5_tick_49 N k41 N μ x1 x2 x3 0 = f_X5_tick_111 N k41 (f_X5_tick_49 N k41 n0) kk (n0 + 5) (pHoldL μ4 8) x1 x2 x3 (nI 0) := by
    have : f_X5_tick_49 N k41 N = f_X5_tick_49 N k41 (n0 + 5) := by rw [← hn0]
    rw [this, show (0 : Int32) = nI 0 from rfl, t49_step (by omega) a1, t49_step (by omega) a2, t49_step (by omega) a3, t49_step (by omega) a4, f_X5_tick_49, if_pos e4, show (0 : Int32) = nI 0 from rfl, hk, ← hn0]
    rfl
  generalize pHoldL μ4 8 = ν at *
  obtain ⟨ν1, b1, s1⟩ := ref_go (N := N) (μ := ν) (by omega) (c := 0) (by omega) (by rw [rh.2.1]; exact h1) (by rw [rh.2.1]; exact h2) (by rw [rh.2.1, rh.1]; exact w0)
  rw [rh.2.1, rh.1] at b1 s1
  obtain ⟨u1, v1, w1⟩ := WK_step h1 h2 (by omega) w0
  have d1 := s1.2.1.trans rh.2.1
  obtain ⟨ν2, b2, s2⟩ := ref_go (N := N) (μ := ν1) (by omega) (c := 1) (by omega) (by rw [d1]; exact h1) (by rw [d1]; exact h2) (by rw [d1, s1.1]; exact w1)
  rw [d1, s1.1] at b2 s2
  obtain ⟨u2, v2, w2⟩ := WK_step h1 h2 (by omega) w1
  have d2 := s2.2.1.trans d1
  obtain ⟨ν3, b3, s3⟩ := ref_go (N := N) (μ := ν2) (by omega) (c := 2) (by omega) (by rw [d2]; exact h1) (by rw [d2]; exact h2) (by rw [d2, s2.1]; exact w2)
  rw [d2, s2.1] at b3 s3
  obtain ⟨u3, v3, w3⟩ := WK_step h1 h2 (by omega) w2
  have d3 := s3.2.1.trans d2
  obtain ⟨ν4, b4, s4⟩ := ref_go (N := N) (μ := ν3) (by omega) (c := 3) (by omega) (by rw [d3]; exact h1) (by rw [d3]; exact h2) (by rw [d3, s3.1]; exact w3)
  rw [d3, s3.1] at b4 s4
  refine ⟨f_X5_tick_49 N k41 n0, kk, n0, ν4, ?_, RR_trans rh (RR_trans s1 (RR_trans s2 (RR_trans s3 s4)))⟩
  rw [e49, t111_step (by omega) b1, t111_step (by omega) b2, t111_step (by omega) b3, t111_step (by omega) b4]
  rfl
theorem ref_ticks {N : Nat} (hN : 16 < N) {K : Nat} (hK : K ≤ 100000) : ∀ m n k μ x, k + m = K → m < n → LV (sD μ) (dA μ) → nn (dA μ) 14 13 + m < 2 ^ 30 → ∃ μ', f_X5_tick_41 N n μ (nI K) x (nI k) = some (aItR (sD μ) (dA μ) x m, μ') ∧ RR μ μ' (aIt (sD μ) (dA μ) m) := by
  intro m
  induction m with
  | zero =>
    intro n k μ x hk hn h hlt
    obtain ⟨n, rfl⟩ : ∃ n', n = n' + 1 := ⟨n - 1, by omega⟩
    refine ⟨μ, ?_, RR_refl μ⟩
    rw [f_X5_tick_41, if_pos (nI_le (by omega) (by omega))]
    rfl
  | succ m ih =>
    intro n k μ x hk hn h hlt
    obtain ⟨n, rfl⟩ : ∃ n', n = n' + 1 := ⟨n - 1, by omega⟩
    rw [f_X5_tick_41, if_neg (nI_ge (by omega) (by omega))]
    obtain ⟨k49, k70, n', μ1, e1, r1⟩ := ref_mid hN (k41 := f_X5_tick_41 N n) (x1 := nI K) (x2 := x) (x3 := nI k) h
    rw [e1, f_X5_tick_111, if_pos e4]
    have hnow : μ1 14 0 0 13 = dA μ 14 13 := by
      rw [rdR r1 inr14 (by decide), aWM_row (by decide)]
    rw [hnow]
    have r2 : RR μ (ks_up μ1 14 0 0 13 (dA μ 14 13 + 1)) (aTick (sD μ) (dA μ)) := RR_now _ r1
    generalize ks_up μ1 14 0 0 13 (dA μ 14 13 + 1) = μ2 at *
    obtain ⟨hL, hL2⟩ := LV_tick h (by omega)
    obtain ⟨b, b1, b2⟩ := ref_open hN μ2
    rw [b1, Option.bind_some]
    dsimp only
    rw [nI_1]
    have hcont : ∃ μ', f_X5_tick_41 N n μ2 (nI K) (aAdd (sD μ) (dA μ) x) (nI (k + 1)) = some (aItR (sD μ) (dA μ) x (m + 1), μ') ∧ RR μ μ' (aIt (sD μ) (dA μ) (m + 1)) := by
      obtain ⟨μ', q1, q2⟩ := ih n (k + 1) μ2 (aAdd (sD μ) (dA μ) x) (by omega) (by omega) (by rw [r2.1, r2.2.1]; exact hL) (by rw [r2.1, hL2]; omega)
      rw [r2.1, r2.2.1] at q1 q2
      exact ⟨μ', q1, RR_trans r2 q2⟩
    rcases b2 with ⟨rfl, b3⟩ | ⟨rfl, b3⟩
    · rw [if_pos rfl]
      rw [r2.1] at b3
      have hI := LV_idle hL b3
      have now2 : ∀ σ C, RR μ σ C → C 14 13 = aTick (sD μ) (dA μ) 14 13 → σ 14 0 0 13 + nI K - nI k - 1 = aTick (sD μ) (dA μ) 14 13 + nI m := fun σ C q1 q2 => by
        rw [rdR q1 inr14 (by decide), q2, hL.2.2.2.1, hL2, nI_add, nI_add, pk_sub (by omega)]
        obtain ⟨z, hz⟩ : ∃ z, nn (dA μ) 14 13 + 1 + K - k = z + 1 := ⟨nn (dA μ) 14 13 + K - k, by omega⟩
        rw [hz, nI_pred]
        congr 1
        omega
      have fin : ∀ σ, f_X5_tick_41 N n σ (nI K) (aAdd (sD μ) (dA μ) x) (nI K + 1) = some (aAdd (sD μ) (dA μ) x, σ) := fun σ => by
        obtain ⟨n, rfl⟩ : ∃ n', n = n' + 1 := ⟨n - 1, by omega⟩
        rw [f_X5_tick_41, nI_1, if_pos (nI_le (by omega) (by omega))]
      obtain ⟨n0, hn0⟩ : ∃ n0, N = n0 + 5 := ⟨N - 5, by omega⟩
      have e166 : ∀ k111, f_X5_tick_166 N (f_X5_tick_41 N n) k49 k70 k111 N = f_X5_tick_166 N (f_X5_tick_41 N n) k49 k70 k111 (n0 + 5) := fun k111 => by rw [← hn0]
      by_cases hm : m = 0
      · subst hm
        rw [if_pos (nI_le (by omega) (by omega)), e166, f_X5_tick_166, if_neg (by decide), if_pos rfl, fin, now2 μ2 _ r2 rfl, show nI 0 = 0 from rfl, Int32.add_zero]
        refine ⟨_, rfl, ?_⟩
        have := RR_now (aTick (sD μ) (dA μ) 14 13) r2
        have e : au (aTick (sD μ) (dA μ)) 14 13 (aTick (sD μ) (dA μ) 14 13) = aTick (sD μ) (dA μ) := by
          funext k' s'
          unfold au
          split
          · rename_i q; rw [q.1, q.2]
          · rfl
        rw [e] at this
        exact this
      · obtain ⟨p, rfl⟩ : ∃ p, m = p + 1 := ⟨m - 1, by omega⟩
        rw [if_neg (nI_ge (by omega) (by omega)), e166, show (0 : Int32) = nI 0 from rfl]
        obtain ⟨q1, w1, z1⟩ := t166_step (N := N) (n := n0 + 4) (k41 := f_X5_tick_41 N n) (k49 := k49) (k70 := k70) (k111 := f_X5_tick_111 N (f_X5_tick_41 N n) k49 k70 n') (x1 := nI K) (x2 := aAdd (sD μ) (dA μ) x) (x3 := nI k) (c := 0) (by omega) r2
        obtain ⟨q2, w2, z2⟩ := t166_step (N := N) (n := n0 + 3) (k41 := f_X5_tick_41 N n) (k49 := k49) (k70 := k70) (k111 := f_X5_tick_111 N (f_X5_tick_41 N n) k49 k70 n') (x1 := nI K) (x2 := aAdd (sD μ) (dA μ) x) (x3 := nI k) (c := 1) (by omega) z1
        obtain ⟨q3, w3, z3⟩ := t166_step (N := N) (n := n0 + 2) (k41 := f_X5_tick_41 N n) (k49 := k49) (k70 := k70) (k111 := f_X5_tick_111 N (f_X5_tick_41 N n) k49 k70 n') (x1 := nI K) (x2 := aAdd (sD μ) (dA μ) x) (x3 := nI k) (c := 2) (by omega) z2
        obtain ⟨q4, w4, z4⟩ := t166_step (N := N) (n := n0 + 1) (k41 := f_X5_tick_41 N n) (k49 := k49) (k70 := k70) (k111 := f_X5_tick_111 N (f_X5_tick_41 N n) k49 k70 n') (x1 := nI K) (x2 := aAdd (sD μ) (dA μ) x) (x3 := nI k) (c := 3) (by omega) z3
        rw [w1, w2, w3, w4, f_X5_tick_166, if_pos e4, fin]
        rw [idC_all] at z4
        have hz : idA (aTick (sD μ) (dA μ)) 14 13 = aTick (sD μ) (dA μ) 14 13 := by unfold idA; simp
        rw [now2 q4 _ z4 hz]
        obtain ⟨i1, i2⟩ := idle_it (D := sD μ) (aAdd (sD μ) (dA μ) x) p _ hI
        refine ⟨ks_up q4 14 0 0 13 (aTick (sD μ) (dA μ) 14 13 + nI (p + 1)), ?_, ?_⟩
        · rw [aItR, i2]
        · rw [aIt, i1]
          exact RR_now _ z4
    · rw [if_neg (by decide)]
      exact hcont
