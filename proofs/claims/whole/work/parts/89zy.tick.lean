/-! PURE: tick, shorten. -/
theorem aGo_41 {D B : Nat → Nat → Int32} {c s : Nat} : aGo D B c 41 s = if s = c then B 39 c else B 41 s := by
  have t : aTell B c 41 s = if s = c then B 39 c else B 41 s := by
    unfold aTell
    rw [au_k _ _ _ _ (by decide), au_at]
  unfold aGo
  split
  · exact t
  · rw [aFin_row (by decide) (by decide) (by decide) (by decide) (by decide), aDo_row (by decide) (by decide) (by decide) (by decide) (by decide) (by decide) (by decide) (by decide)]
    exact t
theorem tick_41 {D A : Nat → Nat → Int32} {c : Nat} (hc : c < 4) : aTick D A 41 c = aTick D A 39 c := by
  have r : ∀ (B : Nat → Nat → Int32) c, aGo D B c 39 = B 39 := fun B c => aGo_row (by decide)
  unfold aTick aWrk
  rw [au_k _ _ _ _ (by decide), au_k _ _ _ _ (by decide), aGo_41, aGo_41, aGo_41, aGo_41]
  simp only [r]
  obtain rfl | rfl | rfl | rfl : c = 0 ∨ c = 1 ∨ c = 2 ∨ c = 3 := by omega
  all_goals simp
theorem it_41 {D A : Nat → Nat → Int32} {n c : Nat} (hn : 1 ≤ n) (hc : c < 4) : aIt D A n 41 c = aIt D A n 39 c := by
  obtain ⟨m, rfl⟩ : ∃ m, n = m + 1 := ⟨n - 1, by omega⟩
  have e : aIt D A (m + 1) = aTick D (aIt D A m) := (aIt_add D m 1 A (0 : Int32)).1
  rw [e]
  exact tick_41 hc
theorem aChoose_34 {D A : Nat → Nat → Int32} {c : Nat} : aChoose D A c 34 = A 34 := by
  unfold aChoose
  split
  · split
    · unfold aJoin aPick
      rw [au_row _ _ _ (by decide), au_row _ _ _ (by decide), au_row _ _ _ (by decide), au_row _ _ _ (by decide), au_row _ _ _ (by decide), au_row _ _ _ (by decide), au_row _ _ _ (by decide)]
    · unfold aPick
      rw [au_row _ _ _ (by decide), au_row _ _ _ (by decide)]
  · rfl
theorem it_34 {D : Nat → Nat → Int32} : ∀ n (A : Nat → Nat → Int32), aIt D A n 34 = A 34 := by
  intro n
  induction n with
  | zero => intro A; rfl
  | succ n ih =>
    intro A
    rw [aIt, ih]
    unfold aTick aWrk aMid aCho
    rw [au_row _ _ _ (by decide), aGo_row (k := 34) (by decide), aGo_row (k := 34) (by decide), aGo_row (k := 34) (by decide), aGo_row (k := 34) (by decide), aHoldL_row (by decide), aChoose_34, aChoose_34, aChoose_34, aChoose_34]
theorem RC_k {D A : Nat → Nat → Int32} {σ s : ks_S} (h : ∀ k, k < 14 → s k = σ k) (hR : RC D σ A) : RC D s A := by
  unfold RC RT RQ RK RS RW RB RZ at *
  rw [h 6 (by decide), h 7 (by decide), h 9 (by decide), h 11 (by decide), h 12 (by decide), h 13 (by decide)]
  exact hR
theorem dA_cls {σ σ' : ks_S} (h : ∀ k, 14 ≤ k → σ' k = σ k) : dA σ' = dA σ := by
  funext k s
  unfold dA
  rw [sD_cls h]
  by_cases q : inr (sD σ) k s = true
  · rw [if_pos q, if_pos q, h 14 (by decide)]
    by_cases q2 : k = 45
    · rw [if_pos q2, if_pos q2]
    · rw [if_neg q2, if_neg q2]
      have : 14 ≤ k := by
        cases Decidable.em (14 ≤ k) with
        | inl w => exact w
        | inr w =>
          exfalso
          unfold inr at q
          rw [if_neg (by omega), if_neg (by omega), if_neg (by omega), if_neg (by omega), if_neg (by omega), if_neg (by omega), if_neg (by omega)] at q
          exact absurd q (by decide)
      rw [h k this]
  · rw [if_neg q, if_neg q]
theorem op_tick {N w : Nat} (hN : 100001 < N) (hw : w ≤ 512) {σ : ks_S} (o : Int64) (x : Int32) (h : INV w σ) : OPV (w + 1) (f_L_tick N σ o x) (fun s => f_X5_tick N s x) := by
  obtain ⟨h1, h2, h3, h4, h5⟩ := id h
  have hm := fun (v : Int32) => INV_mono (show w ≤ w + 1 by omega) (INV_thr v h)
  rcases INV_seal h with ⟨q1, q2, q3⟩ | ⟨q1, q2, q3⟩
  · refine ⟨1, σ, o, 0, ks_up σ 14 0 0 0 1, ?_, ?_, thr_hit _ _, fun e => absurd e (by decide), hm 1⟩
    · simp [f_L_tick, f_X4_tick, q1]
    · by_cases p : wi x 1 100000 = 0 <;> simp [f_X5_tick, q2, f_X5_tick_13, ref_wi, p, ref_rf, rf]
  · rcases wi1_cases x (n := 100000) (by decide) with p | ⟨p, n, n1, n2, rfl⟩
    · have p : wi x 1 100000 = 0 := p
      refine ⟨2, σ, o, 0, ks_up σ 14 0 0 0 2, ?_, ?_, thr_hit _ _, fun e => absurd e (by decide), hm 2⟩
      · simp [f_L_tick, f_X4_tick, q1, cls_wi, p]
      · simp [f_X5_tick, q2, f_X5_tick_13, ref_wi, p, ref_rf, rf]
    · have p : wi (nI n) 1 100000 = 1 := p
      obtain ⟨s1, s2, s3, s4, s5, s6, s7, s8, s9⟩ := id q3
      have hnow : nn (dA σ) 14 13 ≤ 51200000 := by
        have := Nat.mul_le_mul_left 100000 hw
        omega
      obtain ⟨σ1, a1, a2, a3, a4⟩ := cls_ticks (N := N) (by omega) (D := sD σ) n n N σ 0 (dA σ) (4 * nn (dA σ) 14 13) (Nat.le_refl _) (by omega) n2 h2 s1 s4 s3 s7 (by omega) (by omega) s5
      have hhi : ∀ k, 14 ≤ k → σ1 k = σ k := fun k hk => a3.1 k (by omega) (by omega) (by omega) (by omega) (by omega) (by omega) (by omega)
      have d1 : sD (ks_up σ1 14 0 0 0 0) = sD σ := by rw [sD_thr]; exact sD_cls hhi
      have d2 : dA (ks_up σ1 14 0 0 0 0) = dA σ := by rw [dA_thr]; exact dA_cls hhi
      obtain ⟨μ, b1, b2⟩ := ref_ticks (N := N) (by omega) n2 n N 0 (ks_up σ1 14 0 0 0 0) 0 (by omega) (by omega) (by rw [d1, d2]; exact s3) (by rw [d2]; omega)
      rw [d1, d2] at b1 b2
      have b1 : f_X5_tick_41 N N (ks_up σ1 14 0 0 0 0) (nI n) 0 0 = some (aItR (sD σ) (dA σ) 0 n, μ) := b1
      obtain ⟨L1, L2, L3⟩ := LV_it n (dA σ) (4 * nn (dA σ) 14 13) s3 s7 (by omega)
      have r12 : σ1 14 0 0 12 = 1 := by rw [hhi 14 (by decide)]; exact q2
      obtain ⟨c1, c2, c3, c4, c5⟩ := b2
      have ek : ∀ k, k < 14 → μ k = σ1 k := fun k hk => by rw [c3 k hk, thr_k σ1 0 (by omega)]
      have e8 : μ 8 = σ 8 := by rw [ek 8 (by decide)]; exact a3.1 8 (by decide) (by decide) (by decide) (by decide) (by decide) (by decide) (by decide)
      have e3 : μ 3 = σ 3 := by rw [ek 3 (by decide)]; exact a3.1 3 (by decide) (by decide) (by decide) (by decide) (by decide) (by decide) (by decide)
      have eD : sD μ = sD σ := c2.trans d1
      refine ⟨0, σ1, (aItR (sD σ) (dA σ) 0 n).toInt64, aItR (sD σ) (dA σ) 0 n, μ, ?_, ?_, ?_, fun _ => rfl, ?_⟩
      · simp [f_L_tick, f_X4_tick, q1, cls_wi, p, a1]
      · simp [f_X5_tick, r12, f_X5_tick_13, ref_wi, p, ref_rf, rf, b1]
      · rw [c5, thr_hit]
      · refine ⟨by rw [eD]; exact h1, ?_, ?_, Or.inr ⟨?_, ?_, ?_⟩, by rw [e8]; exact h5⟩
        · rw [eD]
          have := CSt_FN a3 h2
          unfold CSt at *
          rw [ek 8 (by decide), ek 11 (by decide)]
          exact this
        · rw [eD]
          have ew : wg (sD σ) μ = wg (sD σ) σ := by
            funext k s
            unfold wg
            rw [e3]
          refine ⟨by rw [e3]; exact h3.1, fun t ht hth => ?_⟩
          rw [ew, e8, ek 11 (by decide)]
          obtain ⟨m1, m2⟩ := h3.2 t ht hth
          refine ⟨m1, fun r hr => ?_⟩
          rw [a3.2.1 t r 4 (by decide)]
          exact m2 r hr
        · rw [ek 0 (by decide), a3.2.2]
          exact q1
        · rw [c4, thr_14 _ _ (by decide)]
          exact r12
        · unfold SE
          rw [eD, c1]
          refine ⟨?_, s2, L1, RC_k ek a2, ?_, fun c hc => it_41 n1 hc, ?_, ?_, fun t r ht hr => ?_⟩
          · intro l hl
            rw [e3]
            exact s1 l hl
          · rw [ek 0 (by decide)]
            exact a4
          · rw [L2]
            rw [Nat.mul_add]
            exact L3
          · rw [L2, Nat.mul_add]
            omega
          · have := s9 t r ht hr
            unfold ok nn at *
            rw [it_34]
            exact this
/-- what the machine doesn't read -/
theorem LV_34 {D A : Nat → Nat → Int32} {s : Nat} {v : Int32} (h : LV D A) : LV D (au A 34 s v) := by
  obtain ⟨h1, h2, ⟨F, hB⟩, h4, h5⟩ := h
  have e : ∀ k, k ≠ 34 → au A 34 s v k = A k := fun k hk => au_row _ _ _ hk
  have n : ∀ k z, k ≠ 34 → nn (au A 34 s v) k z = nn A k z := fun k z hk => by unfold nn; rw [e k hk]
  refine ⟨h1, h2, ⟨F, ?_, ?_⟩, ?_, ?_⟩
  · rw [n 14 13 (by decide)]
    exact PH_rel (fun k hk => by
      simp only [List.mem_cons, List.not_mem_nil, or_false] at hk
      exact e k (by omega)) hB.1
  · intro c t hc q1 q2 q3
    rw [n 40 c (by decide)] at q1
    rw [e 39 (by decide)] at q2
    rw [n 14 13 (by decide), n 30 t (by decide)]
    exact hB.2 c t hc q1 q2 q3
  · rw [n 14 13 (by decide), e 14 (by decide)]
    exact h4
  · intro t ht q
    rw [e 27 (by decide)] at q
    rw [n 28 t (by decide), n 14 13 (by decide), e 28 (by decide)]
    exact h5 t ht q
theorem op_shorten {w : Nat} {σ : ks_S} (o : Int64) (x1 x2 x3 : Int32) (h : INV w σ) : OPU w (f_L_shorten σ o x1 x2 x3) (fun s => f_X5_shorten s x1 x2 x3) := by
  obtain ⟨h1, h2, h3, h4, h5⟩ := id h
  rcases task_dec h1 h2 (RD_sD σ) x1 with ⟨t, ht, rfl, hth, t1, t2⟩ | ⟨t1, t2, _⟩
  · rcases req_dec h1 h2 (RD_sD σ) ht hth t2 x2 with ⟨r, hr, rfl, r1, r2⟩ | ⟨r1, r2⟩
    · have hcn6 : cn (sD σ) t ≤ 6 := (cn6 h1 ht).2
      have hi : 6 * t + r < 96 := by omega
      rcases h2 t ht with ⟨_, w⟩ | ⟨a0, a1, a2, a3, a4, a5, a6, a7, a8⟩
      · exact absurd w hth
      · obtain ⟨m1, m2, m3, m4⟩ := a8 r hr
        have hln : sD σ 23 (6 * t + r) = nI (ln (sD σ) t r) := (h1.2.1 t r ht hr).2.2.1.1
        have hl100 := ln100 h1 ht hr
        have h23 : σ 23 0 0 (6 * t + r) = nI (ln (sD σ) t r) := by rw [rs (μ := σ) (k := 23) (by decide) (by decide)]; exact hln
        have hout := ref_outer' (μ := σ) hi
        rcases INV_seal h with ⟨q1, q2, q3⟩ | ⟨q1, q2, q3⟩
        · refine ⟨2, σ, o, ks_up σ 14 0 0 0 2, ?_, ?_, thr_hit _ _, INV_thr 2 h⟩
          · simp [f_L_shorten, f_X4_shorten, t1, r1, q1]
          · by_cases ho : ou (sD σ) t r = true
            · rw [if_pos ho] at hout
              by_cases p : wi x3 1 (nI (ln (sD σ) t r)) = 0
              · simp [f_X5_shorten, f_X5_shorten_15, f_X5_shorten_27, r2, q2, hout, nI_6, i96 hi, cl hi, ref_wi, h23, p, f_X5_shorten_64, f_X5_shorten_69, ref_rf, rf]
              · simp [f_X5_shorten, f_X5_shorten_15, f_X5_shorten_27, r2, q2, hout, nI_6, i96 hi, cl hi, ref_wi, h23, p, f_X5_shorten_68, f_X5_shorten_69, ref_rf, rf]
            · rw [if_neg ho] at hout
              simp [f_X5_shorten, f_X5_shorten_15, f_X5_shorten_27, r2, q2, hout, f_X5_shorten_64, f_X5_shorten_69, ref_rf, rf]
        · by_cases ho : ou (sD σ) t r = true
          · rw [if_pos ho] at hout
            have e24 : sD σ 24 (6 * t + r) = -1 := of_decide_eq_true ho
            have hcin : f_X1_isOuter σ t r = some (1, σ) := by
              unfold f_X1_isOuter
              rw [m4, if_pos e24]
            have c23 : σ 11 t r 2 = nI (ln (sD σ) t r) := by rw [m3]; exact hln
            rcases wi1_cases x3 (n := ln (sD σ) t r) (by omega) with p | ⟨p, l, l1, l2, rfl⟩
            · refine ⟨3, σ, o, ks_up σ 14 0 0 0 3, ?_, ?_, thr_hit _ _, INV_thr 3 h⟩
              · simp [f_L_shorten, f_X4_shorten, t1, r1, q1, hcin, cls_wi, c23, p]
              · simp [f_X5_shorten, f_X5_shorten_15, f_X5_shorten_27, r2, q2, hout, nI_6, i96 hi, cl hi, ref_wi, h23, p, f_X5_shorten_64, f_X5_shorten_69, ref_rf, rf]
            · -- it is told
              let s1 := ks_up σ 11 t r 5 (nI l)
              have hs1 : s1 = ks_up σ 11 t r 5 (nI l) := rfl
              have hhi : ∀ k, 14 ≤ k → s1 k = σ k := fun k hk => by
                funext i j z
                rw [hs1, ks_up_at, if_neg (by omega)]
              have e3 : sD s1 = sD σ := sD_cls hhi
              have hRD : RD (sD σ) s1 := fun k s b1 b2 => by rw [hhi k (by omega)]; exact rs b1 (by omega)
              have htk := isTask_of h1 hRD ht hth
              have o20 : s1 20 0 0 t = nI (cn (sD σ) t) := by rw [hRD 20 t (by decide) (by decide)]; exact (cn6 h1 ht).1
              have hrq : f_X5_isRequest s1 (nI t) (nI r) = some (1, s1) := by
                unfold f_X5_isRequest
                rw [htk, Option.bind_some]
                dsimp only
                rw [if_neg (by decide), if_neg (nI_pos (by omega)), if_pos (i16 ht), cl (by omega)]
                simp only [o20]
                rw [if_neg (nI_ge hr (by omega))]
              have hout1 := ref_outer' (μ := s1) hi
              rw [e3, if_pos ho] at hout1
              have h231 : s1 23 0 0 (6 * t + r) = nI (ln (sD σ) t r) := by rw [hhi 23 (by decide)]; exact h23
              have q21 : s1 14 0 0 12 = 1 := by rw [hhi 14 (by decide)]; exact q2
              let s2 := ks_up (ks_up s1 14 0 0 0 0) 34 0 0 (6 * t + r) (nI l)
              have hs2 : s2 = ks_up (ks_up s1 14 0 0 0 0) 34 0 0 (6 * t + r) (nI l) := rfl
              refine ⟨0, s1, o, s2, ?_, ?_, ?_, ?_⟩
              · simp [f_L_shorten, f_X4_shorten, t1, r1, q1, hcin, cls_wi, c23, p, hs1]
              · show f_X5_shorten s1 (nI t) (nI r) (nI l) = some s2
                simp [f_X5_shorten, f_X5_shorten_15, f_X5_shorten_27, hrq, q21, hout1, nI_6, i96 hi, cl hi, ref_wi, h231, p, f_X5_shorten_68, f_X5_shorten_69, ref_rf, rf, hs2]
              · rw [hs2, ks_up_at, if_neg (by omega), thr_hit]
              · have eD : sD s2 = sD σ := by rw [hs2, sD_up (by omega), sD_thr, e3]
                have eA : dA s2 = au (dA σ) 34 (6 * t + r) (nI l) := by
                  rw [hs2, dA_up (by decide) (by decide) (by rw [sD_thr, e3]; exact inr96 (Or.inr (Or.inl rfl)) ht hr hcn6), dA_thr, dA_cls hhi]
                have fk : ∀ k, k < 14 → k ≠ 11 → s2 k = σ k := fun k b1 b2 => by
                  funext i j z
                  rw [hs2, ks_up_at, if_neg (by omega), ks_up_at, if_neg (by omega), hs1, ks_up_at, if_neg (by omega)]
                have f11 : ∀ v q z, ¬ (v = t ∧ q = r ∧ z = 5) → s2 11 v q z = σ 11 v q z := fun v q z hq => by
                  rw [hs2, ks_up_at, if_neg (by omega), ks_up_at, if_neg (by omega), hs1, ks_up_at, if_neg (fun w => hq ⟨w.2.1, w.2.2.1, w.2.2.2⟩)]
                have f115 : s2 11 t r 5 = nI l := by
                  rw [hs2, ks_up_at, if_neg (by omega), ks_up_at, if_neg (by omega), hs1, ks_up_hit]
                have f14 : ∀ z, z ≠ 0 → s2 14 0 0 z = σ 14 0 0 z := fun z hz => by
                  rw [hs2, ks_up_at, if_neg (by omega), thr_14 _ _ hz, hhi 14 (by decide)]
                obtain ⟨s1', s2', s3, ⟨hT, hQ, hK, hS, hW, hB, hZ⟩, s5, s6, s7, s8, s9⟩ := id q3
                have er : ∀ k z, k ≠ 34 → au (dA σ) 34 (6 * t + r) (nI l) k z = dA σ k z := fun k z hk => au_k _ _ _ _ hk
                have en : ∀ k z, k ≠ 34 → nn (au (dA σ) 34 (6 * t + r) (nI l)) k z = nn (dA σ) k z := fun k z hk => nn_e (er k z hk)
                refine ⟨by rw [eD]; exact h1, ?_, ?_, Or.inr ⟨?_, ?_, ?_⟩, by rw [fk 8 (by decide) (by decide)]; exact h5⟩
                · rw [eD]
                  intro v hv
                  rw [fk 8 (by decide) (by decide)]
                  rcases h2 v hv with q | ⟨b0, b1, b2, b3, b4, b5, b6, b7, b8⟩
                  · exact Or.inl q
                  · refine Or.inr ⟨b0, b1, b2, b3, b4, b5, b6, b7, fun q hq => ?_⟩
                    rw [f11 v q 0 (by omega), f11 v q 1 (by omega), f11 v q 2 (by omega), f11 v q 3 (by omega)]
                    exact b8 q hq
                · rw [eD]
                  have ew : wg (sD σ) s2 = wg (sD σ) σ := by
                    funext k s
                    unfold wg
                    rw [fk 3 (by decide) (by decide)]
                  refine ⟨by rw [fk 3 (by decide) (by decide)]; exact h3.1, fun v hv hvh => ?_⟩
                  rw [ew, fk 8 (by decide) (by decide)]
                  obtain ⟨y1, y2⟩ := h3.2 v hv hvh
                  refine ⟨y1, fun q hq => ?_⟩
                  rw [f11 v q 4 (by omega)]
                  exact y2 q hq
                · rw [fk 0 (by decide) (by decide)]; exact q1
                · rw [f14 12 (by decide)]; exact q2
                · unfold SE
                  rw [eD, eA]
                  refine ⟨?_, s2', LV_34 s3, ?_, ?_, ?_, ?_, ?_, fun v q hv hq => ?_⟩
                  · intro l' hl'
                    rw [fk 3 (by decide) (by decide)]
                    exact s1' l' hl'
                  · refine ⟨fun v hv => ?_, fun v q hv hq => ?_, fun c hc => ?_, ⟨fun c hc => ?_, fun v hv => ?_⟩, fun g hg => ?_, ?_, fun v q hv hq hq2 => ?_⟩
                    · rw [fk 9 (by decide) (by decide), er 26 v (by decide), er 27 v (by decide), er 28 v (by decide), er 29 v (by decide), er 30 v (by decide), er 31 v (by decide), er 32 v (by decide), er 35 v (by decide), er 36 v (by decide), er 37 v (by decide)]
                      exact hT v hv
                    · have hcv6 : cn (sD σ) v ≤ 6 := (cn6 h1 hv).2
                      rw [er 26 v (by decide), er 33 _ (by decide), er 38 _ (by decide), f11 v q 6 (by omega), f11 v q 2 (by omega), f11 v q 7 (by omega)]
                      obtain ⟨z1, z2, z3⟩ := hQ v q hv hq
                      refine ⟨z1, ?_, z3⟩
                      by_cases e : v = t ∧ q = r
                      · obtain ⟨rfl, rfl⟩ := e
                        rw [f115, if_neg (nI_ne0 (by omega) (by omega)), au_hit]
                      · rw [f11 v q 5 (by omega), au_ne _ _ (Or.inr (by omega))]
                        exact z2
                    · rw [fk 6 (by decide) (by decide), fk 7 (by decide) (by decide), er 39 c (by decide), er 42 c (by decide)]
                      exact hK c hc
                    · rw [fk 9 (by decide) (by decide), er 39 c (by decide), er 40 c (by decide)]
                      exact hS.1 c hc
                    · rw [fk 9 (by decide) (by decide), er 31 v (by decide), er 33 _ (by decide), en 30 v (by decide)]
                      have := hS.2 v hv
                      rcases this with z | ⟨z1, ⟨c, z2, z3⟩, z4⟩
                      · exact Or.inl z
                      · exact Or.inr ⟨z1, ⟨c, z2, by rw [er 39 c (by decide)]; exact z3⟩, z4⟩
                    · rw [fk 12 (by decide) (by decide), fk 13 (by decide) (by decide), er 44 g (by decide), en 44 g (by decide)]
                      refine ⟨(hW g hg).1, fun i hi2 => ?_⟩
                      rw [er 43 _ (by decide)]
                      exact (hW g hg).2 i hi2
                    · unfold RB at *
                      rw [fk 9 (by decide) (by decide), er 45 0 (by decide)]
                      exact hB
                    · rw [f11 v q 5 (fun w => by
                        have : cn (sD σ) v = cn (sD σ) t := by rw [w.1]
                        omega), f11 v q 7 (by omega)]
                      exact hZ v q hv hq hq2
                  · rw [fk 0 (by decide) (by decide), er 14 13 (by decide)]
                    exact s5
                  · intro c hc
                    rw [er 41 c (by decide), er 39 c (by decide)]
                    exact s6 c hc
                  · rw [en 14 13 (by decide)]
                    intro c v hc hv z1 z2
                    rw [er 39 c (by decide)] at z1
                    rw [er 40 c (by decide)] at z2
                    rw [er 32 v (by decide)]
                    exact s7 c v hc hv z1 z2
                  · rw [en 14 13 (by decide)]
                    exact s8
                  · have hcv6 : cn (sD σ) v ≤ 6 := (cn6 h1 hv).2
                    by_cases e : v = t ∧ q = r
                    · obtain ⟨rfl, rfl⟩ := e
                      have z := ok_nI (A := au (dA σ) 34 (6 * v + q) (nI l)) (k := 34) (s := 6 * v + q) (n := l) (au_hit _ _ _ _) l2 (by omega)
                      exact ⟨z.1, by rw [z.2]; exact l1⟩
                    · have z : au (dA σ) 34 (6 * t + r) (nI l) 34 (6 * v + q) = dA σ 34 (6 * v + q) := au_ne _ _ (Or.inr (by omega))
                      unfold ok
                      rw [nn_e z, z]
                      exact s9 v q hv hq
          · rw [if_neg ho] at hout
            have e24 : ¬ sD σ 24 (6 * t + r) = -1 := fun e => ho (decide_eq_true e)
            have hcin : f_X1_isOuter σ t r = some (0, σ) := by
              unfold f_X1_isOuter
              rw [m4, if_neg e24]
            refine ⟨3, σ, o, ks_up σ 14 0 0 0 3, ?_, ?_, thr_hit _ _, INV_thr 3 h⟩
            · simp [f_L_shorten, f_X4_shorten, t1, r1, q1, hcin]
            · simp [f_X5_shorten, f_X5_shorten_15, f_X5_shorten_27, r2, q2, hout, f_X5_shorten_64, f_X5_shorten_69, ref_rf, rf]
    · refine ⟨1, σ, o, ks_up σ 14 0 0 0 1, ?_, ?_, thr_hit _ _, INV_thr 1 h⟩
      · simp [f_L_shorten, f_X4_shorten, t1, r1]
      · by_cases q : σ 14 0 0 12 = 0 <;> simp [f_X5_shorten, f_X5_shorten_15, f_X5_shorten_27, r2, q, f_X5_shorten_68, f_X5_shorten_69, ref_rf, rf]
  · have hir : f_X5_isRequest σ x1 x2 = some (0, σ) := by simp [f_X5_isRequest, t2]
    refine ⟨1, σ, o, ks_up σ 14 0 0 0 1, ?_, ?_, thr_hit _ _, INV_thr 1 h⟩
    · simp [f_L_shorten, f_X4_shorten, t1]
    · by_cases q : σ 14 0 0 12 = 0 <;> simp [f_X5_shorten, f_X5_shorten_15, f_X5_shorten_27, hir, q, f_X5_shorten_68, f_X5_shorten_69, ref_rf, rf]
