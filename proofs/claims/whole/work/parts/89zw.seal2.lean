/-! PURE: seal and unseal. -/
theorem ref_fg0 {N : Nat} (hN : 100 < N) {σ : ks_S} (h1 : ST (sD σ)) (h3 : GL (sD σ) (fun x => σ 3 0 0 x)) : ∃ σ', f_X5_findGroups N σ = some σ' ∧ F25 σ σ' ∧ sD σ' = wg (sD σ) σ := by
  obtain ⟨σ', a1, a2, a3⟩ := ref_groups hN h1 (RD_sD σ)
  have hu := GL_uniq a3 h3
  refine ⟨σ', a1, a2, ?_⟩
  funext k s
  unfold wg
  by_cases q : k = 25 ∧ s < 8
  · rw [if_pos q, q.1]
    unfold sD
    rw [if_pos (by omega)]
    exact hu s q.2
  · rw [if_neg q]
    unfold sD
    rw [a2 k 0 0 s (by omega)]
theorem UN_fgt {μ : ks_S} (h0 : μ 0 0 0 7 = 0) (h9 : ∀ t, t < 16 → μ 9 t 0 0 = 0 ∧ μ 9 t 0 1 = 0 ∧ μ 9 t 0 3 = 1 ∧ μ 9 t 0 8 = 0 ∧ μ 9 t 0 9 = 0 ∧ μ 9 t 0 10 = 0 ∧ μ 9 t 0 11 = 0 ∧ μ 9 t 0 2 = μ 28 0 0 t ∧ μ 9 t 0 4 = μ 29 0 0 t ∧ μ 9 t 0 5 = μ 30 0 0 t ∧ μ 9 t 0 6 = μ 31 0 0 t ∧ μ 9 t 0 7 = μ 32 0 0 t) (h6 : ∀ c, c < 4 → μ 6 0 0 c = -1 ∧ μ 7 0 0 c = 0) (h12 : ∀ g, g < 8 → μ 12 g 0 1 = 0) (h11 : ∀ t r, t < 16 → r < 6 → μ 11 t r 5 = 0 ∧ μ 11 t r 7 = 0) : UN (fgt μ) := by
  have e : ∀ k, (k ≠ 14 ∧ k ≠ 26 ∧ k ≠ 27 ∧ k ≠ 34 ∧ k ≠ 35 ∧ k ≠ 36 ∧ k ≠ 37 ∧ k ≠ 38 ∧ k ≠ 39 ∧ k ≠ 40 ∧ k ≠ 41 ∧ k ≠ 42 ∧ k ≠ 44) → fgt μ k = μ k := fun k hk => fgt_k μ hk
  refine ⟨⟨?_, ?_, ?_⟩, fun t ht => ?_, fun c hc => ?_, fun g hg => ?_, fun t r ht hr => ?_, fun s hs => fgt_0 μ (Or.inr (Or.inl ⟨rfl, hs⟩))⟩
  · rw [e 0 (by decide)]; exact h0
  · rw [fgt_14, if_neg (by decide), if_pos rfl]
  · rw [fgt_14, if_pos rfl]
  · rw [e 9 (by decide), e 28 (by decide), e 29 (by decide), e 30 (by decide), e 31 (by decide), e 32 (by decide), fgt_0 μ (k := 26) (Or.inl ⟨by decide, ht⟩), fgt_0 μ (k := 27) (Or.inl ⟨by decide, ht⟩), fgt_0 μ (k := 35) (Or.inl ⟨by decide, ht⟩), fgt_0 μ (k := 36) (Or.inl ⟨by decide, ht⟩), fgt_0 μ (k := 37) (Or.inl ⟨by decide, ht⟩)]
    obtain ⟨a0, a1, a2, a3, a4, a5, a6, a7, a8, a9, a10, a11⟩ := h9 t ht
    exact ⟨a0, a1, a2, a3, a4, a5, a6, rfl, rfl, rfl, rfl, rfl, a7, a8, a9, a10, a11⟩
  · rw [e 6 (by decide), e 7 (by decide), fgt_1 μ (k := 39) ⟨by decide, hc⟩, fgt_1 μ (k := 41) ⟨by decide, hc⟩, fgt_0 μ (k := 40) (Or.inr (Or.inr (Or.inl ⟨by decide, hc⟩))), fgt_0 μ (k := 42) (Or.inr (Or.inr (Or.inl ⟨by decide, hc⟩)))]
    exact ⟨(h6 c hc).1, (h6 c hc).2, rfl, rfl, rfl, rfl⟩
  · rw [e 12 (by decide), fgt_0 μ (k := 44) (Or.inr (Or.inr (Or.inr ⟨rfl, hg⟩)))]
    exact ⟨h12 g hg, rfl⟩
  · rw [e 11 (by decide)]
    exact h11 t r ht hr
def SRv (D : Nat → Nat → Int32) (t : Nat) : Prop := ∃ R, R ≤ nn D 18 t ∧ R = blk D t + infl D t + dem D t R
def SFail (D : Nat → Nat → Int32) (u : Nat) : Prop := u < 16 ∧ D 15 u ≠ -1 ∧ ¬ SRv D u ∧ ∀ v, v < u → D 15 v ≠ -1 → SRv D v
theorem RV_ok {D : Nat → Nat → Int32} {t : Nat} {v : Int32} (hST : ST D) (ht : t < 16) (hth : D 15 t ≠ -1) (h : RV D t v) : (v = -1 ∧ ¬ SRv D t) ∨ (v ≠ -1 ∧ 0 ≤ v ∧ SRv D t) := by
  rcases h with ⟨R, rfl, h2, h3, _⟩ | ⟨h1, h2⟩
  · obtain ⟨_, _, _, _, _, _, _, k4, _⟩ := core_of hST ht hth
    have := k4.2
    exact Or.inr ⟨nI_n1 (by omega), nI_pos' (by omega), R, h2, h3⟩
  · refine Or.inl ⟨h1, ?_⟩
    rintro ⟨R, r1, r2⟩
    have := h2 R r2
    omega
theorem cls_seal {N : Nat} (hN : 20000 < N) {D : Nat → Nat → Int32} {σ : ks_S} (hST : ST D) (hC : CSt D σ) (hI : CI D σ) : ∀ m n t, t + m = 16 → m < n → (∀ v, v < t → D 15 v ≠ -1 → SRv D v) → (∃ u, f_X4_seal_17 N n σ (nI t) = some (.inr (nI u), σ) ∧ SFail D u) ∨ (f_X4_seal_17 N n σ (nI t) = some (.inr (-1), ks_up σ 0 0 0 6 1) ∧ ∀ v, v < 16 → D 15 v ≠ -1 → SRv D v) := by
  intro m
  induction m with
  | zero =>
    intro n t ht hn h
    obtain ⟨n, rfl⟩ : ∃ n', n = n' + 1 := ⟨n - 1, by omega⟩
    obtain rfl : t = 16 := by omega
    exact Or.inr ⟨by rw [f_X4_seal_17, if_pos e16], h⟩
  | succ m ih =>
    intro n t ht hn h
    obtain ⟨n, rfl⟩ : ∃ n', n = n' + 1 := ⟨n - 1, by omega⟩
    have ht16 : t < 16 := by omega
    rw [f_X4_seal_17, if_neg (z16 ht16), if_pos (i16 ht16), cl (by omega), nI_1]
    rcases hC t ht16 with ⟨q1, q2⟩ | ⟨a0, a1, _⟩
    · rw [if_pos q1]
      refine ih n (t + 1) (by omega) (by omega) (fun v hv hv2 => ?_)
      by_cases e : v = t
      · subst e; exact absurd q2 hv2
      · exact h v (by omega) hv2
    · obtain ⟨v, v1, v2⟩ := cls_resp hN hST hC hI ht16 a1
      rw [if_neg a0, if_pos (i16 ht16), v1, Option.bind_some]
      dsimp only
      rcases RV_ok hST ht16 a1 v2 with ⟨e1, e2⟩ | ⟨e1, _, e2⟩
      · rw [if_pos e1]
        exact Or.inl ⟨t, rfl, ht16, a1, e2, h⟩
      · rw [if_neg e1]
        refine ih n (t + 1) (by omega) (by omega) (fun v hv hv2 => ?_)
        by_cases e : v = t
        · subst e; exact e2
        · exact h v (by omega) hv2
theorem ref_seal {N : Nat} (hN : 20000 < N) {μ : ks_S} (hST : ST (sD μ)) (hSG : SG (sD μ)) : ∀ m n t, t + m = 16 → m < n → (∀ v, v < t → sD μ 15 v ≠ -1 → SRv (sD μ) v) → (∃ u, f_X5_seal_21 N n μ (nI t) = some (nI u, μ) ∧ SFail (sD μ) u) ∨ (f_X5_seal_21 N n μ (nI t) = some (-1, fgt (ks_up μ 14 0 0 12 1)) ∧ ∀ v, v < 16 → sD μ 15 v ≠ -1 → SRv (sD μ) v) := by
  intro m
  induction m with
  | zero =>
    intro n t ht hn h
    obtain ⟨n, rfl⟩ : ∃ n', n = n' + 1 := ⟨n - 1, by omega⟩
    obtain rfl : t = 16 := by omega
    exact Or.inr ⟨by rw [f_X5_seal_21, if_pos e16, ref_forget (by omega), Option.bind_some], h⟩
  | succ m ih =>
    intro n t ht hn h
    obtain ⟨n, rfl⟩ : ∃ n', n = n' + 1 := ⟨n - 1, by omega⟩
    have ht16 : t < 16 := by omega
    rw [f_X5_seal_21, if_neg (z16 ht16), if_pos (i16 ht16), cl (by omega), rs (μ := μ) (k := 15) (by decide) (by decide), nI_1]
    by_cases hth : sD μ 15 t = -1
    · rw [if_pos (by rw [hth]; decide)]
      refine ih n (t + 1) (by omega) (by omega) (fun v hv hv2 => ?_)
      by_cases e : v = t
      · subst e; exact absurd hth hv2
      · exact h v (by omega) hv2
    · obtain ⟨c, c1, c2, _⟩ := core_of hST ht16 hth
      obtain ⟨v, v1, v2⟩ := ref_resp hN hST hSG ht16 hth
      rw [if_neg (by rw [c2]; exact nI_pos (by omega)), v1, Option.bind_some]
      dsimp only
      rcases RV_ok hST ht16 hth v2 with ⟨e1, e2⟩ | ⟨_, e1, e2⟩
      · rw [if_neg (by rw [e1]; decide)]
        exact Or.inl ⟨t, rfl, ht16, hth, e2, h⟩
      · rw [if_pos e1]
        refine ih n (t + 1) (by omega) (by omega) (fun v hv hv2 => ?_)
        by_cases e : v = t
        · subst e; exact e2
        · exact h v (by omega) hv2
theorem op_seal {N w : Nat} (hN : 20000 < N) {σ : ks_S} (o : Int64) (h : INV w σ) : OPV w (f_L_seal N σ o) (fun s => f_X5_seal N s) := by
  obtain ⟨h1, h2, h3, h4, h5⟩ := id h
  rcases INV_seal h with ⟨q1, q2, q3⟩ | ⟨q1, q2, q3⟩
  · have hw : ∀ k, k ≠ 25 → wg (sD σ) σ k = sD σ k := fun k hk => wg_row hk
    have hSTw := ST_same hw h1
    have hCw := CSt_same hw h2
    have hIw := CM_CI h3
    have hSG := GL_SG h3.1
    -- the reference, at a state that differs in what the class says of the seal
    have ref : ∀ s1 : ks_S, (∀ k, k ≠ 0 → s1 k = σ k) → ∃ μ, f_X5_findGroups N (ks_up s1 14 0 0 0 0) = some μ ∧ F25 (ks_up s1 14 0 0 0 0) μ ∧ sD μ = wg (sD σ) σ := fun s1 hs => by
      have e1 : sD (ks_up s1 14 0 0 0 0) = sD σ := by
        rw [sD_thr]
        exact sD_cls (fun k hk => hs k (by omega))
      have e2 : ks_up s1 14 0 0 0 0 3 = σ 3 := by rw [thr_k s1 0 (by decide), hs 3 (by decide)]
      obtain ⟨μ, a1, a2, a3⟩ := ref_fg0 (N := N) (by omega) (σ := ks_up s1 14 0 0 0 0) (by rw [e1]; exact h1) (by rw [e1, e2]; exact h3.1)
      refine ⟨μ, a1, a2, ?_⟩
      rw [a3, e1]
      funext k s
      unfold wg
      rw [e2]
    rcases cls_seal hN hSTw hCw hIw 16 N 0 rfl (by omega) (fun v hv => by omega) with ⟨u, c1, c2⟩ | ⟨c1, c2⟩
    · obtain ⟨μ, a1, a2, a3⟩ := ref σ (fun _ _ => rfl)
      obtain ⟨μ2, b1, b2, b3, b4⟩ := ref_fg (N := N) (by omega) (INV_thr 0 h)
      have eμ : μ2 = μ := by
        rw [a1] at b1
        exact (Option.some.inj b1).symm
      subst eμ
      have hr := ref_seal hN (μ := μ2) (by rw [a3]; exact hSTw) (by rw [a3]; exact hSG) 16 N 0 rfl (by omega) (fun v hv => by omega)
      rw [a3] at hr
      rcases hr with ⟨u', d1, d2⟩ | ⟨_, d2⟩
      · have eu : u' = u := by
          rcases Nat.lt_trichotomy u u' with q | q | q
          · exact absurd (d2.2.2.2 u q c2.2.1) c2.2.2.1
          · exact q.symm
          · exact absurd (c2.2.2.2 u' q d2.2.1) d2.2.2.1
        subst eu
        have d1 : f_X5_seal_21 N N μ2 0 = some (nI u', μ2) := d1
        have c1 : f_X4_seal_17 N N σ 0 = some (.inr (nI u'), σ) := c1
        refine ⟨0, σ, (nI u').toInt64, nI u', μ2, ?_, ?_, by rw [a2 14 0 0 0 (by omega), thr_hit], fun _ => rfl, b2⟩
        · simp [f_L_seal, f_X4_seal, q1, c1]
        · simp [f_X5_seal, q2, ref_rf, rf, a1, d1]
      · exact absurd (d2 u c2.1 c2.2.1) c2.2.2.1
    · have hs1 : ∀ k, k ≠ 0 → ks_up σ 0 0 0 6 1 k = σ k := fun k hk => by
        funext i j z
        rw [ks_up_at, if_neg (by omega)]
      have z0 : ∀ z, z ≠ 6 → ks_up σ 0 0 0 6 1 0 0 0 z = σ 0 0 0 z := fun z hz => by rw [ks_up_at, if_neg (by omega)]
      have z6 : ks_up σ 0 0 0 6 1 0 0 0 6 = 1 := ks_up_hit _ _ _ _ _ _
      generalize hσ1 : ks_up σ 0 0 0 6 1 = s1 at *
      obtain ⟨μ, a1, a2, a3⟩ := ref s1 hs1
      have hr := ref_seal hN (μ := μ) (by rw [a3]; exact hSTw) (by rw [a3]; exact hSG) 16 N 0 rfl (by omega) (fun v hv => by omega)
      rw [a3] at hr
      rcases hr with ⟨u', _, d2⟩ | ⟨d1, _⟩
      · exact absurd (c2 u' d2.1 d2.2.1) d2.2.2.1
      · have d1 : f_X5_seal_21 N N μ 0 = some (-1, fgt (ks_up μ 14 0 0 12 1)) := d1
        have c1 : f_X4_seal_17 N N σ 0 = some (.inr (-1), s1) := c1
        have s12 : s1 14 0 0 12 = 0 := by rw [hs1 14 (by decide)]; exact q2
        have hk : ∀ k, k ≠ 0 → k ≠ 14 → k ≠ 25 → ks_up μ 14 0 0 12 1 k = σ k := fun k b1 b2 b3 => by
          funext i j z
          rw [ks_up_at, if_neg (by omega), a2 k i j z (by omega), ks_up_at, if_neg (by omega), hs1 k b1]
        have hk0 : ∀ z, z ≠ 6 → ks_up μ 14 0 0 12 1 0 0 0 z = σ 0 0 0 z := fun z hz => by
          rw [ks_up_at, if_neg (by omega), a2 0 0 0 z (by omega), ks_up_at, if_neg (by omega), z0 z hz]
        have eD : sD (fgt (ks_up μ 14 0 0 12 1)) = wg (sD σ) σ := by
          rw [sD_fgt, sD_up (by omega), a3]
        have fk : ∀ k, k < 14 → k ≠ 0 → fgt (ks_up μ 14 0 0 12 1) k = σ k := fun k b1 b2 => by
          rw [fgt_k _ (by omega), hk k b2 (by omega) (by omega)]
        refine ⟨0, s1, (-1 : Int32).toInt64, -1, fgt (ks_up μ 14 0 0 12 1), ?_, ?_, ?_, fun _ => rfl, ?_⟩
        · simp [f_L_seal, f_X4_seal, q1, c1]
        · simp [f_X5_seal, s12, ref_rf, rf, a1, d1]
        · rw [fgt_14, if_neg (by decide), if_neg (by decide), ks_up_at, if_neg (by omega), a2 14 0 0 0 (by omega), thr_hit]
        · have i1 : ST (sD (fgt (ks_up μ 14 0 0 12 1))) := by rw [eD]; exact hSTw
          have i2 : CSt (sD (fgt (ks_up μ 14 0 0 12 1))) (fgt (ks_up μ 14 0 0 12 1)) := by
            rw [eD]
            unfold CSt at *
            rw [fk 8 (by decide) (by decide), fk 11 (by decide) (by decide)]
            exact hCw
          have i3 : CM (sD (fgt (ks_up μ 14 0 0 12 1))) (fgt (ks_up μ 14 0 0 12 1)) := by
            rw [eD]
            have ew : wg (wg (sD σ) σ) (fgt (ks_up μ 14 0 0 12 1)) = wg (sD σ) σ := by
              funext k s
              unfold wg
              rw [fk 3 (by decide) (by decide)]
              by_cases q : k = 25 ∧ s < 8
              · rw [if_pos q, if_pos q]
              · rw [if_neg q, if_neg q]
            refine ⟨?_, fun t ht hth => ?_⟩
            · rw [fk 3 (by decide) (by decide)]
              exact GL_same hw h3.1
            · rw [ew, fk 8 (by decide) (by decide), fk 11 (by decide) (by decide), cn_same hw]
              rw [hw 15 (by decide)] at hth
              obtain ⟨m1, m2⟩ := h3.2 t ht hth
              refine ⟨m1, fun r hr => ?_⟩
              rw [ou_same hw]
              exact m2 r hr
          obtain ⟨⟨u1, u2, u3⟩, v1, v2, v3, v4, v5⟩ := q3
          have hU : UN (fgt (ks_up μ 14 0 0 12 1)) := by
            refine UN_fgt ?_ (fun t ht => ?_) (fun c hc => ?_) (fun g hg => ?_) (fun t r ht hr => ?_)
            · rw [hk0 7 (by decide)]; exact u1
            · rw [hk 9 (by decide) (by decide) (by decide), hk 28 (by decide) (by decide) (by decide), hk 29 (by decide) (by decide) (by decide), hk 30 (by decide) (by decide) (by decide), hk 31 (by decide) (by decide) (by decide), hk 32 (by decide) (by decide) (by decide)]
              obtain ⟨a0, a1, a2, a3, a4, a5, a6, a7, a8, a9, a10, a11, a12, a13, a14, a15, a16⟩ := v1 t ht
              exact ⟨a0, a1, a2, a3, a4, a5, a6, a12, a13, a14, a15, a16⟩
            · rw [hk 6 (by decide) (by decide) (by decide), hk 7 (by decide) (by decide) (by decide)]
              exact ⟨(v2 c hc).1, (v2 c hc).2.1⟩
            · rw [hk 12 (by decide) (by decide) (by decide)]; exact (v3 g hg).1
            · rw [hk 11 (by decide) (by decide) (by decide)]; exact v4 t r ht hr
          refine ⟨i1, i2, i3, Or.inr ⟨?_, ?_, SE_start i1 i2 ?_ (by rw [eD]; exact hSG) ?_ hU (fun z hz => ?_)⟩, ?_⟩
          · rw [fgt_k _ (by decide), ks_up_at, if_neg (by omega), a2 0 0 0 6 (by omega), ks_up_at, if_neg (by omega)]
            exact z6
          · rw [fgt_14, if_neg (by decide), if_neg (by decide), ks_up_hit]
          · rw [eD]
            intro l hl
            rw [fk 3 (by decide) (by decide)]
            unfold wg
            rw [if_pos ⟨rfl, hl⟩]
          · rw [eD]
            exact fun t ht hth => c2 t ht hth
          · rw [fgt_34 _ hz, fgt_k _ (by decide)]
          · rw [fk 8 (by decide) (by decide)]
            exact h5
  · refine ⟨1, σ, o, 0, ks_up σ 14 0 0 0 1, ?_, ?_, thr_hit _ _, fun e => absurd e (by decide), INV_thr 1 h⟩
    · simp [f_L_seal, f_X4_seal, q1]
    · simp [f_X5_seal, q2, ref_rf, rf]
