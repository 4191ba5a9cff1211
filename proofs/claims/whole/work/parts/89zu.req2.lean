/-! PURE: request, all of it. -/
theorem PL_uniq {D : Nat → Nat → Int32} {t l : Nat} {x2 x5 b b' : Int32} (h : PL D t l x2 x5 b) (h' : PL D t l x2 x5 b') : b = b' := by
  rcases h with ⟨h1, h2⟩ | ⟨h1, h2⟩
  · rcases h' with ⟨h3, h4⟩ | ⟨h3, h4⟩
    · rw [h1, h3]
    · exact absurd h2 h4
  · rcases h' with ⟨h3, h4⟩ | ⟨h3, h4⟩
    · exact absurd h4 h2
    · rw [h1, h3]
theorem op_request {N w : Nat} (hN : 16 < N) {σ : ks_S} (o : Int64) (x1 x2 x3 x4 x5 : Int32) (h : INV w σ) : OPV w (f_L_request N σ o x1 x2 x3 x4 x5) (fun s => f_X5_request N s x1 x2 x3 x4 x5) := by
  obtain ⟨h1, h2, h3, h4⟩ := id h
  rcases task_dec h1 h2 (RD_sD σ) x1 with ⟨t, ht, rfl, hth, t1, t2⟩ | ⟨t1, t2, _⟩
  · have e8 := cl (show t < 96 by omega)
    have e9 := i16 ht
    have hcn6 : cn (sD σ) t ≤ 6 := (cn6 h1 ht).2
    have h20 : sD σ 20 t = nI (cn (sD σ) t) := (cn6 h1 ht).1
    have r20 : σ 20 0 0 t = nI (cn (sD σ) t) := by rw [rs (μ := σ) (k := 20) (by decide) (by decide)]; exact h20
    rcases h2 t ht with ⟨_, w⟩ | ⟨a0, a1, a2, a3, a4, a5, a6, a7, a8⟩
    · exact absurd w hth
    · have c7 : σ 8 t 0 7 = nI (cn (sD σ) t) := by rw [a7]; exact h20
      rcases INV_seal h with ⟨q1, q2, q3⟩ | ⟨q1, q2, q3⟩
      · by_cases hfull : cn (sD σ) t = 6
        · have e6 : nI (cn (sD σ) t) = 6 := by rw [hfull]; rfl
          have n6 : ¬ nI (cn (sD σ) t) < 6 := by rw [e6]; decide
          refine ⟨2, σ, o, 0, ks_up σ 14 0 0 0 2, ?_, ?_, thr_hit _ _, fun e => absurd e (by decide), INV_thr 2 h⟩
          · simp [f_L_request, f_X4_request, t1, q1, c7, n6]
          · simp [f_X5_request, f_X5_request_13, t2, q2, e8, e9, r20, e6, f_X5_request_38, f_X5_request_43, f_X5_request_78, f_X5_request_79, ref_rf, rf]
        · have n6 : nI (cn (sD σ) t) < 6 := nI_lt (b := 6) (by omega) (by decide)
          have e6 : ¬ nI (cn (sD σ) t) = 6 := fun e => hfull (nI_inj (b := 6) (by omega) (by omega) e)
          have bad : (wi x3 0 7 = 0 ∨ wi x4 1 100 = 0) → OPV w (f_L_request N σ o (nI t) x2 x3 x4 x5) (fun s => f_X5_request N s (nI t) x2 x3 x4 x5) := fun hb => by
            refine ⟨3, σ, o, 0, ks_up σ 14 0 0 0 3, ?_, ?_, thr_hit _ _, fun e => absurd e (by decide), INV_thr 3 h⟩
            · by_cases w3 : wi x3 0 7 = 0
              · simp [f_L_request, f_X4_request, t1, q1, c7, n6, cls_wi, w3, f_X4_request_57, f_X4_request_58]
              · have w4 : wi x4 1 100 = 0 := hb.resolve_left w3
                simp [f_L_request, f_X4_request, t1, q1, c7, n6, cls_wi, w3, w4, f_X4_request_57, f_X4_request_58]
            · have hmb : f_X5_mayBe N σ (nI t) x2 x3 x4 x5 = some (0, σ) := by
                by_cases w3 : wi x3 0 7 = 0
                · simp [f_X5_mayBe, ref_wi, w3]
                · have w4 : wi x4 1 100 = 0 := hb.resolve_left w3
                  simp [f_X5_mayBe, ref_wi, w3, w4]
              simp [f_X5_request, f_X5_request_13, t2, q2, e8, e9, r20, e6, f_X5_request_42, f_X5_request_43, hmb, f_X5_request_79, ref_rf, rf]
          rcases wi_cases x3 (n := 7) (by decide) with w3 | ⟨w3, g, hg, rfl⟩
          · exact bad (Or.inl w3)
          · have w3 : wi (nI g) 0 7 = 1 := w3
            rcases wi1_cases x4 (n := 100) (by decide) with w4 | ⟨w4, l, hl1, hl, rfl⟩
            · exact bad (Or.inr w4)
            · have w4 : wi (nI l) 1 100 = 1 := w4
              obtain ⟨b, b1, b2⟩ := cls_place hN x2 x5 h1 h2 ht hth hl1 hl
              rcases b2 with ⟨rfl, hp⟩ | ⟨rfl, hp⟩
              · -- it is laid down
                let k := 6 * t + cn (sD σ) t
                have hk : k = 6 * t + cn (sD σ) t := rfl
                have hk96 : k < 96 := by omega
                let D' := au (au (au (au (au (sD σ) 21 k x2) 22 k (nI g)) 23 k (nI l)) 24 k x5) 20 t (nI (cn (sD σ) t + 1))
                have hD' : D' = au (au (au (au (au (sD σ) 21 k x2) 22 k (nI g)) 23 k (nI l)) 24 k x5) 20 t (nI (cn (sD σ) t + 1)) := rfl
                have e1 : ∀ k' s, 15 ≤ k' → k' ≤ 20 → s ≠ t → D' k' s = sD σ k' s := fun k' s _ b hs => by
                  rw [hD', au_s _ _ _ _ hs, au_k _ _ _ _ (by omega), au_k _ _ _ _ (by omega), au_k _ _ _ _ (by omega), au_k _ _ _ _ (by omega)]
                have eo : ∀ k' s, 21 ≤ k' → s ≠ k → D' k' s = sD σ k' s := fun k' s a hs => by
                  rw [hD', au_k _ _ _ _ (by omega), au_s _ _ _ _ hs, au_s _ _ _ _ hs, au_s _ _ _ _ hs, au_s _ _ _ _ hs]
                have et : ∀ k', 15 ≤ k' → k' ≤ 19 → D' k' t = sD σ k' t := fun k' _ b => by
                  rw [hD', au_k _ _ _ _ (by omega), au_k _ _ _ _ (by omega), au_k _ _ _ _ (by omega), au_k _ _ _ _ (by omega), au_k _ _ _ _ (by omega)]
                have e2 : ∀ k' v r, 21 ≤ k' → k' ≤ 24 → v ≠ t → r < 6 → D' k' (6 * v + r) = sD σ k' (6 * v + r) := fun k' v r a b c d => eo k' _ a (by omega)
                have d20 : D' 20 t = nI (cn (sD σ) t + 1) := by rw [hD', au_hit]
                have d21 : D' 21 k = x2 := by rw [hD']; simp [au]
                have d22 : D' 22 k = nI g := by rw [hD']; simp [au]
                have d23 : D' 23 k = nI l := by rw [hD']; simp [au]
                have d24 : D' 24 k = x5 := by rw [hD']; simp [au]
                have hcn' : cn D' t = cn (sD σ) t + 1 := nn_nI d20 (by omega)
                have nt : ∀ k', 15 ≤ k' → k' ≤ 19 → nn D' k' t = nn (sD σ) k' t := fun k' a b => nn_e (et k' a b)
                have ouo : ∀ r, r < cn (sD σ) t → ou D' t r = ou (sD σ) t r := fun r hr => by unfold ou; rw [eo 24 _ (by decide) (by omega)]
                have afo : ∀ r, r < cn (sD σ) t → af D' t r = af (sD σ) t r := fun r hr => nn_e (eo 21 _ (by decide) (by omega))
                have lno : ∀ r, r < cn (sD σ) t → ln D' t r = ln (sD σ) t r := fun r hr => nn_e (eo 23 _ (by decide) (by omega))
                obtain ⟨_, _, _, _, _, _, _, _, _, _, k7, k8, _⟩ := core_of h1 ht hth
                have h19 := k7.2
                have hSTt : STt D' t := by
                  have := h1.1 t ht
                  unfold STt ok at *
                  rw [nt 16 (by decide) (by decide), nt 17 (by decide) (by decide), nt 18 (by decide) (by decide), nt 19 (by decide) (by decide), et 15 (by decide) (by decide), et 16 (by decide) (by decide), et 17 (by decide) (by decide), et 18 (by decide) (by decide), et 19 (by decide) (by decide)]
                  rcases this with ⟨z, _⟩ | ⟨z1, z2, z3, z4, z5, z6, z7, z8, z9, z10⟩
                  · exact absurd z hth
                  · refine Or.inr ⟨z1, z2, z3, z4, z5, z6, z7, z8, z9, ?_, ?_⟩
                    · rw [nn_nI d20 (by omega)]; exact d20
                    · rw [nn_nI d20 (by omega)]; omega
                have hSTr : ∀ r, r < cn D' t → STr D' t r := fun r hr => by
                  rw [hcn'] at hr
                  by_cases er : r = cn (sD σ) t
                  · subst er
                    have ha : ∃ a, x2 = nI a ∧ a ≤ 1000 ∧ ((x5 = -1 ∧ a ≤ nn (sD σ) 19 t ∧ ∀ q, q < cn (sD σ) t → ou (sD σ) t q = true → af (sD σ) t q ≤ a) ∨ (∃ j, x5 = nI j ∧ j < cn (sD σ) t ∧ ou (sD σ) t j = true)) := by
                      rcases hp with ⟨z1, a, z2, z3, z4⟩ | ⟨j, a, z1, z2, z3, z4, z5⟩
                      · exact ⟨a, z2, by omega, Or.inl ⟨z1, z3, z4⟩⟩
                      · have := ln100 h1 ht z2
                        exact ⟨a, z4, by omega, Or.inr ⟨j, z1, z2, z3⟩⟩
                    obtain ⟨a, rfl, ha1, ha2⟩ := ha
                    have naf : af D' t (cn (sD σ) t) = a := nn_nI d21 (by omega)
                    refine ⟨(ok_nI d21 ha1 (by decide)).1, (ok_nI d22 hg (by decide)).1, (ok_nI d23 hl (by decide)).1, ?_, ?_⟩
                    · have : ln D' t (cn (sD σ) t) = l := nn_nI d23 (by omega)
                      rw [this]; exact hl1
                    · rcases ha2 with ⟨rfl, z1, z2⟩ | ⟨j, rfl, z2, z3⟩
                      · refine Or.inl ⟨decide_eq_true d24, ?_, fun q hq ho => ?_⟩
                        · rw [naf, nt 19 (by decide) (by decide)]; exact z1
                        · rw [naf, afo q hq]
                          rw [ouo q hq] at ho
                          exact z2 q hq ho
                      · refine Or.inr ⟨?_, (ok_nI d24 (show j ≤ 5 by omega) (by decide)).1, ?_, ?_⟩
                        · unfold ou
                          rw [decide_eq_false_iff_not]
                          intro e
                          rw [← hk, d24] at e
                          exact nI_n1 (by omega) e
                        · have : nn D' 24 k = j := nn_nI d24 (by omega)
                          rw [← hk, this]; exact z2
                        · have : nn D' 24 k = j := nn_nI d24 (by omega)
                          rw [← hk, this, ouo j z2]; exact z3
                  · have hr2 : r < cn (sD σ) t := by omega
                    obtain ⟨u1, u2, u3, u4, u5⟩ := h1.2.1 t r ht hr2
                    have ee : ∀ k', 21 ≤ k' → D' k' (6 * t + r) = sD σ k' (6 * t + r) := fun k' a => eo k' _ a (by omega)
                    refine ⟨?_, ?_, ?_, ?_, ?_⟩
                    · unfold ok; rw [nn_e (ee 21 (by decide)), ee 21 (by decide)]; exact u1
                    · unfold ok; rw [nn_e (ee 22 (by decide)), ee 22 (by decide)]; exact u2
                    · unfold ok; rw [nn_e (ee 23 (by decide)), ee 23 (by decide)]; exact u3
                    · rw [lno r hr2]; exact u4
                    · rcases u5 with ⟨v1, v2, v3⟩ | ⟨v1, v2, v3, v4⟩
                      · refine Or.inl ⟨by rw [ouo r hr2]; exact v1, by rw [afo r hr2, nt 19 (by decide) (by decide)]; exact v2, fun q hq ho => ?_⟩
                        rw [ouo q (by omega)] at ho
                        rw [afo q (by omega), afo r hr2]
                        exact v3 q hq ho
                      · refine Or.inr ⟨by rw [ouo r hr2]; exact v1, ?_, ?_, ?_⟩
                        · unfold ok; rw [nn_e (ee 24 (by decide)), ee 24 (by decide)]; exact v2
                        · rw [nn_e (ee 24 (by decide))]; exact v3
                        · rw [nn_e (ee 24 (by decide)), ouo _ (by omega)]; exact v4
                have hST' : ST D' := ST_upd ht h1 e1 e2 hSTt hSTr (fun u hu hne he hm => by
                  rw [e1 15 u (by decide) (by decide) hne] at he hm
                  rw [et 15 (by decide) (by decide)] at he
                  rw [nn_e (e1 16 u (by decide) (by decide) hne), nt 16 (by decide) (by decide)]
                  exact h1.2.2 u t hu ht hne he hm)
                have hadd : f_X3_addRequest σ t x2 (nI g) (nI l) x5 = some (nI (cn (sD σ) t), ks_up (ks_up (ks_up (ks_up (ks_up (ks_up σ 11 t (cn (sD σ) t) 0 x2) 11 t (cn (sD σ) t) 1 (nI g)) 11 t (cn (sD σ) t) 2 (nI l)) 11 t (cn (sD σ) t) 3 x5) 11 t (cn (sD σ) t) 4 0) 8 t 0 7 (nI (cn (sD σ) t + 1))) := by
                  have z : ks_up (ks_up (ks_up (ks_up (ks_up σ 11 t (cn (sD σ) t) 0 x2) 11 t (cn (sD σ) t) 1 (nI g)) 11 t (cn (sD σ) t) 2 (nI l)) 11 t (cn (sD σ) t) 3 x5) 11 t (cn (sD σ) t) 4 0 8 t 0 7 = nI (cn (sD σ) t) := by
                    rw [ks_up_at, if_neg (by omega), ks_up_at, if_neg (by omega), ks_up_at, if_neg (by omega), ks_up_at, if_neg (by omega), ks_up_at, if_neg (by omega)]
                    exact c7
                  unfold f_X3_addRequest f_X1_layDown
                  rw [c7, if_pos (i6 (by omega)), cl (i := cn (sD σ) t) (by omega), Option.bind_some, z, nI_1]
                have hC' : CSt D' (ks_up (ks_up (ks_up (ks_up (ks_up (ks_up σ 11 t (cn (sD σ) t) 0 x2) 11 t (cn (sD σ) t) 1 (nI g)) 11 t (cn (sD σ) t) 2 (nI l)) 11 t (cn (sD σ) t) 3 x5) 11 t (cn (sD σ) t) 4 0) 8 t 0 7 (nI (cn (sD σ) t + 1))) := by
                  refine CSt_upd h1 h2 e1 e2 (fun v z hv => ?_) (fun v r z hv hz => ?_) (Or.inr ⟨?_, ?_, ?_, ?_, ?_, ?_, ?_, ?_, fun r hr => ?_⟩)
                  · simp [ks_up_at, hv]
                  · simp [ks_up_at, hv]
                  · simp [ks_up_at]; exact a0
                  · rw [et 15 (by decide) (by decide)]; exact hth
                  · rw [et 15 (by decide) (by decide)]; simp [ks_up_at]; exact a2
                  · rw [et 16 (by decide) (by decide)]; simp [ks_up_at]; exact a3
                  · rw [et 17 (by decide) (by decide)]; simp [ks_up_at]; exact a4
                  · rw [et 18 (by decide) (by decide)]; simp [ks_up_at]; exact a5
                  · rw [et 19 (by decide) (by decide)]; simp [ks_up_at]; exact a6
                  · rw [d20]; simp [ks_up_at]
                  · rw [hcn'] at hr
                    by_cases er : r = cn (sD σ) t
                    · subst er
                      rw [← hk, d21, d22, d23, d24]
                      simp [ks_up_at]
                    · have hr2 : r < cn (sD σ) t := by omega
                      have ee : ∀ k', 21 ≤ k' → D' k' (6 * t + r) = sD σ k' (6 * t + r) := fun k' a => eo k' _ a (by omega)
                      rw [ee 21 (by decide), ee 22 (by decide), ee 23 (by decide), ee 24 (by decide)]
                      simp [ks_up_at, er]
                      exact a8 r hr2
                have h114 : ∀ v r, (v = t ∧ r = cn (sD σ) t → (ks_up (ks_up (ks_up (ks_up (ks_up (ks_up σ 11 t (cn (sD σ) t) 0 x2) 11 t (cn (sD σ) t) 1 (nI g)) 11 t (cn (sD σ) t) 2 (nI l)) 11 t (cn (sD σ) t) 3 x5) 11 t (cn (sD σ) t) 4 0) 8 t 0 7 (nI (cn (sD σ) t + 1))) 11 v r 4 = 0) ∧ (¬ (v = t ∧ r = cn (sD σ) t) → (ks_up (ks_up (ks_up (ks_up (ks_up (ks_up σ 11 t (cn (sD σ) t) 0 x2) 11 t (cn (sD σ) t) 1 (nI g)) 11 t (cn (sD σ) t) 2 (nI l)) 11 t (cn (sD σ) t) 3 x5) 11 t (cn (sD σ) t) 4 0) 8 t 0 7 (nI (cn (sD σ) t + 1))) 11 v r 4 = σ 11 v r 4) := fun v r => by
                  refine ⟨fun q => ?_, fun q => ?_⟩
                  · simp [ks_up_at, q.1, q.2]
                  · rw [ks_up_at, if_neg (by omega), ks_up_at, if_neg (by omega), ks_up_at, if_neg (by omega), ks_up_at, if_neg (by omega), ks_up_at, if_neg (by omega), ks_up_at, if_neg (by omega)]
                have FA : FUN σ (ks_up (ks_up (ks_up (ks_up (ks_up (ks_up σ 11 t (cn (sD σ) t) 0 x2) 11 t (cn (sD σ) t) 1 (nI g)) 11 t (cn (sD σ) t) 2 (nI l)) 11 t (cn (sD σ) t) 3 x5) 11 t (cn (sD σ) t) 4 0) 8 t 0 7 (nI (cn (sD σ) t + 1))) := by
                  refine ⟨fun k' hk' => ?_, ?_, fun z _ => ?_, fun v r z hz => ?_⟩
                  · simp only [List.mem_cons, List.not_mem_nil, or_false] at hk'
                    funext i j z
                    simp [ks_up_at, show k' ≠ 8 by omega, show k' ≠ 11 by omega]
                  · funext i j z
                    simp [ks_up_at]
                  · simp [ks_up_at]
                  · rw [ks_up_at, if_neg (by omega), ks_up_at, if_neg (by omega), ks_up_at, if_neg (by omega), ks_up_at, if_neg (by omega), ks_up_at, if_neg (by omega), ks_up_at, if_neg (by omega)]
                have h87 : ∀ v, v < 16 → (ks_up (ks_up (ks_up (ks_up (ks_up (ks_up σ 11 t (cn (sD σ) t) 0 x2) 11 t (cn (sD σ) t) 1 (nI g)) 11 t (cn (sD σ) t) 2 (nI l)) 11 t (cn (sD σ) t) 3 x5) 11 t (cn (sD σ) t) 4 0) 8 t 0 7 (nI (cn (sD σ) t + 1))) 8 v 0 7 ≤ 6 := fun v hv => by
                  by_cases e : v = t
                  · subst e
                    rw [ks_up_hit]
                    exact nI_le (b := 6) (by omega) (by decide)
                  · simp [ks_up_at, e]
                    exact INV_87 h v hv
                have hhA : ∀ k', 14 ≤ k' → (ks_up (ks_up (ks_up (ks_up (ks_up (ks_up σ 11 t (cn (sD σ) t) 0 x2) 11 t (cn (sD σ) t) 1 (nI g)) 11 t (cn (sD σ) t) 2 (nI l)) 11 t (cn (sD σ) t) 3 x5) 11 t (cn (sD σ) t) 4 0) 8 t 0 7 (nI (cn (sD σ) t + 1))) k' = σ k' := fun k' hk' => by
                  funext i j z
                  simp [ks_up_at, show k' ≠ 8 by omega, show k' ≠ 11 by omega]
                generalize ks_up (ks_up (ks_up (ks_up (ks_up (ks_up σ 11 t (cn (sD σ) t) 0 x2) 11 t (cn (sD σ) t) 1 (nI g)) 11 t (cn (sD σ) t) 2 (nI l)) 11 t (cn (sD σ) t) 3 x5) 11 t (cn (sD σ) t) 4 0) 8 t 0 7 (nI (cn (sD σ) t + 1)) = σ1 at *
                obtain ⟨σ2, m1, m2, m3, m4⟩ := cls_measure hN hST' hC' (fun v r hv hv2 hr ho => by
                  by_cases q : v = t ∧ r = cn (sD σ) t
                  · exact (h114 v r).1 q
                  · rw [(h114 v r).2 q]
                    have hcv6 : cn (sD σ) v ≤ 6 := (cn6 h1 hv).2
                    have hr2 : r < cn (sD σ) v := by
                      by_cases e : v = t
                      · subst e; rw [hcn'] at hr; omega
                      · have : cn D' v = cn (sD σ) v := nn_e (e1 20 v (by decide) (by decide) e)
                        omega
                    have h15 : sD σ 15 v ≠ -1 := by
                      by_cases e : v = t
                      · subst e; exact hth
                      · rw [← e1 15 v (by decide) (by decide) e]; exact hv2
                    have ho2 : ou (sD σ) v r = false := by
                      rw [← ho]
                      unfold ou
                      rw [eo 24 _ (by decide) (by omega)]
                    rw [(h3.2 v hv h15).2 r hr2, ho2, if_neg (by decide)])
                have hhi : ∀ k', 14 ≤ k' → σ2 k' = σ k' := fun k' hk' => by rw [FM_hi m2 k' hk', hhA k' hk']
                have hs2 : σ2 14 0 0 12 = 0 := by rw [hhi 14 (by decide)]; exact q2
                have hRD : RD (sD σ) σ2 := fun k' s b1 b2 => by rw [hhi k' (by omega)]; exact rs b1 (by omega)
                have htk := isTask_of h1 hRD ht hth
                have hr20 : σ2 20 0 0 t = nI (cn (sD σ) t) := by rw [hhi 20 (by decide)]; exact r20
                obtain ⟨b', p1, p2⟩ := ref_place hN x2 x5 h1 hRD ht hth hg hl1 hl
                have hb' : b' = 1 := PL_uniq p2 (Or.inl ⟨rfl, hp⟩)
                subst hb'
                refine ⟨0, σ2, (nI (cn (sD σ) t)).toInt64, nI (cn (sD σ) t), ks_up (ks_up (ks_up (ks_up (ks_up (ks_up (ks_up σ2 14 0 0 0 0) 21 0 0 k x2) 22 0 0 k (nI g)) 23 0 0 k (nI l)) 24 0 0 k x5) 34 0 0 k (nI l)) 20 0 0 t (nI (cn (sD σ) t + 1)), ?_, ?_, ?_, fun _ => rfl, ?_⟩
                · simp [f_L_request, f_X4_request, t1, q1, c7, n6, cls_wi, w3, w4, f_X4_request_58, b1, hadd, m1]
                · have y20 : ks_up σ2 14 0 0 0 0 20 0 0 t = nI (cn (sD σ) t) := by rw [thr_k σ2 0 (by decide)]; exact hr20
                  have hx : f_X5_request N σ2 (nI t) x2 (nI g) (nI l) x5 = f_X5_request_79 N σ2 (nI t) x2 (nI g) (nI l) x5 0 0 0 := by
                    simp [f_X5_request, f_X5_request_13, htk, hs2, e8, e9, hr20, e6, f_X5_request_42, f_X5_request_43, p1, f_X5_request_78]
                  show f_X5_request N σ2 (nI t) x2 (nI g) (nI l) x5 = _
                  rw [hx]
                  unfold f_X5_request_79
                  rw [ref_rf, show rf 0 0 0 = 0 from rfl, Option.bind_some]
                  dsimp only
                  rw [if_pos rfl, if_pos rfl]
                  simp only [e8, e9, y20, nI_6, ← hk, i96 hk96, ↓reduceIte, cl (i := k) hk96]
                  have z20 : ks_up (ks_up (ks_up (ks_up (ks_up (ks_up σ2 14 0 0 0 0) 21 0 0 k x2) 22 0 0 k (nI g)) 23 0 0 k (nI l)) 24 0 0 k x5) 34 0 0 k (nI l) 20 0 0 t = nI (cn (sD σ) t) := by
                    rw [ks_up_at, if_neg (by omega), ks_up_at, if_neg (by omega), ks_up_at, if_neg (by omega), ks_up_at, if_neg (by omega), ks_up_at, if_neg (by omega)]
                    exact y20
                  rw [z20, nI_1, ks_up_hit, nI_pred]
                · simp [ks_up_at]
                · refine lay_end (σ1 := σ) (σ2 := σ2) hST' m3 m4 ?_ (fun k' hk' => ?_) (FUN_trans FA (FUN_FM m2)) (fun k' b1 b2 b3 b4 => ?_) (fun z hz => ?_) q3 q1 q2 (fun v hv => by rw [m2 8 v 0 7 (by omega) (by omega) (by omega) (by omega)]; exact h87 v hv)
                  · rw [sD_upS (by decide) (by decide), sD_up (by omega), sD_upS (by decide) (by decide), sD_upS (by decide) (by decide), sD_upS (by decide) (by decide), sD_upS (by decide) (by decide), sD_thr, sD_cls hhi]
                  · funext i j z
                    simp [ks_up_at, show k' ≠ 14 by omega, show k' ≠ 20 by omega, show k' ≠ 21 by omega, show k' ≠ 22 by omega, show k' ≠ 23 by omega, show k' ≠ 24 by omega, show k' ≠ 34 by omega]
                  · funext i j z
                    simp [ks_up_at, show k' ≠ 14 by omega, show k' ≠ 20 by omega, show k' ≠ 21 by omega, show k' ≠ 22 by omega, show k' ≠ 23 by omega, show k' ≠ 24 by omega, show k' ≠ 34 by omega]
                  · simp [ks_up_at, hz]
              · obtain ⟨b', p1, p2⟩ := ref_place hN x2 x5 h1 (RD_sD σ) ht hth hg hl1 hl
                have hb' : b' = 0 := PL_uniq p2 (Or.inr ⟨rfl, hp⟩)
                subst hb'
                refine ⟨3, σ, o, 0, ks_up σ 14 0 0 0 3, ?_, ?_, thr_hit _ _, fun e => absurd e (by decide), INV_thr 3 h⟩
                · simp [f_L_request, f_X4_request, t1, q1, c7, n6, cls_wi, w3, w4, f_X4_request_58, b1]
                · simp [f_X5_request, f_X5_request_13, t2, q2, e8, e9, r20, e6, f_X5_request_42, f_X5_request_43, p1, f_X5_request_79, ref_rf, rf]
      · refine ⟨2, σ, o, 0, ks_up σ 14 0 0 0 2, ?_, ?_, thr_hit _ _, fun e => absurd e (by decide), INV_thr 2 h⟩
        · simp [f_L_request, f_X4_request, t1, q1]
        · simp [f_X5_request, f_X5_request_13, t2, q2, f_X5_request_38, f_X5_request_43, f_X5_request_78, f_X5_request_79, ref_rf, rf]
  · refine ⟨1, σ, o, 0, ks_up σ 14 0 0 0 1, ?_, ?_, thr_hit _ _, fun e => absurd e (by decide), INV_thr 1 h⟩
    · simp [f_L_request, f_X4_request, t1]
    · simp [f_X5_request, f_X5_request_13, t2, f_X5_request_42, f_X5_request_43, f_X5_request_78, f_X5_request_79, ref_rf, rf]
