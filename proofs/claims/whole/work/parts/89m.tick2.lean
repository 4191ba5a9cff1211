theorem WK_next {D A B : Nat → Nat → Int32} {F u b b' : Nat → Nat} {c : Nat} (hST : ST D) (hSG : SG D) (hc : c < 4) (h : WK D A F u b c) (hPH : PH D B F (fun s => if s = c then nn A 14 13 + 1 else u s) b') (e14 : B 14 = A 14) (hoth : ∀ s, s ≠ c → B 39 s = A 39 s ∧ B 40 s = A 40 s) (hrest : ∀ v, D 15 v ≠ nI c → B 26 v = A 26 v ∧ B 29 v = A 29 v ∧ B 30 v = A 30 v) (hb : ∀ g, b' g = b g ∨ (b' g = nn A 14 13 + 1 ∧ nn A 40 c = 3 ∧ ∃ t, A 39 c = nI t ∧ t < 16 ∧ aGrp D A t = g)) (hrow : ∀ g, g < 8 → b' g ≠ nn A 14 13 + 1 → nn B 44 g = nn A 44 g ∧ B 43 (4 * g) = A 43 (4 * g)) (h3 : nn A 40 c = 3 → ∀ t, A 39 c = nI t → t < 16 → b' (aGrp D A t) = nn A 14 13 + 1) : WK D B F (fun s => if s = c then nn A 14 13 + 1 else u s) b' (c + 1) := by
  have n14 : nn B 14 13 = nn A 14 13 := by unfold nn; rw [e14]
  obtain ⟨h0, h1, h2, h4⟩ := h
  refine ⟨hPH, fun s hs => ?_, fun s hs hs4 => ?_, fun g hg hm => ?_⟩
  · rw [n14]
    by_cases e : s = c
    · exact if_pos e
    · exact (if_neg e).trans (h1 s (by omega))
  · have e : s ≠ c := by omega
    obtain ⟨q1, q2, q3⟩ := h2 s (by omega) hs4
    have hv : ∀ v, D 15 v = nI s → D 15 v ≠ nI c := fun v hv hv2 => e (nI_inj (by omega) (by omega) (hv.symm.trans hv2))
    refine ⟨by rw [n14]; exact (if_neg e).trans q1, chosen_same2 (fun v hv2 => (hrest v (hv v hv2)).1) (fun v hv2 => (hrest v (hv v hv2)).2.1) (fun v hv2 => (hrest v (hv v hv2)).2.2) (hoth s e).1 (hoth s e).2 q2, fun t t1 t2 t3 => ?_⟩
    rw [nn_e (hoth s e).2] at t1
    rw [(hoth s e).1] at t2
    obtain ⟨v, hs1⟩ := (h0.2.1 s hs4).2 (by omega)
    have ev : v = t := nI_inj (by have := hs1.1; omega) (by omega) (hs1.2.1.symm.trans t2)
    subst ev
    have eg : aGrp D B v = aGrp D A v := by unfold aGrp; rw [nn_e (hrest v (hv v hs1.2.2.2.1)).2.2]
    rw [eg, n14]
    rcases hb (aGrp D A v) with q | ⟨_, q, t', p1, p2, p3⟩
    · rw [q]; exact q3 v t1 t2 t3
    · exfalso
      obtain ⟨v', hs2⟩ := (h0.2.1 c hc).2 (by omega)
      have ev' : v' = t' := nI_inj (by have := hs2.1; omega) (by omega) (hs2.2.1.symm.trans p1)
      subst ev'
      obtain ⟨k1, a1, a2, a3⟩ := hs1.2.2.2.2.2.2.2.2.2
      obtain ⟨k2, b1, b2, b3⟩ := hs2.2.2.2.2.2.2.2.2.2
      have ek1 := a3 t1
      have ek2 := b3 q
      subst ek1
      subst ek2
      rw [p3] at b2
      exact e (nI_inj (by omega) (by omega) (a2.symm.trans b2))
  · by_cases e : b' g = nn A 14 13 + 1
    · exact Or.inl (by rw [n14]; exact e)
    · obtain ⟨r1, r2⟩ := hrow g hg e
      have hm' : 0 < nn A 44 g := by omega
      have eb : b' g = b g := by
        rcases hb g with q | q
        · exact q
        · exact absurd q.1 e
      rcases h4 g hg hm' with q | ⟨q, s, s1, s2, s3, s4⟩
      · exact absurd (eb.trans q) e
      · have es : s ≠ c := fun es => by
          subst es
          obtain ⟨s', v, p1, p2, p3, p3', p4, p5, p6, _⟩ := row_left h0 hg hm'
          have : s' = s := nI_inj (by omega) (by omega) (p3.symm.trans s3)
          subst this
          exact e (by rw [← p6]; exact h3 s4 v p5 p2)
        exact Or.inr ⟨by rw [n14, eb]; exact q, s, by omega, s2, by rw [r2]; exact s3, by rw [nn_e (hoth s es).2]; exact s4⟩
theorem aTell_row {A : Nat → Nat → Int32} {c k : Nat} (h1 : k ≠ 41) (h2 : k ≠ 42) : aTell A c k = A k := by
  unfold aTell
  rw [au_row _ _ _ h2, au_row _ _ _ h1]
set_option maxHeartbeats 2000000 in
theorem WK_step {D A : Nat → Nat → Int32} {F u b : Nat → Nat} {c : Nat} (hST : ST D) (hSG : SG D) (hc : c < 4) (h : WK D A F u b c) : ∃ u' b', WK D (aGo D A c) F u' b' (c + 1) := by
  have hPH := h.1
  obtain ⟨huc, hch, hb3⟩ := h.2.2.1 c (Nat.le_refl _) hc
  have h40 := (hPH.2.1 c hc).1
  have hne : ∀ {t : Nat}, D 15 t = nI c → ∀ v, D 15 v ≠ nI c → v ≠ t := fun {t} q v hv e => hv (by rw [e]; exact q)
  rcases (show nn A 40 c = 0 ∨ nn A 40 c = 1 ∨ nn A 40 c = 2 ∨ nn A 40 c = 3 by have := h40.2; omega) with e | e | e | e
  · obtain ⟨c1, c2⟩ := hch.2 e
    have hB : aGo D A c = aTell A c := by unfold aGo; rw [if_pos (by rw [c1]; decide)]
    rw [hB]
    have he : ∀ k, k ∈ [14, 26, 27, 28, 29, 30, 31, 33, 39, 40, 43, 44] → aTell A c k = A k := fun k hk => aTell_row (fun q => by subst q; exact absurd hk (by decide)) (fun q => by subst q; exact absurd hk (by decide))
    refine ⟨_, b, WK_next hST hSG hc h (PH_u (c := c) hST (fun s hs => if_neg hs) (Or.inr (fun j hj hj2 => c2 j hj (by rw [he 26 (by decide)] at hj2; exact hj2))) (PH_rel he hPH)) (he 14 (by decide)) (fun s _ => ⟨by rw [he 39 (by decide)], by rw [he 40 (by decide)]⟩) (fun v _ => ⟨by rw [he 26 (by decide)], by rw [he 29 (by decide)], by rw [he 30 (by decide)]⟩) (fun g => Or.inl rfl) (fun g _ _ => ⟨by unfold nn; rw [he 44 (by decide)], by rw [he 43 (by decide)]⟩) (fun q => absurd q (by omega))⟩
  · obtain ⟨t, t1, t2, t3, t4, t5, t6⟩ := hch.1 e
    have hj := hPH.1 t t1 t3
    obtain ⟨cc, w1, w2, w3, w4, w5, w6, w7, w8, w9, w10, w11, w12⟩ := core_of hST t1 hj.1
    have hcl : nn A 39 c = t := nn_nI t2 (by omega)
    have h40e : A 40 c = 1 := by rw [h40.1, e]; rfl
    have hdo : aDo D (aTell A c) c t = au (aTell A c) 29 t (A 29 t + 1) := by
      unfold aDo
      rw [if_pos (by rw [aTell_row (by decide) (by decide)]; exact h40e), aTell_row (by decide) (by decide)]
    have hB : aGo D A c = aFin D (au (aTell A c) 29 t (A 29 t + 1)) c t := by
      unfold aGo
      rw [if_neg (by rw [t2]; exact nI_pos (by omega)), hcl, hdo]
    have hdle := hj.2.2.2.1.2
    have h29 : A 29 t + 1 = nI (nn A 29 t + 1) := by rw [← nI_1, ← hj.2.2.2.1.1]
    have hq : aEnds D (au (aTell A c) 29 t (A 29 t + 1)) c t = true ↔ (¬ nn A 29 t + 1 < nn D 19 t ∧ cn D t ≤ nn A 30 t) := by
      unfold aEnds
      rw [decide_eq_true_eq, au_k _ _ _ _ (by decide), aTell_row (by decide) (by decide), h40e, au_hit, h29, w10.1, nI_ltI (by have := w10.2; omega) (by have := w10.2; omega), au_k _ _ _ _ (by decide), aTell_row (by decide) (by decide), hj.2.2.2.2.1.1, w12.1, nI_leI (by have := w12.2; omega) (by have := hj.2.2.2.2.1.2; have := w12.2; unfold cn at *; omega)]
      constructor
      · intro q; exact ⟨q.2.1, q.2.2⟩
      · intro q; exact ⟨by decide, q.1, q.2⟩
    rw [hB]
    have hnx := hj.2.2.2.2.1.2
    have hrows : ∀ k, k ∈ [14, 27, 28, 30, 31, 33, 39, 40, 43, 44] → aFin D (au (aTell A c) 29 t (A 29 t + 1)) c t k = A k := by
      intro k hk
      funext s
      unfold aFin
      simp only [List.mem_cons, List.not_mem_nil, or_false] at hk
      split <;> rcases hk with rfl | rfl | rfl | rfl | rfl | rfl | rfl | rfl | rfl | rfl <;> simp [aEnd, aTell, au]
    have f26 : ∀ s, s ≠ t → aFin D (au (aTell A c) 29 t (A 29 t + 1)) c t 26 s = A 26 s := fun s hs => by
      unfold aFin
      split <;> simp [aEnd, aTell, au, hs]
    have f29 : ∀ s, s ≠ t → aFin D (au (aTell A c) 29 t (A 29 t + 1)) c t 29 s = A 29 s := fun s hs => by
      unfold aFin
      split <;> simp [aEnd, aTell, au, hs]
    have f29t : aFin D (au (aTell A c) 29 t (A 29 t + 1)) c t 29 t = nI (nn A 29 t + 1) := by
      rw [← h29]
      unfold aFin
      split <;> simp [aEnd, aTell, au]
    have fend : (aFin D (au (aTell A c) 29 t (A 29 t + 1)) c t 26 t = 0 ∧ nn A 29 t + 1 = nn D 19 t ∧ nn A 30 t = cn D t) ∨ (aFin D (au (aTell A c) 29 t (A 29 t + 1)) c t 26 t = A 26 t ∧ (nn A 29 t + 1 < nn D 19 t ∨ nn A 30 t < cn D t)) := by
      unfold aFin
      by_cases q : aEnds D (au (aTell A c) 29 t (A 29 t + 1)) c t = true
      · rw [if_pos q]
        obtain ⟨q1, q2⟩ := hq.mp q
        have q3 := hj.2.2.2.2.2.2.1 (by omega)
        exact Or.inl ⟨by simp [aEnd, au], by omega, by omega⟩
      · rw [if_neg q]
        refine Or.inr ⟨by simp [aTell, au], ?_⟩
        by_cases q1 : nn A 29 t + 1 < nn D 19 t
        · exact Or.inl q1
        · refine Or.inr (Nat.lt_of_not_le (fun q2 => q (hq.mpr ⟨q1, q2⟩)))
    refine ⟨_, b, WK_next hST hSG hc h (PH_work hST hc t1 e t3 t4 t5 t6 huc hrows f26 f29 f29t fend hPH) (hrows 14 (by decide)) (fun s _ => ⟨by rw [hrows 39 (by decide)], by rw [hrows 40 (by decide)]⟩) (fun v hv => ⟨f26 v (hne t4 v hv), f29 v (hne t4 v hv), by rw [hrows 30 (by decide)]⟩) (fun g => Or.inl rfl) (fun g _ _ => ⟨by unfold nn; rw [hrows 44 (by decide)], by rw [hrows 43 (by decide)]⟩) (fun q => absurd q (by omega))⟩
  · obtain ⟨t, hs⟩ := (hPH.2.1 c hc).2 (by omega)
    have t2 := hs.2.1
    have t1 := hs.1
    have hcl : nn A 39 c = t := nn_nI t2 (by omega)
    have h40e : A 40 c = 2 := by rw [h40.1, e]; rfl
    have hdo : aDo D (aTell A c) c t = aSpin (aTell A c) t := by
      unfold aDo
      rw [aTell_row (k := 40) (by decide) (by decide), h40e, if_neg (by decide), if_pos rfl]
    have hrows : ∀ k, k ∈ [14, 26, 27, 28, 29, 30, 31, 33, 39, 40, 43, 44] → aSpin (aTell A c) t k = A k := by
      intro k hk
      funext s
      simp only [List.mem_cons, List.not_mem_nil, or_false] at hk
      rcases hk with rfl | rfl | rfl | rfl | rfl | rfl | rfl | rfl | rfl | rfl | rfl | rfl <;> simp [aSpin, aTell, au]
    have hB : aGo D A c = aSpin (aTell A c) t := by
      unfold aGo
      rw [if_neg (by rw [t2]; exact nI_pos (by omega)), hcl, hdo]
      unfold aFin
      rw [if_neg]
      unfold aEnds
      rw [decide_eq_true_eq, hrows 40 (by decide), h40e]
      exact fun q => q.1 (by decide)
    rw [hB]
    refine ⟨_, b, WK_next hST hSG hc h (PH_u (c := c) hST (fun s hs => if_neg hs) (Or.inl (by unfold nn at *; rw [hrows 40 (by decide)]; omega)) (PH_rel hrows hPH)) (hrows 14 (by decide)) (fun s _ => ⟨by rw [hrows 39 (by decide)], by rw [hrows 40 (by decide)]⟩) (fun v _ => ⟨by rw [hrows 26 (by decide)], by rw [hrows 29 (by decide)], by rw [hrows 30 (by decide)]⟩) (fun g => Or.inl rfl) (fun g _ _ => ⟨by unfold nn; rw [hrows 44 (by decide)], by rw [hrows 43 (by decide)]⟩) (fun q => absurd q (by omega))⟩
  · sorry
