theorem WK_next {D A B : Nat → Nat → Int32} {F u b b' : Nat → Nat} {c : Nat} (hST : ST D) (hSG : SG D) (hc : c < 4) (h : WK D A F u b c) (hPH : PH D B F (fun s => if s = c then nn A 14 13 + 1 else u s) b') (e14 : B 14 = A 14) (hoth : ∀ s, s ≠ c → B 39 s = A 39 s ∧ B 40 s = A 40 s) (hrest : ∀ v, D 15 v ≠ nI c → B 26 v = A 26 v ∧ B 29 v = A 29 v ∧ B 30 v = A 30 v) (hb : ∀ g, b' g = b g ∨ (b' g = nn A 14 13 + 1 ∧ nn A 40 c = 3 ∧ ∃ t, A 39 c = nI t ∧ t < 16 ∧ aGrp D A t = g)) (hrow : ∀ g, g < 8 → b' g ≠ nn A 14 13 + 1 → nn B 44 g = nn A 44 g ∧ B 43 (4 * g) = A 43 (4 * g)) (h3 : nn A 40 c = 3 → ∀ t, A 39 c = nI t → t < 16 → b' (aGrp D A t) = nn A 14 13 + 1) : WK D B F (fun s => if s = c then nn A 14 13 + 1 else u s) b' (c + 1) := by
  have n14 : nn B 14 13 = nn A 14 13 := by unfold nn; rw [e14]
  obtain ⟨h0, h1, h2, h4⟩ := h
  refine ⟨hPH, fun s hs => ?_, fun s hs hs4 => ?_, fun g hg hm => ?_⟩
  · rw [n14]
    by_cases e : s = c
    · exact if_pos e
    · exact (if_neg e).trans (h1 s (by omega))
  · have e : s ≠ c := by omega
    obtain ⟨q1, q2, q3⟩ := h2 s (by omega) hs4
    have hv : ∀ v, D 15 v = nI s → D 15 v ≠ nI c := fun v hv hv2 => e (nI_inj (by omega) (by omega) (hv.symm.trans hv2))
    refine ⟨by rw [n14]; exact (if_neg e).trans q1, chosen_same2 (fun v hv2 => (hrest v (hv v hv2)).1) (fun v hv2 => (hrest v (hv v hv2)).2.1) (fun v hv2 => (hrest v (hv v hv2)).2.2) (hoth s e).1 (hoth s e).2 q2, fun t t1 t2 t3 => ?_⟩
    rw [nn_e (hoth s e).2] at t1
    rw [(hoth s e).1] at t2
    obtain ⟨v, hs1⟩ := (h0.2.1 s hs4).2 (by omega)
    have ev : v = t := nI_inj (by have := hs1.1; omega) (by omega) (hs1.2.1.symm.trans t2)
    subst ev
    have eg : aGrp D B v = aGrp D A v := by unfold aGrp; rw [nn_e (hrest v (hv v hs1.2.2.2.1)).2.2]
    rw [eg, n14]
    rcases hb (aGrp D A v) with q | ⟨_, q, t', p1, p2, p3⟩
    · rw [q]; exact q3 v t1 t2 t3
    · exfalso
      obtain ⟨v', hs2⟩ := (h0.2.1 c hc).2 (by omega)
      have ev' : v' = t' := nI_inj (by have := hs2.1; omega) (by omega) (hs2.2.1.symm.trans p1)
      subst ev'
      obtain ⟨k1, a1, a2, a3⟩ := hs1.2.2.2.2.2.2.2.2.2
      obtain ⟨k2, b1, b2, b3⟩ := hs2.2.2.2.2.2.2.2.2.2
      have ek1 := a3 t1
      have ek2 := b3 q
      subst ek1
      subst ek2
      rw [p3] at b2
      exact e (nI_inj (by omega) (by omega) (a2.symm.trans b2))
  · by_cases e : b' g = nn A 14 13 + 1
    · exact Or.inl (by rw [n14]; exact e)
    · obtain ⟨r1, r2⟩ := hrow g hg e
      have hm' : 0 < nn A 44 g := by omega
      have eb : b' g = b g := by
        rcases hb g with q | q
        · exact q
        · exact absurd q.1 e
      rcases h4 g hg hm' with q | ⟨q, s, s1, s2, s3, s4⟩
      · exact absurd (eb.trans q) e
      · have es : s ≠ c := fun es => by
          subst es
          obtain ⟨s', v, p1, p2, p3, p3', p4, p5, p6, _⟩ := row_left h0 hg hm'
          have : s' = s := nI_inj (by omega) (by omega) (p3.symm.trans s3)
          subst this
          exact e (by rw [← p6]; exact h3 s4 v p5 p2)
        exact Or.inr ⟨by rw [n14, eb]; exact q, s, by omega, s2, by rw [r2]; exact s3, by rw [nn_e (hoth s es).2]; exact s4⟩
theorem aTell_row {A : Nat → Nat → Int32} {c k : Nat} (h1 : k ≠ 41) (h2 : k ≠ 42) : aTell A c k = A k := by
  unfold aTell
  rw [au_row _ _ _ h2, au_row _ _ _ h1]
set_option maxHeartbeats 2000000 in
theorem WK_step {D A : Nat → Nat → Int32} {F u b : Nat → Nat} {c : Nat} (hST : ST D) (hSG : SG D) (hc : c < 4) (h : WK D A F u b c) : ∃ u' b', WK D (aGo D A c) F u' b' (c + 1) := by
  have hPH := h.1
  obtain ⟨huc, hch, hb3⟩ := h.2.2.1 c (Nat.le_refl _) hc
  have h40 := (hPH.2.1 c hc).1
  have hne : ∀ {t : Nat}, D 15 t = nI c → ∀ v, D 15 v ≠ nI c → v ≠ t := fun {t} q v hv e => hv (by rw [e]; exact q)
  rcases (show nn A 40 c = 0 ∨ nn A 40 c = 1 ∨ nn A 40 c = 2 ∨ nn A 40 c = 3 by have := h40.2; omega) with e | e | e | e
  · obtain ⟨c1, c2⟩ := hch.2 e
    have hB : aGo D A c = aTell A c := by unfold aGo; rw [if_pos (by rw [c1]; decide)]
    rw [hB]
    have he : ∀ k, k ∈ [14, 26, 27, 28, 29, 30, 31, 33, 39, 40, 43, 44] → aTell A c k = A k := fun k hk => aTell_row (fun q => by subst q; exact absurd hk (by decide)) (fun q => by subst q; exact absurd hk (by decide))
    refine ⟨_, b, WK_next hST hSG hc h (PH_u (c := c) hST (fun s hs => if_neg hs) (Or.inr (fun j hj hj2 => c2 j hj (by rw [he 26 (by decide)] at hj2; exact hj2))) (PH_rel he hPH)) (he 14 (by decide)) (fun s _ => ⟨by rw [he 39 (by decide)], by rw [he 40 (by decide)]⟩) (fun v _ => ⟨by rw [he 26 (by decide)], by rw [he 29 (by decide)], by rw [he 30 (by decide)]⟩) (fun g => Or.inl rfl) (fun g _ _ => ⟨by unfold nn; rw [he 44 (by decide)], by rw [he 43 (by decide)]⟩) (fun q => absurd q (by omega))⟩
  · obtain ⟨t, t1, t2, t3, t4, t5, t6⟩ := hch.1 e
    have hj := hPH.1 t t1 t3
    obtain ⟨cc, w1, w2, w3, w4, w5, w6, w7, w8, w9, w10, w11, w12⟩ := core_of hST t1 hj.1
    have hcl : nn A 39 c = t := nn_nI t2 (by omega)
    have h40e : A 40 c = 1 := by rw [h40.1, e]; rfl
    have hdo : aDo D (aTell A c) c t = au (aTell A c) 29 t (A 29 t + 1) := by
      unfold aDo
      rw [if_pos (by rw [aTell_row (by decide) (by decide)]; exact h40e), aTell_row (by decide) (by decide)]
    have hB : aGo D A c = aFin D (au (aTell A c) 29 t (A 29 t + 1)) c t := by
      unfold aGo
      rw [if_neg (by rw [t2]; exact nI_pos (by omega)), hcl, hdo]
    have hdle := hj.2.2.2.1.2
    have h29 : A 29 t + 1 = nI (nn A 29 t + 1) := by rw [← nI_1, ← hj.2.2.2.1.1]
    have hq : aEnds D (au (aTell A c) 29 t (A 29 t + 1)) c t = true ↔ (¬ nn A 29 t + 1 < nn D 19 t ∧ cn D t ≤ nn A 30 t) := by
      unfold aEnds
      rw [decide_eq_true_eq, au_k _ _ _ _ (by decide), aTell_row (by decide) (by decide), h40e, au_hit, h29, w10.1, nI_ltI (by have := w10.2; omega) (by have := w10.2; omega), au_k _ _ _ _ (by decide), aTell_row (by decide) (by decide), hj.2.2.2.2.1.1, w12.1, nI_leI (by have := w12.2; omega) (by have := hj.2.2.2.2.1.2; have := w12.2; unfold cn at *; omega)]
      constructor
      · intro q; exact ⟨q.2.1, q.2.2⟩
      · intro q; exact ⟨by decide, q.1, q.2⟩
    rw [hB]
    have hnx := hj.2.2.2.2.1.2
    have hrows : ∀ k, k ∈ [14, 27, 28, 30, 31, 33, 39, 40, 43, 44] → aFin D (au (aTell A c) 29 t (A 29 t + 1)) c t k = A k := by
      intro k hk
      funext s
      unfold aFin
      simp only [List.mem_cons, List.not_mem_nil, or_false] at hk
      split <;> rcases hk with rfl | rfl | rfl | rfl | rfl | rfl | rfl | rfl | rfl | rfl <;> simp [aEnd, aTell, au]
    have f26 : ∀ s, s ≠ t → aFin D (au (aTell A c) 29 t (A 29 t + 1)) c t 26 s = A 26 s := fun s hs => by
      unfold aFin
      split <;> simp [aEnd, aTell, au, hs]
    have f29 : ∀ s, s ≠ t → aFin D (au (aTell A c) 29 t (A 29 t + 1)) c t 29 s = A 29 s := fun s hs => by
      unfold aFin
      split <;> simp [aEnd, aTell, au, hs]
    have f29t : aFin D (au (aTell A c) 29 t (A 29 t + 1)) c t 29 t = nI (nn A 29 t + 1) := by
      rw [← h29]
      unfold aFin
      split <;> simp [aEnd, aTell, au]
    have fend : (aFin D (au (aTell A c) 29 t (A 29 t + 1)) c t 26 t = 0 ∧ nn A 29 t + 1 = nn D 19 t ∧ nn A 30 t = cn D t) ∨ (aFin D (au (aTell A c) 29 t (A 29 t + 1)) c t 26 t = A 26 t ∧ (nn A 29 t + 1 < nn D 19 t ∨ nn A 30 t < cn D t)) := by
      unfold aFin
      by_cases q : aEnds D (au (aTell A c) 29 t (A 29 t + 1)) c t = true
      · rw [if_pos q]
        obtain ⟨q1, q2⟩ := hq.mp q
        have q3 := hj.2.2.2.2.2.2.1 (by omega)
        exact Or.inl ⟨by simp [aEnd, au], by omega, by omega⟩
      · rw [if_neg q]
        refine Or.inr ⟨by simp [aTell, au], ?_⟩
        by_cases q1 : nn A 29 t + 1 < nn D 19 t
        · exact Or.inl q1
        · refine Or.inr (Nat.lt_of_not_le (fun q2 => q (hq.mpr ⟨q1, q2⟩)))
    refine ⟨_, b, WK_next hST hSG hc h (PH_work hST hc t1 e t3 t4 t5 t6 huc hrows f26 f29 f29t fend hPH) (hrows 14 (by decide)) (fun s _ => ⟨by rw [hrows 39 (by decide)], by rw [hrows 40 (by decide)]⟩) (fun v hv => ⟨f26 v (hne t4 v hv), f29 v (hne t4 v hv), by rw [hrows 30 (by decide)]⟩) (fun g => Or.inl rfl) (fun g _ _ => ⟨by unfold nn; rw [hrows 44 (by decide)], by rw [hrows 43 (by decide)]⟩) (fun q => absurd q (by omega))⟩
  · obtain ⟨t, hs⟩ := (hPH.2.1 c hc).2 (by omega)
    have t2 := hs.2.1
    have t1 := hs.1
    have hcl : nn A 39 c = t := nn_nI t2 (by omega)
    have h40e : A 40 c = 2 := by rw [h40.1, e]; rfl
    have hdo : aDo D (aTell A c) c t = aSpin (aTell A c) t := by
      unfold aDo
      rw [aTell_row (k := 40) (by decide) (by decide), h40e, if_neg (by decide), if_pos rfl]
    have hrows : ∀ k, k ∈ [14, 26, 27, 28, 29, 30, 31, 33, 39, 40, 43, 44] → aSpin (aTell A c) t k = A k := by
      intro k hk
      funext s
      simp only [List.mem_cons, List.not_mem_nil, or_false] at hk
      rcases hk with rfl | rfl | rfl | rfl | rfl | rfl | rfl | rfl | rfl | rfl | rfl | rfl <;> simp [aSpin, aTell, au]
    have hB : aGo D A c = aSpin (aTell A c) t := by
      unfold aGo
      rw [if_neg (by rw [t2]; exact nI_pos (by omega)), hcl, hdo]
      unfold aFin
      rw [if_neg]
      unfold aEnds
      rw [decide_eq_true_eq, hrows 40 (by decide), h40e]
      exact fun q => q.1 (by decide)
    rw [hB]
    refine ⟨_, b, WK_next hST hSG hc h (PH_u (c := c) hST (fun s hs => if_neg hs) (Or.inl (by unfold nn at *; rw [hrows 40 (by decide)]; omega)) (PH_rel hrows hPH)) (hrows 14 (by decide)) (fun s _ => ⟨by rw [hrows 39 (by decide)], by rw [hrows 40 (by decide)]⟩) (fun v _ => ⟨by rw [hrows 26 (by decide)], by rw [hrows 29 (by decide)], by rw [hrows 30 (by decide)]⟩) (fun g => Or.inl rfl) (fun g _ _ => ⟨by unfold nn; rw [hrows 44 (by decide)], by rw [hrows 43 (by decide)]⟩) (fun q => absurd q (by omega))⟩
  · obtain ⟨t, hs⟩ := (hPH.2.1 c hc).2 (by omega)
    have t2 := hs.2.1
    have t1 := hs.1
    have t4 := hs.2.2.2.1
    have hr := hs.2.2.2.2.1
    have okl := hs.2.2.2.2.2.2.1
    have hl1 := hs.2.2.2.2.2.2.2.1
    have hj := hPH.1 t t1 hs.2.2.1
    obtain ⟨cc, w1, w2, w3, w4, w5, w6, w7, w8, w9, w10, w11, w12⟩ := core_of hST t1 hj.1
    have hcn : cn D t ≤ 6 := w12.2
    have hln : ln D t (nn A 30 t) ≤ 100 := (hST.2.1 t _ t1 hr).2.2.1.2
    have hb0 := hb3 t e t2 t1
    have hcl : nn A 39 c = t := nn_nI t2 (by omega)
    have h40e : A 40 c = 3 := by rw [h40.1, e]; rfl
    have hG : aGrp D A t < 8 := grp_lt hST hSG t1 hr
    have d31 : aDec (aTell A c) t 31 t = nI (nn A 31 t - 1) := by
      unfold aDec
      rw [au_hit, aTell_row (by decide) (by decide), okl.1]
      obtain ⟨n, hn⟩ : ∃ n, nn A 31 t = n + 1 := ⟨nn A 31 t - 1, by omega⟩
      rw [hn, nI_pred]
      rfl
    have drow : ∀ k, k ≠ 31 → k ≠ 41 → k ≠ 42 → aDec (aTell A c) t k = A k := fun k k1 k2 k3 => by
      unfold aDec
      rw [au_row _ _ _ k1, aTell_row k2 k3]
    have ds : ∀ s, s ≠ t → aDec (aTell A c) t 31 s = A 31 s := fun s hs2 => by
      unfold aDec
      rw [au_s _ _ _ _ hs2, aTell_row (by decide) (by decide)]
    have hdo : aDo D (aTell A c) c t = if aDec (aTell A c) t 31 t = 0 then aLeave D (aDec (aTell A c) t) c t else aDec (aTell A c) t := by
      unfold aDo
      rw [aTell_row (k := 40) (by decide) (by decide), h40e, if_neg (by decide), if_neg (by decide)]
    have hge : aGo D A c = aFin D (aDo D (aTell A c) c t) c t := by
      unfold aGo
      rw [if_neg (by rw [t2]; exact nI_pos (by omega)), hcl]
    rw [hge, hdo]
    have hbb : ∀ g, (fun g => if g = aGrp D A t then nn A 14 13 + 1 else b g) g = b g ∨ ((fun g => if g = aGrp D A t then nn A 14 13 + 1 else b g) g = nn A 14 13 + 1 ∧ nn A 40 c = 3 ∧ ∃ t, A 39 c = nI t ∧ t < 16 ∧ aGrp D A t = g) := fun g => by
      by_cases q : g = aGrp D A t
      · exact Or.inr ⟨if_pos q, e, t, t2, t1, q.symm⟩
      · exact Or.inl (if_neg q)
    have hb4 : nn A 40 c = 3 → ∀ v, A 39 c = nI v → v < 16 → (fun g => if g = aGrp D A t then nn A 14 13 + 1 else b g) (aGrp D A v) = nn A 14 13 + 1 := fun _ v v1 v2 => by
      have : v = t := nI_inj (by omega) (by omega) (v1.symm.trans t2)
      subst this
      exact if_pos rfl
    by_cases e1 : nn A 31 t = 1
    · rw [if_pos (by rw [d31, e1]; rfl)]
      generalize hA2 : aDec (aTell A c) t = A2 at *
      obtain ⟨x1, x2, x3, x4⟩ := nxo_spec (D := D) (t := t) 7 (nn A 30 t + 1) (by omega) (by omega)
      have g30 : nn A2 30 t = nn A 30 t := by unfold nn; rw [drow 30 (by decide) (by decide) (by decide)]
      have gG : aGrp D A2 t = aGrp D A t := by unfold aGrp; rw [g30]
      have g44 : ∀ s, nn A2 44 s = nn A 44 s := fun s => by unfold nn; rw [drow 44 (by decide) (by decide) (by decide)]
      have hB0 : aLeave D A2 c t = au (au (au (aShift A2 (aGrp D A t)) 44 (aGrp D A t) (A 44 (aGrp D A t) - 1)) 40 c 1) 30 t (nI (nxo D t 7 (nn A 30 t + 1))) := by
        unfold aLeave aNx
        rw [gG, g30, drow 44 (by decide) (by decide) (by decide)]
      rw [hB0]
      generalize hx : nxo D t 7 (nn A 30 t + 1) = x at *
      have hm := (hPH.2.2.1 _ hG).1
      generalize hgg : aGrp D A t = g at *
      have hm0 : 0 < nn A 44 g := by
        obtain ⟨k0, k1, _⟩ := hs.2.2.2.2.2.2.2.2.2
        rw [hgg] at k1
        omega
      have hsh : ∀ k, k ≠ 43 → ∀ s, aShift A2 g k s = A2 k s := fun k hk s => by
        unfold aShift
        rw [if_neg (fun q => hk q.1)]
      have hsr : ∀ k, k ≠ 43 → aShift A2 g k = A2 k := fun k hk => funext (hsh k hk)
      generalize hC : au (au (au (aShift A2 g) 44 g (A 44 g - 1)) 40 c 1) 30 t (nI x) = C
      have cr : ∀ k, k ≠ 43 → k ≠ 44 → k ≠ 40 → k ≠ 30 → C k = A2 k := fun k k1 k2 k3 k4 => by
        rw [← hC, au_row _ _ _ k4, au_row _ _ _ k3, au_row _ _ _ k2, hsr k k1]
      have c30 : C 30 t = nI x := by rw [← hC, au_hit]
      have c30s : ∀ s, s ≠ t → C 30 s = A 30 s := fun s q => by
        rw [← hC, au_s _ _ _ _ q, au_row _ _ _ (by decide), au_row _ _ _ (by decide), hsr 30 (by decide), drow 30 (by decide) (by decide) (by decide)]
      have c40 : C 40 c = nI 1 := by rw [← hC, au_row _ _ _ (by decide), au_hit]; rfl
      have c40s : ∀ s, s ≠ c → C 40 s = A 40 s := fun s q => by
        rw [← hC, au_row _ _ _ (by decide), au_s _ _ _ _ q, au_row _ _ _ (by decide), hsr 40 (by decide), drow 40 (by decide) (by decide) (by decide)]
      have c44 : C 44 g = nI (nn A 44 g - 1) := by
        rw [← hC, au_row _ _ _ (by decide), au_row _ _ _ (by decide), au_hit, hm.1]
        obtain ⟨n, hn⟩ : ∃ n, nn A 44 g = n + 1 := ⟨nn A 44 g - 1, by omega⟩
        rw [hn, nI_pred]
        rfl
      have c44s : ∀ s, s ≠ g → C 44 s = A 44 s := fun s q => by
        rw [← hC, au_row _ _ _ (by decide), au_row _ _ _ (by decide), au_s _ _ _ _ q, hsr 44 (by decide), drow 44 (by decide) (by decide) (by decide)]
      have c43 : ∀ s, C 43 s = if 4 * g ≤ s ∧ s + 1 < 4 * g + nn A 44 g then A 43 (s + 1) else A 43 s := fun s => by
        rw [← hC, au_row _ _ _ (by decide), au_row _ _ _ (by decide), au_row _ _ _ (by decide)]
        unfold aShift
        rw [g44, drow 43 (by decide) (by decide) (by decide)]
        simp only [true_and]
      have hq : aEnds D C c t = true ↔ (¬ nn A 29 t < nn D 19 t ∧ cn D t ≤ x) := by
        unfold aEnds
        rw [decide_eq_true_eq, c40, cr 29 (by decide) (by decide) (by decide) (by decide), drow 29 (by decide) (by decide) (by decide), c30, hj.2.2.2.1.1, w10.1, nI_ltI (by have := w10.2; have := hj.2.2.2.1.2; omega) (by have := w10.2; omega), w12.1, nI_leI (by have := w12.2; omega) (by omega)]
        constructor
        · intro q; exact ⟨q.2.1, q.2.2⟩
        · intro q; exact ⟨by decide, q.1, q.2⟩
      have fr : ∀ k, k ∉ [26, 35, 36, 37, 45] → aFin D C c t k = C k := by
        intro k hk
        funext s
        simp only [List.mem_cons, List.not_mem_nil, or_false, not_or] at hk
        obtain ⟨k1, k2, k3, k4, k5⟩ := hk
        unfold aFin
        split
        · unfold aEnd
          rw [au_k _ _ _ _ k5, au_k _ _ _ _ k3, au_k _ _ _ _ k4, au_k _ _ _ _ k2, au_k _ _ _ _ k1]
        · rfl
      have f26 : ∀ s, s ≠ t → aFin D C c t 26 s = A 26 s := fun s q => by
        have : C 26 s = A 26 s := by rw [cr 26 (by decide) (by decide) (by decide) (by decide), drow 26 (by decide) (by decide) (by decide)]
        rw [← this]
        unfold aFin
        split
        · simp [aEnd, au, q]
        · rfl
      have fend : (aFin D C c t 26 t = 0 ∧ nn A 29 t = nn D 19 t ∧ x = cn D t) ∨ (aFin D C c t 26 t = A 26 t ∧ (nn A 29 t < nn D 19 t ∨ x < cn D t)) := by
        unfold aFin
        by_cases q : aEnds D C c t = true
        · rw [if_pos q]
          obtain ⟨q1, q2⟩ := hq.mp q
          have q3 := hj.2.2.2.1.2
          exact Or.inl ⟨by simp [aEnd, au], by omega, by omega⟩
        · rw [if_neg q]
          refine Or.inr ⟨by rw [cr 26 (by decide) (by decide) (by decide) (by decide), drow 26 (by decide) (by decide) (by decide)], ?_⟩
          by_cases q1 : nn A 29 t < nn D 19 t
          · exact Or.inl q1
          · exact Or.inr (Nat.lt_of_not_le (fun q2 => q (hq.mpr ⟨q1, q2⟩)))
      have hbase : ∀ k, k ∈ [14, 27, 28, 29, 33, 39] → aFin D C c t k = A k := by
        intro k hk
        simp only [List.mem_cons, List.not_mem_nil, or_false] at hk
        rcases hk with rfl | rfl | rfl | rfl | rfl | rfl <;> rw [fr _ (by decide), cr _ (by decide) (by decide) (by decide) (by decide), drow _ (by decide) (by decide) (by decide)]
      have f43 : ∀ s, (∀ k, k + 1 < nn A 44 g → s ≠ 4 * g + k) → aFin D C c t 43 s = A 43 s := fun s q => by
        rw [fr 43 (by decide), c43, if_neg]
        intro q2
        exact q (s - 4 * g) (by omega) (by omega)
      have hPL := PH_leave (B := aFin D C c t) (x := x) hST hSG hc e hs (by rw [hgg]; exact hb0) e1 hbase f26 (fun s q => by rw [fr 30 (by decide)]; exact c30s s q) (fun s q => by rw [fr 31 (by decide), cr 31 (by decide) (by decide) (by decide) (by decide)]; exact ds s q) (fun s q => by rw [fr 40 (by decide)]; exact c40s s q) (by rw [fr 40 (by decide)]; exact c40) (by rw [hgg]; exact f43) (fun k hk => by rw [hgg] at hk ⊢; rw [fr 43 (by decide), c43, if_pos ⟨by omega, by omega⟩]; rfl) (fun s q => by rw [hgg] at q; rw [fr 44 (by decide)]; exact c44s s q) (by rw [hgg, fr 44 (by decide)]; exact c44) (by rw [fr 30 (by decide)]; exact c30) ⟨by omega, x2⟩ (fun q q1 q2 => x3 q (by omega) q2) x4 fend hPH
      rw [hgg] at hPL
      refine ⟨_, _, WK_next hST hSG hc h hPL (hbase 14 (by decide)) (fun s q => ⟨by rw [hbase 39 (by decide)], by rw [fr 40 (by decide)]; exact c40s s q⟩) (fun v hv => ⟨f26 v (hne t4 v hv), by rw [hbase 29 (by decide)], by rw [fr 30 (by decide)]; exact c30s v (hne t4 v hv)⟩) hbb (fun g' hg' hb5 => ?_) hb4⟩
      have hgn : g' ≠ g := fun q => hb5 (if_pos q)
      have hm4 := hm.2
      refine ⟨by rw [nn_e (A := C) (A' := aFin D C c t) (k := 44) (k' := 44) (by rw [fr 44 (by decide)])]; exact nn_e (c44s g' hgn), f43 _ (fun k hk q => by omega)⟩
    · rw [if_neg (by rw [d31]; exact nI_ne0 (by omega) (by have := okl.2; omega))]
      have hB : aFin D (aDec (aTell A c) t) c t = aDec (aTell A c) t := by
        unfold aFin
        rw [if_neg]
        unfold aEnds
        rw [decide_eq_true_eq, drow 40 (by decide) (by decide) (by decide), h40e]
        exact fun q => q.1 (by decide)
      rw [hB]
      have hrows : ∀ k, k ∈ [14, 26, 27, 28, 29, 30, 33, 39, 40, 43, 44] → aDec (aTell A c) t k = A k := fun k hk => drow k (fun q => by subst q; exact absurd hk (by decide)) (fun q => by subst q; exact absurd hk (by decide)) (fun q => by subst q; exact absurd hk (by decide))
      refine ⟨_, _, WK_next hST hSG hc h (PH_dec (u' := fun s => if s = c then nn A 14 13 + 1 else u s) hST hSG hc e hs hb0 hrows ds d31 (by omega) (fun s q => if_neg q) hPH) (hrows 14 (by decide)) (fun s _ => ⟨by rw [hrows 39 (by decide)], by rw [hrows 40 (by decide)]⟩) (fun v _ => ⟨by rw [hrows 26 (by decide)], by rw [hrows 29 (by decide)], by rw [hrows 30 (by decide)]⟩) hbb (fun g _ _ => ⟨by unfold nn; rw [hrows 44 (by decide)], by rw [hrows 43 (by decide)]⟩) hb4⟩
