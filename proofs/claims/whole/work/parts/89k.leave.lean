set_option maxHeartbeats 1000000 in
/-- the holder's section goes on -/
theorem PH_dec {D A B : Nat → Nat → Int32} {F u u' b : Nat → Nat} {c t : Nat} (hST : ST D) (hSG : SG D) (hc : c < 4) (h3 : nn A 40 c = 3) (hs : Sec D A F c t) (hb : b (aGrp D A t) = nn A 14 13) (he : ∀ k, k ∈ [14, 26, 27, 28, 29, 30, 33, 39, 40, 43, 44] → B k = A k) (e31 : ∀ s, s ≠ t → B 31 s = A 31 s) (h31 : B 31 t = nI (nn A 31 t - 1)) (h2 : 2 ≤ nn A 31 t) (hu : ∀ s, s ≠ c → u' s = u s) (h : PH D A F u b) : PH D B F u' (fun g => if g = aGrp D A t then nn A 14 13 + 1 else b g) := by
  have e14 := he 14 (by decide)
  have e26 := he 26 (by decide)
  have e27 := he 27 (by decide)
  have e28 := he 28 (by decide)
  have e29 := he 29 (by decide)
  have e30 := he 30 (by decide)
  have e33 := he 33 (by decide)
  have e39 := he 39 (by decide)
  have e40 := he 40 (by decide)
  have e43 := he 43 (by decide)
  have e44 := he 44 (by decide)
  have n40 : ∀ s, nn B 40 s = nn A 40 s := fun s => by unfold nn; rw [e40]
  have eg : ∀ v, aGrp D B v = aGrp D A v := fun v => by unfold aGrp nn; rw [e30]
  have hs0 := hs
  obtain ⟨s1, s2, s3, s4, s5, s6, s7, s8, s9, k0, s10, s11, s12⟩ := hs
  have hln : ln D t (nn A 30 t) ≤ 100 := (hST.2.1 t _ s1 s5).2.2.1.2
  have hn31 : nn B 31 t = nn A 31 t - 1 := nn_nI h31 (by have := s7.2; omega)
  have hg : aGrp D A t < 8 := grp_lt hST hSG s1 s5
  have hk0 := s12 h3
  subst hk0
  have hne : ∀ {v s : Nat}, D 15 v = nI s → s < 4 → s ≠ c → v ≠ t := fun {v s} q hs hsc e => hsc (nI_inj (by omega) (by omega) (by rw [← q, e, s4]))
  have hPH : PH D B F u (fun g => if g = aGrp D A t then nn A 14 13 + 1 else b g) := by
    refine ⟨fun v hv => J_same e14 e26 e27 e28 e29 e30 e33 (h.1 v hv), fun s hs4 => ?_, fun g hg2 => ?_, fun i hi hi1 hi2 => ?_⟩
    · have q2 := h.2.1 s hs4
      refine ⟨by unfold ok nn at *; rw [e40]; exact q2.1, fun q3 => ?_⟩
      by_cases e : s = c
      · subst e
        refine ⟨t, s1, by rw [e39]; exact s2, by rw [e26]; exact s3, s4, by unfold nn at *; rw [e30]; exact s5, by unfold nn at *; rw [e29, e30]; exact s6, ⟨by rw [hn31]; exact h31, ?_⟩, by omega, by unfold nn at *; rw [e14, e30]; exact s9, 0, by unfold nn; rw [eg, e44]; exact s10, by rw [eg, e43]; exact s11, fun _ => rfl⟩
        have : nn B 30 t = nn A 30 t := by unfold nn; rw [e30]
        rw [hn31, this]
        have := s7.2
        omega
      · obtain ⟨v, h4⟩ := q2.2 (by rw [n40] at q3; exact q3)
        have hvt : v ≠ t := hne h4.2.2.2.1 hs4 e
        exact ⟨v, Sec_same e14 e26 e29 e30 (e31 v hvt) (by rw [e39]) (by rw [e40]) (fun k _ => by rw [e43]) (by unfold nn; rw [e44]; exact Nat.le_refl _) rfl h4⟩
    · obtain ⟨g1, g2, g3⟩ := h.2.2.1 g hg2
      refine ⟨by unfold ok nn at *; rw [e44]; exact g1, fun k hk => ?_, fun k q hk hq hkq => ?_⟩
      · have hk : k < nn A 44 g := by unfold nn at *; rw [e44] at hk; exact hk
        obtain ⟨s, v, p1, p2, p3, p3', p4, p5, p6, p7, p8, _, _, p11⟩ := row_left h hg2 hk
        refine ⟨s, v, p1, p2, by rw [e43]; exact p3, by rw [n40]; exact p4, by rw [e39]; exact p5, by rw [eg]; exact p6, fun k0 => ?_, fun q hq => ?_⟩
        · by_cases e : s = c
          · subst e
            have hv : v = t := nI_inj (by omega) (by omega) (p5.symm.trans s2)
            subst hv
            dsimp only
            rw [if_pos p6.symm, hn31, p7 k0, ← p6, hb]
            omega
          · have hvt : v ≠ t := hne p11.2.2.2.1 p1 e
            rw [nn_e (e31 v hvt), p7 k0]
            by_cases eg2 : g = aGrp D A t
            · exfalso
              subst k0
              rw [eg2, s11] at p3
              exact e (nI_inj (by omega) (by omega) p3).symm
            · dsimp only
              rw [if_neg eg2]
        · have hvt : v ≠ t := fun e => by
            subst e
            have q1 := g3 k 0 hk (by omega) (by rw [p3, ← p6, s11]; exact congrArg nI (nI_inj (by omega) (by omega) (p11.2.2.2.1.symm.trans s4)))
            omega
          have : nn B 43 (4 * g + q) = nn A 43 (4 * g + q) := by unfold nn; rw [e43]
          rw [nn_e (e31 v hvt), this]
          exact p8 q hq
      · unfold nn at *
        rw [e44] at hk hq
        rw [e43] at hkq
        exact g3 k q hk hq hkq
    · rw [e26] at hi2
      obtain ⟨t0, m, R, r1, r2, r3, r4, r5⟩ := h.2.2.2 i hi hi1 hi2
      refine ⟨t0, m, R, r1, r2, by unfold nn at *; rw [e14]; exact r3, ?_, fun j hj hj2 => ?_⟩
      · unfold zb zs pp scd nn at *
        rw [e26, e29, e30, e39, e40]
        exact r4
      · rw [e26, e27]
        unfold nn at *
        rw [e28]
        exact r5 j hj hj2
  exact PH_u (c := c) hST hu (Or.inl (by rw [n40]; omega)) hPH
set_option maxHeartbeats 2000000 in
/-- the holder's section is through -/
theorem PH_leave {D A B : Nat → Nat → Int32} {F u b : Nat → Nat} {c t x : Nat} (hST : ST D) (hSG : SG D) (hc : c < 4) (h3 : nn A 40 c = 3) (hs : Sec D A F c t) (hb : b (aGrp D A t) = nn A 14 13) (h1 : nn A 31 t = 1) (he : ∀ k, k ∈ [14, 27, 28, 29, 33, 39] → B k = A k) (e26 : ∀ s, s ≠ t → B 26 s = A 26 s) (e30 : ∀ s, s ≠ t → B 30 s = A 30 s) (e31 : ∀ s, s ≠ t → B 31 s = A 31 s) (e40 : ∀ s, s ≠ c → B 40 s = A 40 s) (h40 : B 40 c = nI 1) (e43 : ∀ s, (∀ k, k + 1 < nn A 44 (aGrp D A t) → s ≠ 4 * aGrp D A t + k) → B 43 s = A 43 s) (h43 : ∀ k, k + 1 < nn A 44 (aGrp D A t) → B 43 (4 * aGrp D A t + k) = A 43 (4 * aGrp D A t + (k + 1))) (e44 : ∀ s, s ≠ aGrp D A t → B 44 s = A 44 s) (h44 : B 44 (aGrp D A t) = nI (nn A 44 (aGrp D A t) - 1)) (h30 : B 30 t = nI x) (hx : nn A 30 t < x ∧ x ≤ cn D t) (hx2 : ∀ q, nn A 30 t < q → q < x → ou D t q = false) (hx3 : x < cn D t → ou D t x = true) (hend : (B 26 t = 0 ∧ nn A 29 t = nn D 19 t ∧ x = cn D t) ∨ (B 26 t = A 26 t ∧ (nn A 29 t < nn D 19 t ∨ x < cn D t))) (h : PH D A F u b) : PH D B F (fun s => if s = c then nn A 14 13 + 1 else u s) (fun g => if g = aGrp D A t then nn A 14 13 + 1 else b g) := by
  have e14 := he 14 (by decide)
  have e27 := he 27 (by decide)
  have e28 := he 28 (by decide)
  have e29 := he 29 (by decide)
  have e33 := he 33 (by decide)
  have e39 := he 39 (by decide)
  have hs0 := hs
  obtain ⟨s1, s2, s3, s4, s5, s6, s7, s8, s9, k0, s10, s11, s12⟩ := hs
  have hk0 := s12 h3
  subst hk0
  have hj := h.1 t s1 s3
  obtain ⟨cc, w1, w2, w3, w4, w5, w6, w7, w8, w9, w10, w11, w12⟩ := core_of hST s1 hj.1
  have hcn : cn D t ≤ 6 := w12.2
  have hg : aGrp D A t < 8 := grp_lt hST hSG s1 s5
  have hn40 : nn B 40 c = 1 := nn_nI h40 (by decide)
  have hn30 : nn B 30 t = x := nn_nI h30 (by omega)
  have hm4 : ∀ g', g' < 8 → nn A 44 g' ≤ 4 := fun g' hg' => (h.2.2.1 g' hg').1.2
  have hn44 : nn B 44 (aGrp D A t) = nn A 44 (aGrp D A t) - 1 := nn_nI h44 (by have := hm4 _ hg; omega)
  have eg : ∀ v, v ≠ t → aGrp D B v = aGrp D A v := fun v hv => by unfold aGrp nn; rw [e30 v hv]
  have hct : nn D 15 t = c := nn_nI s4 (by omega)
  have hne : ∀ {v s : Nat}, D 15 v = nI s → s < 4 → s ≠ c → v ≠ t := fun {v s} q hs hsc e => hsc (nI_inj (by omega) (by omega) (by rw [← q, e, s4]))
  have hFc : F c = nn A 14 13 + 1 := by
    obtain ⟨s, v, p1, p2, p3, p3', p4, p5, p6, p7, p8, _⟩ := row_left h hg s10
    have e : s = c := nI_inj (by omega) (by omega) (p3.symm.trans s11)
    subst e
    have hv : v = t := nI_inj (by omega) (by omega) (p5.symm.trans s2)
    subst hv
    rw [p7 rfl, hb, h1]
  generalize hgg : aGrp D A t = g at *
  have hg : g < 8 := hg
  refine ⟨fun v hv => ?_, fun s hs4 => ?_, fun g' hg' => ?_, fun i hi hi1 hi2 => ?_⟩
  · by_cases e : v = t
    · subst e
      intro hov
      rcases hend with q | q
      · exact absurd q.1 hov
      · have n29 : nn B 29 v = nn A 29 v := by unfold nn; rw [e29]
        refine ⟨hj.1, by rw [e27]; exact hj.2.1, by unfold ok nn at *; rw [e28, e14]; exact hj.2.2.1, by unfold ok nn at *; rw [e29]; exact hj.2.2.2.1, ⟨by rw [hn30]; exact h30, by omega⟩, ?_, ?_, by unfold ok nn at *; rw [e33]; exact hj.2.2.2.2.2.2.2⟩
        · rw [hn30, n29]
          intro q2
          refine ⟨hx3 q2, ?_⟩
          rcases (hST.2.1 v x s1 q2).2.2.2.2 with q3 | q3
          · rw [s6]
            exact q3.2.2 _ hx.1 (hj.2.2.2.2.2.1 s5).1
          · rw [hx3 q2] at q3
            exact absurd q3.1 (by decide)
        · rw [hn30, n29]
          intro q2
          omega
    · exact J_same2 e14 (e26 v e) e27 e28 (by rw [e29]) (e30 v e) e33 (h.1 v hv)
  · by_cases e : s = c
    · subst e
      exact ⟨(ok_nI h40 (by decide) (by decide)).1, fun q => absurd q (by omega)⟩
    · have q2 := h.2.1 s hs4
      refine ⟨by unfold ok; rw [nn_e (e40 s e), e40 s e]; exact q2.1, fun q3 => ?_⟩
      obtain ⟨v, h4⟩ := q2.2 (by rw [nn_e (e40 s e)] at q3; exact q3)
      have hvt : v ≠ t := hne h4.2.2.2.1 hs4 e
      have hg2 : aGrp D A v < 8 := grp_lt hST hSG h4.1 h4.2.2.2.2.1
      by_cases eg2 : aGrp D A v = g
      · obtain ⟨p1, p2, p3, p4, p5, p6, p7, p8, p9, k, p10, p11, p12⟩ := h4
        rw [eg2] at p10 p11
        have hk : k ≠ 0 := fun e0 => by
          subst e0
          rw [s11] at p11
          exact e (nI_inj (by omega) (by omega) p11).symm
        refine ⟨v, p1, by rw [e39]; exact p2, by rw [e26 v hvt]; exact p3, p4, by rw [nn_e (e30 v hvt)]; exact p5, ?_, ?_, by rw [nn_e (e31 v hvt)]; exact p8, ?_, k - 1, ?_, ?_, fun q => ?_⟩
        · rw [nn_e (e30 v hvt)]; unfold nn at *; rw [e29]; exact p6
        · unfold ok; rw [nn_e (e31 v hvt), nn_e (e30 v hvt), e31 v hvt]; exact p7
        · rw [nn_e (e30 v hvt)]; unfold nn at *; rw [e14]; exact p9
        · rw [eg v hvt, eg2, hn44]; omega
        · rw [eg v hvt, eg2, h43 (k - 1) (by omega), show k - 1 + 1 = k by omega]; exact p11
        · rw [nn_e (e40 s e)] at q
          exact absurd (p12 q) hk
      · refine ⟨v, Sec_same2 e14 (e26 v hvt) (by rw [e29]) (e30 v hvt) (e31 v hvt) (by rw [e39]) (e40 s e) (fun k hk => e43 _ (fun k' hk' e5 => ?_)) (by rw [nn_e (e44 _ eg2)]; exact Nat.le_refl _) rfl h4⟩
        have := hm4 _ hg2
        have := hm4 _ hg
        omega
  · by_cases e : g' = g
    · subst e
      have hm := hm4 _ hg'
      refine ⟨⟨by rw [hn44]; exact h44, by rw [hn44]; omega⟩, fun k hk => ?_, fun k q hk hq hkq => ?_⟩
      · rw [hn44] at hk
        obtain ⟨s, v, p1, p2, p3, p3', p4, p5, p6, p7, p8, _, _, p11⟩ := row_left h hg' (show k + 1 < nn A 44 g' by omega)
        have es : s ≠ c := fun es => by
          rw [es] at p3
          have := (h.2.2.1 g' hg').2.2 (k + 1) 0 (by omega) s10 (p3.trans s11.symm)
          omega
        have hvt : v ≠ t := hne p11.2.2.2.1 p1 es
        refine ⟨s, v, p1, p2, by rw [h43 k (by omega)]; exact p3, by rw [nn_e (e40 s es)]; exact p4, by rw [e39]; exact p5, by rw [eg v hvt]; exact p6, fun k0 => ?_, fun q hq => ?_⟩
        · subst k0
          dsimp only
          rw [if_pos rfl, nn_e (e31 v hvt), p8 0 rfl, nn_nI s11 (by omega), hFc]
        · subst hq
          rw [nn_e (e31 v hvt), p8 (q + 1) rfl, nn_e (h43 q (by omega))]
      · rw [hn44] at hk hq
        rw [h43 k (by omega), h43 q (by omega)] at hkq
        have := (h.2.2.1 g' hg').2.2 (k + 1) (q + 1) (by omega) (by omega) hkq
        omega
    · have n44 : nn B 44 g' = nn A 44 g' := nn_e (e44 g' e)
      have hm := hm4 _ hg'
      have hm2 := hm4 _ hg
      have old : ∀ k, k < nn A 44 g' → B 43 (4 * g' + k) = A 43 (4 * g' + k) := fun k hk => e43 _ (fun k' hk' e5 => by omega)
      refine ⟨by unfold ok; rw [n44, e44 g' e]; exact (h.2.2.1 g' hg').1, fun k hk => ?_, fun k q hk hq hkq => ?_⟩
      · rw [n44] at hk
        obtain ⟨s, v, p1, p2, p3, p3', p4, p5, p6, p7, p8, _, _, p11⟩ := row_left h hg' hk
        have hvt : v ≠ t := fun ev => by
          subst ev
          exact e (p6.symm.trans hgg)
        have es : s ≠ c := fun es => hvt (by
          subst es
          exact nI_inj (by omega) (by omega) (p5.symm.trans s2))
        refine ⟨s, v, p1, p2, by rw [old k hk]; exact p3, by rw [nn_e (e40 s es)]; exact p4, by rw [e39]; exact p5, by rw [eg v hvt]; exact p6, fun k0 => ?_, fun q hq => ?_⟩
        · dsimp only
          rw [if_neg e, nn_e (e31 v hvt)]; exact p7 k0
        · rw [nn_e (e31 v hvt), nn_e (old q (by omega))]; exact p8 q hq
      · rw [n44] at hk hq
        rw [old k hk, old q hq] at hkq
        exact (h.2.2.1 g' hg').2.2 k q hk hq hkq
  · have hopen : ∀ j, B 26 j ≠ 0 → A 26 j ≠ 0 := fun j q => by
      by_cases e : j = t
      · rw [e]; exact s3
      · rw [e26 j e] at q; exact q
    have hi2' : ∃ j, j < 16 ∧ HP D i j ∧ A 26 j ≠ 0 := by
      obtain ⟨j, q1, q2, q3⟩ := hi2
      exact ⟨j, q1, q2, hopen j q3⟩
    obtain ⟨t0, m, R, r1, r2, r3, r4, r5⟩ := h.2.2.2 i hi hi1 hi2'
    obtain ⟨ci, k1, k2, k3, _⟩ := core_of hST hi hi1
    have epp : ∀ j, j < 16 → j ≠ t → pp D B j = pp D A j := fun j hj2 hjt => by
      have esc : scd D B j = scd D A j := by
        unfold scd
        by_cases ec : nn D 15 j = c
        · rw [ec, if_neg (by omega), if_neg]
          rintro ⟨_, q⟩
          rw [s2] at q
          exact hjt (nI_inj (by omega) (by omega) q).symm
        · rw [nn_e (e40 _ ec), e39]
      unfold pp
      rw [esc, nn_e (e30 j hjt)]
      unfold nn
      rw [e29]
    have n29 : nn B 29 t = nn A 29 t := by unfold nn; rw [e29]
    have ppt : pp D A t = (nn D 19 t - nn A 29 t) + qf D t x := by
      have sc : scd D A t = 1 := by unfold scd; rw [hct, if_pos ⟨by omega, s2⟩]
      unfold pp
      rw [sc, qf_skips (x - (nn A 30 t + 1)) (nn A 30 t + 1) (fun q q1 q2 _ => hx2 q (by omega) (by omega)), show nn A 30 t + 1 + (x - (nn A 30 t + 1)) = x by omega]
    have ppt2 : pp D B t = (nn D 19 t - nn A 29 t) + qf D t x := by
      have sc : scd D B t = 0 := by unfold scd; rw [hct, if_neg (by omega)]
      unfold pp
      rw [sc, hn30, n29, Nat.add_zero]
    have zt : zs D B i = zs D A i := by
      unfold zs
      refine sm_congr (fun j hj2 => ?_)
      by_cases ej : j = t
      · subst ej
        rcases hend with q | q
        · rw [if_neg (fun q2 => q2.2 q.1)]
          by_cases q3 : (hp D i j = true ∨ j = i) ∧ A 26 j ≠ 0
          · rw [if_pos q3, ppt, q.2.2, qf_end (Nat.le_refl _)]
            omega
          · rw [if_neg q3]
        · rw [q.1, ppt, ppt2]
      · rw [e26 j ej, epp j hj2 ej]
    have zc : zb B F (fun s => if s = c then nn A 14 13 + 1 else u s) ci = zb A F u ci := by
      unfold zb
      by_cases e : ci = c
      · subst e
        rw [if_neg (by omega), if_pos (by omega), hFc]
        exact if_pos rfl
      · rw [nn_e (e40 ci e)]
        dsimp only
        rw [if_neg e]
    refine ⟨t0, m, R, r1, r2, by unfold nn at *; rw [e14]; exact r3, ?_, fun j hj1 hj2 => ?_⟩
    · rw [k3] at r4 ⊢
      rw [zc, zt]
      exact r4
    · have q := r5 j hj1 hj2
      rw [e27]
      have n28 : nn B 28 j = nn A 28 j := by unfold nn; rw [e28]
      rw [n28]
      by_cases e : j = t
      · subst e
        rcases q with q | q
        · exact absurd q.2 s3
        · exact Or.inr q
      · rw [e26 j e]
        exact q
