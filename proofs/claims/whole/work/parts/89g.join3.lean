theorem aJoin_rows {D A : Nat → Nat → Int32} {c t : Nat} : ∀ k, k ∈ [14, 26, 27, 28, 29, 30, 33, 39] → aJoin D A c t k = A k := by
  intro k hk
  funext s
  simp only [List.mem_cons, List.not_mem_nil, or_false] at hk
  rcases hk with rfl | rfl | rfl | rfl | rfl | rfl | rfl | rfl <;> simp [aJoin, au]
theorem HP_core {D : Nat → Nat → Int32} {i j : Nat} (h : HP D i j) : D 15 j = D 15 i := by
  rcases h with h | h
  · unfold hp at h
    rw [decide_eq_true_eq] at h
    exact h.1
  · rw [h]
set_option maxHeartbeats 2000000 in
theorem PH_join {D A : Nat → Nat → Int32} {F : Nat → Nat} {c t : Nat} (hST : ST D) (hSG : SG D) (hc : c < 4) (ht : t < 16) (h0 : nn A 40 c ≤ 1) (hat : A 39 c = nI t) (ho : A 26 t ≠ 0) (hon : D 15 t = nI c) (htop : ∀ v, v < 16 → A 26 v ≠ 0 → D 15 v = nI c → D 16 v ≤ D 16 t) (hr : nn A 30 t < cn D t) (hd : nn A 29 t = af D t (nn A 30 t)) (h : PH D A F (fun _ => nn A 14 13) (fun _ => nn A 14 13)) : PH D (aJoin D A c t) (fJoin A F c t (aGrp D A t) (nn A 30 t)) (fun _ => nn A 14 13) (fun _ => nn A 14 13) := by
  have hw := wait_bound hST hSG hc ht h0 ho hon hr h (fun _ => rfl)
  have hg : aGrp D A t < 8 := grp_lt hST hSG ht hr
  have hmine := ((h.1 t ht ho).2.2.2.2.2.2.2 _ hr)
  have e14 : aJoin D A c t 14 = A 14 := aJoin_rows 14 (by decide)
  have e26 : aJoin D A c t 26 = A 26 := aJoin_rows 26 (by decide)
  have e27 : aJoin D A c t 27 = A 27 := aJoin_rows 27 (by decide)
  have e28 : aJoin D A c t 28 = A 28 := aJoin_rows 28 (by decide)
  have e29 : aJoin D A c t 29 = A 29 := aJoin_rows 29 (by decide)
  have e30 : aJoin D A c t 30 = A 30 := aJoin_rows 30 (by decide)
  have e33 : aJoin D A c t 33 = A 33 := aJoin_rows 33 (by decide)
  have e39 : aJoin D A c t 39 = A 39 := aJoin_rows 39 (by decide)
  have e31 : ∀ s, s ≠ t → aJoin D A c t 31 s = A 31 s := fun s hs => by simp [aJoin, au, hs]
  have h31 : aJoin D A c t 31 t = A 33 (6 * t + nn A 30 t) := by simp [aJoin, au]
  have e40 : ∀ s, s ≠ c → aJoin D A c t 40 s = A 40 s := fun s hs => by simp [aJoin, au, hs]
  have h40 : aJoin D A c t 40 c = nI 2 := by simp [aJoin, au]; rfl
  have e43 : ∀ s, s ≠ 4 * aGrp D A t + nn A 44 (aGrp D A t) → aJoin D A c t 43 s = A 43 s := fun s hs => by simp [aJoin, au, hs]
  have h43 : aJoin D A c t 43 (4 * aGrp D A t + nn A 44 (aGrp D A t)) = nI c := by simp [aJoin, au]
  have e44 : ∀ s, s ≠ aGrp D A t → aJoin D A c t 44 s = A 44 s := fun s hs => by simp [aJoin, au, hs]
  have h44 : aJoin D A c t 44 (aGrp D A t) = nI (nn A 44 (aGrp D A t) + 1) := by
    have q := (h.2.2.1 _ hg).1.1
    have q2 : aJoin D A c t 44 (aGrp D A t) = A 44 (aGrp D A t) + 1 := by simp [aJoin, au]
    rw [q2, ← nI_1, ← q]
  have eg : ∀ v, aGrp D (aJoin D A c t) v = aGrp D A v := fun v => by unfold aGrp nn; rw [e30]
  have hn40 : nn (aJoin D A c t) 40 c = 2 := nn_nI h40 (by decide)
  have hn44 : nn (aJoin D A c t) 44 (aGrp D A t) = nn A 44 (aGrp D A t) + 1 := nn_nI h44 (by omega)
  have hn31 : nn (aJoin D A c t) 31 t = nn A 33 (6 * t + nn A 30 t) := congrArg Int32.toNatClampNeg h31
  have eF : ∀ s, s ≠ c → fJoin A F c t (aGrp D A t) (nn A 30 t) s = F s := fun s hs => by unfold fJoin; rw [if_neg hs]
  generalize hB : aJoin D A c t = B at *
  generalize hF : fJoin A F c t (aGrp D A t) (nn A 30 t) = F' at *
  have hFc : F' c = (if nn A 44 (aGrp D A t) = 0 then nn A 14 13 else F (nn A 43 (4 * aGrp D A t + (nn A 44 (aGrp D A t) - 1)))) + nn A 33 (6 * t + nn A 30 t) := by
    rw [← hF]; unfold fJoin; rw [if_pos rfl]
  have hne : ∀ {v s : Nat}, D 15 v = nI s → s < 4 → s ≠ c → v ≠ t := fun {v s} q hs hsc e => hsc (nI_inj (by omega) (by omega) (by rw [← q, e, hon]))
  generalize hgg : aGrp D A t = g at *
  have hm4 : ∀ g', g' < 8 → nn A 44 g' ≤ 4 := fun g' hg' => (h.2.2.1 g' hg').1.2
  refine ⟨fun v hv => J_same e14 e26 e27 e28 e29 e30 e33 (h.1 v hv), fun s hs4 => ?_, fun g' hg' => ?_, fun i hi => ?_⟩
  · by_cases e : s = c
    · subst e
      refine ⟨(ok_nI h40 (by decide) (by decide)).1, fun _ => ⟨t, ht, by rw [e39]; exact hat, by rw [e26]; exact ho, hon, ?_, ?_, ?_, ?_, ?_, nn A 44 g, ?_, ?_, fun h3 => ?_⟩⟩
      · unfold nn at *; rw [e30]; exact hr
      · unfold nn at *; rw [e29, e30]; exact hd
      · refine ⟨by rw [hn31, h31]; exact hmine.1.1, ?_⟩
        rw [hn31]
        have : nn B 30 t = nn A 30 t := by unfold nn; rw [e30]
        rw [this]
        exact hmine.1.2
      · rw [hn31]; exact hmine.2
      · have q1 : nn B 30 t = nn A 30 t := by unfold nn; rw [e30]
        have q2 : nn B 14 13 = nn A 14 13 := by unfold nn; rw [e14]
        rw [q1, q2]
        exact hw.2
      · rw [eg, hgg, hn44]; omega
      · rw [eg, hgg]; exact h43
      · omega
    · have h2 := h.2.1 s hs4
      have e4 : nn B 40 s = nn A 40 s := nn_e (e40 s e)
      refine ⟨by unfold ok; rw [e4, e40 s e]; exact h2.1, fun h3 => ?_⟩
      obtain ⟨v, h4⟩ := h2.2 (by omega)
      have hvt : v ≠ t := hne h4.2.2.2.1 hs4 e
      have hg2 : aGrp D A v < 8 := grp_lt hST hSG h4.1 h4.2.2.2.2.1
      refine ⟨v, Sec_same e14 e26 e29 e30 (e31 v hvt) (by rw [e39]) (e40 s e) (fun k hk => e43 _ ?_) ?_ (eF s e) h4⟩
      · have := hm4 _ hg2
        intro e5
        have e6 : aGrp D A v = g := by omega
        rw [e6] at hk e5
        omega
      · by_cases e6 : aGrp D A v = g
        · rw [e6, hn44]; omega
        · rw [nn_e (e44 _ e6)]; exact Nat.le_refl _
  · have old : ∀ k, k < nn A 44 g' → 4 * g' + k ≠ 4 * g + nn A 44 g := fun k hk e5 => by
      have := hm4 _ hg'
      have e6 : g' = g := by omega
      rw [e6] at hk e5
      omega
    have ent : ∀ k, k < nn A 44 g' → ∃ s v, s < 4 ∧ v < 16 ∧ B 43 (4 * g' + k) = nI s ∧ 1 < nn B 40 s ∧ B 39 s = nI v ∧ aGrp D B v = g' ∧ (k = 0 → F' s = nn A 14 13 + nn B 31 v) ∧ ∀ q, k = q + 1 → F' s = F' (nn B 43 (4 * g' + q)) + nn B 31 v := by
      intro k hk
      obtain ⟨s, v, q1, q2, q3, q3', q4, q5, q6, q7, q8, _, _, q11⟩ := row_left h hg' hk
      have e : s ≠ c := fun e => by subst e; omega
      have hvt : v ≠ t := hne q11.2.2.2.1 q1 e
      refine ⟨s, v, q1, q2, by rw [e43 _ (old k hk)]; exact q3, by rw [nn_e (e40 s e)]; exact q4, by rw [e39]; exact q5, by rw [eg]; exact q6, fun k0 => by rw [eF s e, nn_e (e31 v hvt)]; exact q7 k0, fun q hq => ?_⟩
      obtain ⟨s2, v2, p1, p2, p3, p3', p4, _⟩ := row_left h hg' (show q < nn A 44 g' by omega)
      have e2 : s2 ≠ c := fun e => by subst e; omega
      rw [nn_e (e43 _ (old q (by omega))), p3', eF s e, eF s2 e2, nn_e (e31 v hvt), q8 q hq, p3']
    by_cases e : g' = g
    · subst e
      refine ⟨⟨by rw [hn44]; exact h44, by rw [hn44]; omega⟩, fun k hk => ?_, fun k q hk hq hkq => ?_⟩
      · by_cases e5 : k < nn A 44 g'
        · exact ent k e5
        · have e6 : k = nn A 44 g' := by omega
          subst e6
          refine ⟨c, t, hc, ht, h43, by omega, by rw [e39]; exact hat, by rw [eg]; exact hgg, fun k0 => by rw [hFc, if_pos k0, hn31], fun q hq => ?_⟩
          obtain ⟨s2, v2, p1, p2, p3, p3', p4, _⟩ := row_left h hg' (show q < nn A 44 g' by omega)
          have e2 : s2 ≠ c := fun e => by subst e; omega
          rw [hFc, if_neg (by omega), hn31, show nn A 44 g' - 1 = q by omega, nn_e (e43 _ (old q (by omega))), p3', eF s2 e2]
      · rw [hn44] at hk hq
        by_cases e5 : k < nn A 44 g'
        · by_cases e6 : q < nn A 44 g'
          · rw [e43 _ (old k e5), e43 _ (old q e6)] at hkq
            exact (h.2.2.1 g' hg').2.2 k q e5 e6 hkq
          · have e7 : q = nn A 44 g' := by omega
            subst e7
            obtain ⟨s2, v2, p1, p2, p3, p3', p4, _⟩ := row_left h hg' e5
            rw [e43 _ (old k e5), h43, p3] at hkq
            have := nI_inj (by omega) (by omega) hkq
            subst this
            omega
        · have e7 : k = nn A 44 g' := by omega
          by_cases e6 : q < nn A 44 g'
          · subst e7
            obtain ⟨s2, v2, p1, p2, p3, p3', p4, _⟩ := row_left h hg' e6
            rw [e43 _ (old q e6), h43, p3] at hkq
            have := nI_inj (by omega) (by omega) hkq
            subst this
            omega
          · omega
    · have e4 : nn B 44 g' = nn A 44 g' := nn_e (e44 g' e)
      refine ⟨by unfold ok; rw [e4, e44 g' e]; exact (h.2.2.1 g' hg').1, fun k hk => ent k (by omega), fun k q hk hq hkq => ?_⟩
      rw [e4] at hk hq
      rw [e43 _ (old k hk), e43 _ (old q hq)] at hkq
      exact (h.2.2.1 g' hg').2.2 k q hk hq hkq
  · intro hi1 hi2
    rw [e26] at hi2
    obtain ⟨t0, m, R, r1, r2, r3, r4, r5⟩ := h.2.2.2 i hi hi1 hi2
    obtain ⟨ci, k1, k2, k3, _⟩ := core_of hST hi hi1
    have hct : nn D 15 t = c := nn_nI hon (by omega)
    have sA : ∀ j, nn D 15 j = c → scd D A j = 0 := fun j hj => by unfold scd; rw [hj, if_neg (by omega)]
    have epp : ∀ j, j < 16 → j ≠ t → pp D B j = pp D A j := fun j hj hjt => by
      have esc : scd D B j = scd D A j := by
        by_cases e : nn D 15 j = c
        · rw [sA j e]
          unfold scd
          rw [e, if_neg]
          rintro ⟨_, q⟩
          rw [e39, hat] at q
          exact hjt (nI_inj (by omega) (by omega) q).symm
        · unfold scd
          rw [nn_e (e40 _ e), e39]
      unfold pp
      rw [esc]
      unfold nn
      rw [e29, e30]
    refine ⟨t0, m, R, r1, r2, by unfold nn at *; rw [e14]; exact r3, ?_, fun j hj hj2 => ?_⟩
    · rw [k3] at r4 ⊢
      by_cases e : ci = c
      · subst e
        have hHP : HP D i t := top_HP hST ht hi hon hc k2 htop hi2
        have z1 : zb A F (fun _ => nn A 14 13) ci = nn A 14 13 := by unfold zb; rw [if_neg (by omega)]
        have z2 : zb B F' (fun _ => nn A 14 13) ci = F' ci := by unfold zb; rw [if_pos (by omega)]
        have z3 := sm_one (f := fun j => if (hp D i j = true ∨ j = i) ∧ A 26 j ≠ 0 then pp D A j else 0) (g := fun j => if (hp D i j = true ∨ j = i) ∧ B 26 j ≠ 0 then pp D B j else 0) ht (fun j hj hjt => by rw [e26]; rw [epp j hj hjt])
        have c1 : (hp D i t = true ∨ t = i) ∧ A 26 t ≠ 0 := ⟨hHP, ho⟩
        have c2 : (hp D i t = true ∨ t = i) ∧ B 26 t ≠ 0 := by rw [e26]; exact ⟨hHP, ho⟩
        rw [if_pos c1, if_pos c2] at z3
        have z4 : pp D A t = pp D B t + (ln D t (nn A 30 t) + spn D t (nn A 30 t)) := by
          have q1 : scd D B t = 1 := by
            unfold scd
            rw [hct, if_pos ⟨by omega, by rw [e39]; exact hat⟩]
          have q2 : nn B 30 t = nn A 30 t := by unfold nn; rw [e30]
          have q3 : nn B 29 t = nn A 29 t := by unfold nn; rw [e29]
          unfold pp
          rw [sA t hct, q1, q2, q3, Nat.add_zero, qf_step hr ((h.1 t ht ho).2.2.2.2.2.1 hr).1]
          omega
        have z5 : zs D B i + (ln D t (nn A 30 t) + spn D t (nn A 30 t)) = zs D A i := by
          unfold zs
          omega
        rw [z1] at r4
        rw [z2]
        have := hw.2
        omega
      · have z1 : zb B F' (fun _ => nn A 14 13) ci = zb A F (fun _ => nn A 14 13) ci := by unfold zb; rw [nn_e (e40 ci e), eF ci e]
        have z2 : zs D B i = zs D A i := by
          unfold zs
          refine sm_congr (fun j hj => ?_)
          rw [e26]
          by_cases q : (hp D i j = true ∨ j = i) ∧ A 26 j ≠ 0
          · rw [if_pos q, if_pos q]
            refine epp j hj (fun ej => e ?_)
            have q3 := HP_core q.1
            rw [ej, hon, k2] at q3
            exact (nI_inj (by omega) (by omega) q3).symm
          · rw [if_neg q, if_neg q]
        rw [z1, z2]
        exact r4
    · rw [e26, e27]
      unfold nn at *
      rw [e28]
      exact r5 j hj hj2
