def aCho (D A : Nat → Nat → Int32) : Nat → Nat → Int32 := aChoose D (aChoose D (aChoose D (aChoose D A 0) 1) 2) 3
def aWrk (D A : Nat → Nat → Int32) : Nat → Nat → Int32 := aGo D (aGo D (aGo D (aGo D A 0) 1) 2) 3
def aMid (D A : Nat → Nat → Int32) : Nat → Nat → Int32 := aHoldL (aCho D A) 8
def aTick (D A : Nat → Nat → Int32) : Nat → Nat → Int32 := au (aWrk D (aMid D A)) 14 13 (A 14 13 + 1)
theorem aChoose_row {D A : Nat → Nat → Int32} {c k : Nat} (hk : k ∈ [14, 26, 27, 28, 29, 30, 33]) : aChoose D A c k = A k := by
  unfold aChoose
  split
  · split
    · rw [aJoin_rows k (by simp only [List.mem_cons, List.not_mem_nil, or_false] at hk ⊢; omega), aPick_rows k (by simp only [List.mem_cons, List.not_mem_nil, or_false] at hk ⊢; omega)]
    · rw [aPick_rows k (by simp only [List.mem_cons, List.not_mem_nil, or_false] at hk ⊢; omega)]
  · rfl
theorem aHoldL_row {A : Nat → Nat → Int32} {k : Nat} (hk : k ≠ 40) : ∀ n, aHoldL A n k = A k := by
  intro n
  induction n with
  | zero => rfl
  | succ n ih =>
    rw [aHoldL]
    split
    · exact ih
    · rw [au_row _ _ _ hk, ih]
theorem aEnd_row {D B : Nat → Nat → Int32} {t k : Nat} (h1 : k ≠ 26) (h2 : k ≠ 35) (h3 : k ≠ 36) (h4 : k ≠ 37) (h5 : k ≠ 45) : aEnd D B t k = B k := by
  unfold aEnd
  rw [au_row _ _ _ h5, au_row _ _ _ h3, au_row _ _ _ h4, au_row _ _ _ h2, au_row _ _ _ h1]
theorem aShift_row {A : Nat → Nat → Int32} {g k : Nat} (h : k ≠ 43) : aShift A g k = A k := by
  funext s
  unfold aShift
  rw [if_neg (fun q => h q.1)]
theorem aDo_row {D A : Nat → Nat → Int32} {c t k : Nat} (h1 : k ≠ 29) (h2 : k ≠ 30) (h3 : k ≠ 31) (h4 : k ≠ 32) (h5 : k ≠ 38) (h6 : k ≠ 40) (h7 : k ≠ 43) (h8 : k ≠ 44) : aDo D A c t k = A k := by
  unfold aDo
  split
  · exact au_row _ _ _ h1
  · split
    · unfold aSpin
      rw [au_row _ _ _ h5, au_row _ _ _ h4]
    · split
      · unfold aLeave
        rw [au_row _ _ _ h2, au_row _ _ _ h6, au_row _ _ _ h8, aShift_row h7]
        exact au_row _ _ _ h3
      · exact au_row _ _ _ h3
theorem aFin_row {D B : Nat → Nat → Int32} {c t k : Nat} (h1 : k ≠ 26) (h2 : k ≠ 35) (h3 : k ≠ 36) (h4 : k ≠ 37) (h5 : k ≠ 45) : aFin D B c t k = B k := by
  unfold aFin
  split
  · exact aEnd_row h1 h2 h3 h4 h5
  · rfl
theorem aGo_row {D A : Nat → Nat → Int32} {c k : Nat} (hk : k ∈ [14, 27, 28, 33, 34, 39]) : aGo D A c k = A k := by
  simp only [List.mem_cons, List.not_mem_nil, or_false] at hk
  unfold aGo
  split
  · exact aTell_row (by omega) (by omega)
  · rw [aFin_row (by omega) (by omega) (by omega) (by omega) (by omega), aDo_row (by omega) (by omega) (by omega) (by omega) (by omega) (by omega) (by omega) (by omega), aTell_row (by omega) (by omega)]
theorem row_ge {D A : Nat → Nat → Int32} {F u b : Nat → Nat} {g : Nat} (h : PH D A F u b) (hg : g < 8) : ∀ k, k < nn A 44 g → b g + 1 ≤ F (nn A 43 (4 * g + k)) := by
  intro k
  induction k with
  | zero =>
    intro hk
    obtain ⟨s, v, p1, p2, p3, p3', p4, p5, p6, p7, p8, p9, p10, _⟩ := row_left h hg hk
    rw [p3', p7 rfl]
    omega
  | succ k ih =>
    intro hk
    obtain ⟨s, v, p1, p2, p3, p3', p4, p5, p6, p7, p8, p9, p10, _⟩ := row_left h hg hk
    have := ih (by omega)
    rw [p3', p8 k rfl]
    omega
theorem pp_pos {D A : Nat → Nat → Int32} {F u b : Nat → Nat} {j c : Nat} (hST : ST D) (hj : j < 16) (ho : A 26 j ≠ 0) (hon : D 15 j = nI c) (hc : c < 4) (hs : ¬ 1 < nn A 40 c) (h : PH D A F u b) : 1 ≤ pp D A j := by
  have q := h.1 j hj ho
  have sc : scd D A j = 0 := by unfold scd; rw [nn_nI hon (by omega), if_neg (fun q2 => hs q2.1)]
  unfold pp
  rw [sc, Nat.add_zero]
  by_cases e : nn A 30 j < cn D j
  · rw [qf_step e (q.2.2.2.2.2.1 e).1]
    have := (hST.2.1 j _ hj e).2.2.2.1
    omega
  · have := q.2.2.2.2.2.2.1 (by have := q.2.2.2.2.1.2; omega)
    omega
theorem BT_end {D A : Nat → Nat → Int32} {F u b : Nat → Nat} (hST : ST D) (hSG : SG D) (hnow : A 14 13 = nI (nn A 14 13)) (hlt : nn A 14 13 + 1 < 2 ^ 31) (hTM : ∀ t, t < 16 → A 27 t ≠ 0 → nn A 28 t ≤ nn A 14 13) (h : WK D A F u b 4) : BT D (au A 14 13 (A 14 13 + 1)) F := by
  obtain ⟨h0, h1, _, h4⟩ := h
  have er : ∀ k, k ≠ 14 → au A 14 13 (A 14 13 + 1) k = A k := fun k hk => au_row A _ _ hk
  have n14 : nn (au A 14 13 (A 14 13 + 1)) 14 13 = nn A 14 13 + 1 := nn_nI (by rw [au_hit, ← nI_1, ← hnow]) hlt
  have e26 := er 26 (by decide)
  have e27 := er 27 (by decide)
  have e28 := er 28 (by decide)
  have e29 := er 29 (by decide)
  have e30 := er 30 (by decide)
  have e31 := er 31 (by decide)
  have e33 := er 33 (by decide)
  have e39 := er 39 (by decide)
  have e40 := er 40 (by decide)
  have e43 := er 43 (by decide)
  have e44 := er 44 (by decide)
  generalize au A 14 13 (A 14 13 + 1) = B at *
  have eg : ∀ v, aGrp D B v = aGrp D A v := fun v => by unfold aGrp nn; rw [e30]
  have n40 : ∀ s, nn B 40 s = nn A 40 s := fun s => by unfold nn; rw [e40]
  have n30 : ∀ s, nn B 30 s = nn A 30 s := fun s => by unfold nn; rw [e30]
  have n44 : ∀ s, nn B 44 s = nn A 44 s := fun s => by unfold nn; rw [e44]
  have n28 : ∀ s, nn B 28 s = nn A 28 s := fun s => by unfold nn; rw [e28]
  have hbg : ∀ g, g < 8 → 0 < nn A 44 g → b g = nn A 14 13 + 1 := fun g hg hm => by
    rcases h4 g hg hm with q | ⟨_, s, s1, s2, _⟩
    · exact q
    · omega
  have hsec : ∀ c t, Sec D A F c t → Sec D B F c t := fun c t hs => by
    obtain ⟨s1, s2, s3, s4, s5, s6, s7, s8, s9, k, s10, s11, s12⟩ := hs
    refine ⟨s1, by rw [e39]; exact s2, by rw [e26]; exact s3, s4, by rw [n30]; exact s5, by rw [n30]; unfold nn at *; rw [e29]; exact s6, by rw [n30]; unfold ok nn at *; rw [e31]; exact s7, by unfold nn at *; rw [e31]; exact s8, by rw [n30, n14]; omega, k, by rw [eg, n44]; exact s10, by rw [eg, e43]; exact s11, by rw [n40]; exact s12⟩
  refine ⟨⟨fun t ht ho => ?_, fun c hc => ?_, fun g hg => ?_, fun i hi hi1 hi2 => ?_⟩, fun c t hc q1 q2 q3 => ?_⟩
  · rw [e26] at ho
    obtain ⟨j1, j2, j3, j4, j5, j6, j7, j8⟩ := h0.1 t ht ho
    refine ⟨j1, by rw [e27]; exact j2, ⟨by rw [n28, e28]; exact j3.1, by rw [n28, n14]; have := j3.2; omega⟩, by unfold ok nn at *; rw [e29]; exact j4, by unfold ok nn at *; rw [e30]; exact j5, ?_, ?_, by unfold ok nn at *; rw [e33]; exact j8⟩
    · rw [n30]; unfold nn at *; rw [e29]; exact j6
    · rw [n30]; unfold nn at *; rw [e29]; exact j7
  · obtain ⟨q1, q2⟩ := h0.2.1 c hc
    refine ⟨by unfold ok nn at *; rw [e40]; exact q1, fun q => ?_⟩
    obtain ⟨t, hs⟩ := q2 (by rw [n40] at q; exact q)
    exact ⟨t, hsec c t hs⟩
  · obtain ⟨g1, g2, g3⟩ := h0.2.2.1 g hg
    refine ⟨by unfold ok nn at *; rw [e44]; exact g1, fun k hk => ?_, fun k q hk hq hkq => ?_⟩
    · rw [n44] at hk
      obtain ⟨s, v, p1, p2, p3, p4, p5, p6, p7, p8⟩ := g2 k hk
      refine ⟨s, v, p1, p2, by rw [e43]; exact p3, by rw [n40]; exact p4, by rw [e39]; exact p5, by rw [eg]; exact p6, fun k0 => ?_, fun q hq => ?_⟩
      · have := p7 k0
        rw [hbg g hg (by omega)] at this
        rw [n14]
        unfold nn at *
        rw [e31]
        exact this
      · have := p8 q hq
        unfold nn at *
        rw [e31, e43]
        exact this
    · rw [n44] at hk hq
      rw [e43] at hkq
      exact g3 k q hk hq hkq
  · rw [e26] at hi2
    obtain ⟨t0, m, R, r1, r2, r3, r4, r5⟩ := h0.2.2.2 i hi hi1 hi2
    obtain ⟨ci, k1, k2, k3, k4, k5, k6, k7, k8, k9, _⟩ := core_of hST hi hi1
    have hz : zb B F (fun _ => nn B 14 13) (nn D 15 i) + zs D B i = zb A F u (nn D 15 i) + zs D A i := by
      have z1 : zb B F (fun _ => nn B 14 13) (nn D 15 i) = zb A F u (nn D 15 i) := by
        unfold zb
        rw [n40, k3, h1 ci k1, n14]
      have z2 : zs D B i = zs D A i := by
        unfold zs pp scd nn
        rw [e26, e29, e30, e39, e40]
      rw [z1, z2]
    have hwin : blk D i + sm (fun j => if hp D i j = true ∨ j = i then m j * infl D j else 0) 16 ≤ R := by
      refine win_sum (hp := hp D i) (n := m) (C := infl D) (T := nn D 17) (R := R) (B := blk D i) hi r2 (by omega) (fun j hj hj2 => ?_) (fun j hj hj2 => ?_) ?_
      · have hjc := HP_core hj2
        obtain ⟨_, _, _, _, _, _, q, _⟩ := core_of hST hj (by rw [hjc]; exact hi1)
        exact q
      · rcases r5 j hj hj2 with q | q
        · exact Or.inl q.1
        · refine Or.inr ?_
          have := hTM j hj q.2.1
          have := q.2.2
          omega
      · unfold hp
        rw [decide_eq_false_iff_not]
        omega
    have hpos : nn A 14 13 + 2 ≤ zb A F u (nn D 15 i) + zs D A i := by
      rw [k3]
      by_cases q : 1 < nn A 40 ci
      · have : zb A F u ci = F ci := by unfold zb; rw [if_pos q]
        rw [this]
        obtain ⟨t, hs⟩ := (h0.2.1 ci k1).2 q
        obtain ⟨k, s10, s11, _⟩ := hs.2.2.2.2.2.2.2.2.2
        have hG : aGrp D A t < 8 := grp_lt hST hSG hs.1 hs.2.2.2.2.1
        have := row_ge h0 hG k s10
        rw [nn_nI s11 (by omega), hbg _ hG (by omega)] at this
        omega
      · have : zb A F u ci = nn A 14 13 + 1 := by unfold zb; rw [if_neg q, h1 ci k1]
        rw [this]
        obtain ⟨j, j1, j2, j3⟩ := hi2
        have w := pp_pos hST j1 j3 ((HP_core j2).trans k2) k1 q h0
        have w2 := sm_ge (f := fun j => if (hp D i j = true ∨ j = i) ∧ A 26 j ≠ 0 then pp D A j else 0) j1
        have w3 : (hp D i j = true ∨ j = i) ∧ A 26 j ≠ 0 := ⟨j2, j3⟩
        rw [if_pos w3] at w2
        unfold zs
        omega
    refine ⟨t0, m, R, r1, r2, by omega, by rw [hz]; exact r4, fun j hj hj2 => ?_⟩
    rw [e26, e27, n28]
    exact r5 j hj hj2
  · rw [n40] at q1
    rw [e39] at q2
    obtain ⟨v, hs⟩ := (h0.2.1 c hc).2 q1
    have : v = t := nI_inj (by have := hs.1; omega) (by omega) (hs.2.1.symm.trans q2)
    subst this
    have := hs.2.2.2.2.2.2.2.2.1
    rw [n30, n14]
    omega
theorem aWM_row {D A : Nat → Nat → Int32} {k : Nat} (hk : k ∈ [14, 27, 28, 33]) : aWrk D (aMid D A) k = A k := by
  simp only [List.mem_cons, List.not_mem_nil, or_false] at hk
  have k1 : k ∈ [14, 27, 28, 33, 34, 39] := by simp only [List.mem_cons, List.not_mem_nil, or_false]; omega
  have k2 : k ∈ [14, 26, 27, 28, 29, 30, 33] := by simp only [List.mem_cons, List.not_mem_nil, or_false]; omega
  unfold aWrk aMid aCho
  rw [aGo_row k1, aGo_row k1, aGo_row k1, aGo_row k1, aHoldL_row (by omega), aChoose_row k2, aChoose_row k2, aChoose_row k2, aChoose_row k2]
/-- a tick leaves all in order: no job is late -/
theorem BT_tick {D A : Nat → Nat → Int32} {F : Nat → Nat} (hST : ST D) (hSG : SG D) (hnow : A 14 13 = nI (nn A 14 13)) (hlt : nn A 14 13 + 1 < 2 ^ 31) (hTM : ∀ t, t < 16 → A 27 t ≠ 0 → nn A 28 t ≤ nn A 14 13) (h : BT D A F) : ∃ F', BT D (aTick D A) F' := by
  have c0 : CH D A F 0 := ⟨h.1, fun c hc => absurd hc (by omega)⟩
  obtain ⟨F1, c1⟩ := CH_step hST hSG (by decide) c0
  obtain ⟨F2, c2⟩ := CH_step hST hSG (by decide) c1
  obtain ⟨F3, c3⟩ := CH_step hST hSG (by decide) c2
  obtain ⟨F4, c4⟩ := CH_step hST hSG (by decide) c3
  have w0 := WK_start c4
  obtain ⟨u1, b1, w1⟩ := WK_step hST hSG (by decide) w0
  obtain ⟨u2, b2, w2⟩ := WK_step hST hSG (by decide) w1
  obtain ⟨u3, b3, w3⟩ := WK_step hST hSG (by decide) w2
  obtain ⟨u4, b4, w4⟩ := WK_step hST hSG (by decide) w3
  have w : WK D (aWrk D (aMid D A)) F4 u4 b4 4 := w4
  have e14 : aWrk D (aMid D A) 14 = A 14 := aWM_row (by decide)
  have e27 : aWrk D (aMid D A) 27 = A 27 := aWM_row (by decide)
  have e28 : aWrk D (aMid D A) 28 = A 28 := aWM_row (by decide)
  have n14 : nn (aWrk D (aMid D A)) 14 13 = nn A 14 13 := by unfold nn; rw [e14]
  have hE := BT_end hST hSG (by rw [n14, e14]; exact hnow) (by rw [n14]; exact hlt) (fun t ht q => by rw [e27] at q; rw [n14]; have := hTM t ht q; unfold nn at *; rw [e28]; exact this) w
  rw [e14] at hE
  exact ⟨F4, hE⟩
