/-! PURE: ticks without an event. -/
def NE (D A : Nat → Nat → Int32) (c : Nat) : Prop := A 39 c < 0 ∨ ∃ t, t < 16 ∧ A 39 c = nI t ∧ D 15 t = nI c ∧ ((A 40 c = 1 ∧ (A 29 t + 1 < D 19 t ∨ A 30 t < D 20 t)) ∨ A 40 c = 2 ∨ (A 40 c = 3 ∧ A 31 t - 1 ≠ 0))
theorem go_ne {D A : Nat → Nat → Int32} {c : Nat} (h : NE D A c) : aGo D A c = ad1 A c ∧ aGoR D A c = 0 := by
  unfold aGo aGoR ad1
  rcases h with q | ⟨t, ht, q, _, h⟩
  · rw [if_pos q, if_pos q, if_pos q]
    exact ⟨rfl, rfl⟩
  · have hn : ¬ A 39 c < 0 := by rw [q]; exact nI_pos (by omega)
    rw [if_neg hn, if_neg hn, if_neg hn, nn_nI q (by omega)]
    have key : aDo D (aTell A c) c t = aDn (aTell A c) c t ∧ ¬ aEnds D (aDn (aTell A c) c t) c t = true := by
      unfold aDo aDn aEnds
      rw [tell_o (k := 40) (by decide) (by decide)]
      rcases h with ⟨h1, h2⟩ | h2 | ⟨h3, h4⟩
      · rw [if_pos h1, if_pos h1, tell_o (k := 29) (by decide) (by decide)]
        refine ⟨rfl, ?_⟩
        rw [decide_eq_true_eq]
        rintro ⟨_, z1, z2⟩
        rw [au_hit] at z1
        rw [au_k _ _ _ _ (by decide), tell_o (by decide) (by decide)] at z2
        rcases h2 with h2 | h2
        · exact z1 h2
        · exact absurd h2 (by rw [Int32.not_lt]; exact z2)
      · rw [if_neg (by rw [h2]; decide), if_pos h2, if_neg (by rw [h2]; decide), if_pos h2]
        refine ⟨rfl, ?_⟩
        rw [decide_eq_true_eq]
        rintro ⟨z, _⟩
        unfold aSpin at z
        rw [au_k _ _ _ _ (by decide), au_k _ _ _ _ (by decide), tell_o (by decide) (by decide), h2] at z
        exact z (by decide)
      · have e : aDec (aTell A c) t 31 t = A 31 t - 1 := by
          unfold aDec
          rw [au_hit, tell_o (by decide) (by decide)]
        rw [e, if_neg (by rw [h3]; decide), if_neg (by rw [h3]; decide), if_neg h4, if_neg (by rw [h3]; decide), if_neg (by rw [h3]; decide)]
        refine ⟨rfl, ?_⟩
        rw [decide_eq_true_eq]
        rintro ⟨z, _⟩
        unfold aDec at z
        rw [au_k _ _ _ _ (by decide), tell_o (by decide) (by decide), h3] at z
        exact z (by decide)
    rw [key.1, if_neg key.2]
    unfold aFin
    rw [if_neg key.2]
    exact ⟨rfl, rfl⟩
theorem NE_ad1 {D B : Nat → Nat → Int32} {c c' : Nat} (hc : c < 4) (hc' : c' < 4) (hne : c ≠ c') (h : NE D B c) (h' : CD0 D B c') : NE D (ad1 B c') c := by
  have hx : ∀ a s, (a = 39 ∨ a = 40 ∨ a = 30) → ad1 B c' a s = B a s := fun a s ha => by rw [ad1_row (by omega)]
  have hy : ∀ a s, (a = 29 ∨ a = 31) → D 15 s = nI c → ad1 B c' a s = B a s := fun a s ha hs => by
    rcases h' with q | ⟨t, q1, q2, q3, q4⟩
    · exact ad1_o (t := 0) (Or.inl q) (by omega)
    · refine ad1_o (t := t) (Or.inr ⟨q2, q1, fun e => ?_⟩) (by omega)
      subst e
      exact hne (nI_inj (by omega) (by omega) (hs.symm.trans q3))
  unfold NE at *
  rw [hx 39 c (by omega), hx 40 c (by omega)]
  rcases h with q | ⟨t, q1, q2, q3, q4⟩
  · exact Or.inl q
  · refine Or.inr ⟨t, q1, q2, q3, ?_⟩
    rw [hy 29 t (by omega) q3, hy 31 t (by omega) q3, hx 30 t (by omega)]
    exact q4
theorem wrk_ne {D M : Nat → Nat → Int32} (x : Int32) (h : ∀ c, c < 4 → NE D M c ∧ CD0 D M c) : aWrk D M = adv M 4 ∧ gR D 1 M x = x := by
  have g0 := go_ne (h 0 (by omega)).1
  have n1 : ∀ c, c < 4 → c ≠ 0 → NE D (ad1 M 0) c ∧ CD0 D (ad1 M 0) c := fun c hc hne => ⟨NE_ad1 hc (by omega) hne (h c hc).1 (h 0 (by omega)).2, CD0_ad1 (h c hc).2⟩
  have g1 := go_ne (n1 1 (by omega) (by omega)).1
  have n2 : ∀ c, c < 4 → c ≠ 0 → c ≠ 1 → NE D (ad1 (ad1 M 0) 1) c ∧ CD0 D (ad1 (ad1 M 0) 1) c := fun c hc hne hne1 => ⟨NE_ad1 hc (by omega) hne1 (n1 c hc hne).1 (n1 1 (by omega) (by omega)).2, CD0_ad1 (n1 c hc hne).2⟩
  have g2 := go_ne (n2 2 (by omega) (by omega) (by omega)).1
  have n3 : NE D (ad1 (ad1 (ad1 M 0) 1) 2) 3 := NE_ad1 (by omega) (by omega) (by omega) (n2 3 (by omega) (by omega) (by omega)).1 (n2 2 (by omega) (by omega) (by omega)).2
  have g3 := go_ne n3
  refine ⟨?_, ?_⟩
  · unfold aWrk
    rw [g0.1, g1.1, g2.1, g3.1]
    rfl
  · unfold gR
    simp only [aGoK_1, aGoRK_1]
    rw [g0.1, g0.2, g1.1, g1.2, g2.1, g2.2, g3.2]
    simp
theorem cho_same {D B : Nat → Nat → Int32} {c : Nat} (hST : ST D) (hc : c < 4) (o40 : ok B 40 c 3) (hJ : ∀ t, t < 16 → B 26 t ≠ 0 → ok B 30 t (cn D t)) (h : chosen D B c) : aChoose D B c = B := by
  unfold aChoose
  by_cases h1 : B 40 c ≤ 1
  · rw [if_pos h1]
    have n1 : nn B 40 c ≤ 1 := by
      rw [o40.1, show (1 : Int32) = nI 1 from rfl, nI_leI (by have := o40.2; omega) (by decide)] at h1
      exact h1
    by_cases h0 : nn B 40 c = 0
    · obtain ⟨q1, q2⟩ := h.2 h0
      have ht : aTopL D B c 16 = -1 := by
        rcases topL_spec D B c 16 (by omega) with q | ⟨t, t1, _, t3, t4, _⟩
        · exact q.1
        · exact absurd t4 (q2 t t1 t3)
      rw [if_neg (fun q => absurd q.1 (by rw [ht]; decide))]
      unfold aPick
      rw [ht, if_neg (by decide), au_same q1, au_same (by rw [o40.1, h0]; rfl)]
    · obtain ⟨t, q1, q2, q3, q4, q5, q6⟩ := h.1 (by omega)
      have ht : aTopL D B c 16 = nI t := by
        rcases topL_spec D B c 16 (by omega) with q | ⟨u, t1, t2, t3, t4, t5⟩
        · exact absurd q4 (q.2 t q1 q3)
        · rw [t2]
          by_cases e : u = t
          · rw [e]
          · exfalso
            have hm1 : D 15 u ≠ -1 := by rw [t4]; exact nI_n1 (by omega)
            have hm2 : D 15 t ≠ -1 := by rw [q4]; exact nI_n1 (by omega)
            have a1 := q5 u t1 t3 t4
            have a2 := t5 t q1 q3 q4
            have hp := hST.2.2 u t t1 q1 e (t4.trans q4.symm) hm1
            obtain ⟨_, _, _, _, k1, _⟩ := core_of hST t1 hm1
            obtain ⟨_, _, _, _, k2, _⟩ := core_of hST q1 hm2
            rw [ok_le k1 k2 (by decide) (by decide)] at a1
            rw [ok_le k2 k1 (by decide) (by decide)] at a2
            omega
      have e0 : (0 : Int32) ≤ nI t := nI_pos' (by omega)
      have hp : aPick D B c = B := by
        unfold aPick
        rw [ht, if_pos e0, au_same q2, au_same (by rw [o40.1, show nn B 40 c = 1 by omega]; rfl)]
      rw [if_neg, hp]
      rintro ⟨_, z⟩
      rw [ht, cl (by omega)] at z
      unfold aDue at z
      rw [decide_eq_true_eq] at z
      have hm2 : D 15 t ≠ -1 := by rw [q4]; exact nI_n1 (by omega)
      obtain ⟨_, _, _, _, k1, k2, k3, k4, k5, k6, k7, k8, k9⟩ := core_of hST q1 hm2
      have o30 := hJ t q1 q3
      have hlt : nn B 30 t < cn D t := by
        have z1 := z.1
        rw [o30.1, k9.1, nI_ltI (by have := o30.2; have : cn D t ≤ 6 := k9.2; omega) (by have := k9.2; omega)] at z1
        exact z1
      have := q6 hlt
      have hr := hST.2.1 t _ q1 hlt
      have e2 := z.2
      have : nn B 29 t = af D t (nn B 30 t) := nn_e (A := D) (A' := B) (k := 21) (s := 6 * t + nn B 30 t) (k' := 29) (s' := t) e2
      omega
  · rw [if_neg h1]

theorem hold_same {B : Nat → Nat → Int32} (h44 : ∀ g, g < 8 → ok B 44 g 4) (h : ∀ g, g < 8 → 0 < nn B 44 g → ∃ c, c < 4 ∧ B 43 (4 * g) = nI c ∧ B 40 c = 3) : ∀ n, n ≤ 8 → aHoldL B n = B := by
  intro n
  induction n with
  | zero => intro _; rfl
  | succ n ih =>
    intro hn
    rw [aHoldL, ih (by omega)]
    by_cases q : B 44 n ≤ 0
    · rw [if_pos q]
    · rw [if_neg q]
      have o := h44 n (by omega)
      obtain ⟨c, c1, c2, c3⟩ := h n (by omega) (Nat.pos_of_ne_zero (fun e => q (by rw [o.1, e]; decide)))
      rw [nn_nI c2 (by omega), au_same c3]
/-- what stands in the middle of a tick -/
theorem mid_all {D A : Nat → Nat → Int32} (h : LV D A) : (∃ F, PH D (aMid D A) F (fun _ => nn A 14 13) (fun _ => nn A 14 13)) ∧ (∀ c, c < 4 → chosen D (aMid D A) c) ∧ (∀ g, g < 8 → 0 < nn (aMid D A) 44 g → ∃ c, c < 4 ∧ aMid D A 43 (4 * g) = nI c ∧ aMid D A 40 c = 3) ∧ aMid D A 14 13 = A 14 13 := by
  obtain ⟨h1, h2, ⟨F, h3⟩, h4, h5⟩ := h
  have c0 : CH D A F 0 := ⟨h3.1, fun c hc => absurd hc (by omega)⟩
  obtain ⟨F1, c1⟩ := CH_step h1 h2 (by omega) c0
  obtain ⟨F2, c2⟩ := CH_step h1 h2 (by omega) c1
  obtain ⟨F3, c3⟩ := CH_step h1 h2 (by omega) c2
  obtain ⟨F4, c4⟩ := CH_step h1 h2 (by omega) c3
  have c4 : CH D (aCho D A) F4 4 := c4
  have e14 : aCho D A 14 = A 14 := by
    unfold aCho
    rw [aChoose_row (by decide), aChoose_row (by decide), aChoose_row (by decide), aChoose_row (by decide)]
  have n14 : nn (aCho D A) 14 13 = nn A 14 13 := by unfold nn; rw [e14]
  obtain ⟨a1, a2, a3, a4, a5⟩ := hold_all c4 8 (Nat.le_refl _)
  rw [n14] at a1
  refine ⟨⟨F4, a1⟩, a2, fun g hg hm => ?_, by unfold aMid; rw [a3 14 (by decide), e14]⟩
  have e44 : aMid D A 44 = aCho D A 44 := a3 44 (by decide)
  have e43 : aMid D A 43 = aCho D A 43 := a3 43 (by decide)
  obtain ⟨c, q1, q2, q3⟩ := a5 g hg (by unfold nn at hm ⊢; rw [e44] at hm; exact hm)
  refine ⟨c, q1, by rw [e43]; exact q2, ?_⟩
  have o := (a1.2.1 c q1).1
  have e : aMid D A 40 c = nI (nn (aMid D A) 40 c) := o.1
  have q3 : nn (aMid D A) 40 c = 3 := q3
  rw [e, q3]
  rfl
