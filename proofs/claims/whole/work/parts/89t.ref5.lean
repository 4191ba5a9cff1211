/-! PURE: the reference works. -/
theorem RR_b {μ μ' : ks_S} {B : Nat → Nat → Int32} (v : Int32) (h : RR μ μ' B) : RR μ (ks_up μ' 14 0 0 27 v) (au B 45 0 v) := by
  obtain ⟨a1, a2, a3, a4, a5⟩ := h
  have e : sD (ks_up μ' 14 0 0 27 v) = sD μ' := sD_up (by omega)
  refine ⟨?_, e.trans a2, fun k' hk' => ?_, ?_, ?_⟩
  · rw [← a1]
    funext k s
    unfold dA au
    rw [e]
    by_cases q : k = 45 ∧ s = 0
    · obtain ⟨rfl, rfl⟩ := q
      rw [if_pos (by simp [inr]), if_pos rfl, ks_up_hit, if_pos ⟨rfl, rfl⟩]
    · rw [if_neg q]
      dsimp only
      by_cases q2 : inr (sD μ') k s = true
      · rw [if_pos q2, if_pos q2]
        by_cases q3 : k = 45
        · subst q3
          unfold inr at q2
          simp at q2
          exact absurd ⟨rfl, q2⟩ q
        · rw [if_neg q3, if_neg q3, ks_up_at, if_neg]
          rintro ⟨rfl, _, _, rfl⟩
          unfold inr at q2
          simp at q2
      · rw [if_neg q2, if_neg q2]
  · rw [← a3 k' hk']
    funext i j z
    rw [ks_up_at, if_neg]
    rintro ⟨q, _⟩
    omega
  · rw [ks_up_at, if_neg, a4]
    rintro ⟨_, _, _, q⟩
    omega
  · rw [ks_up_at, if_neg, a5]
    rintro ⟨_, _, _, q⟩
    omega
theorem rd45 {μ μ' : ks_S} {B : Nat → Nat → Int32} (h : RR μ μ' B) : μ' 14 0 0 27 = B 45 0 := by
  rw [← h.1]
  unfold dA
  rw [if_pos (by simp [inr]), if_pos rfl]
theorem ref_end {μ μ' : ks_S} {B : Nat → Nat → Int32} {t : Nat} (h : RR μ μ' B) (ht : t < 16) : ∃ μ'', f_X5_end μ' (nI t) = some μ'' ∧ RR μ μ'' (aEnd (sD μ) B t) := by
  have n16 : ∀ {k}, 26 ≤ k → k ≤ 37 → k ≠ 33 → k ≠ 34 → inr (sD μ) k t = true := fun a b c d => inr16 a b c d ht
  have h1 := RR_up 0 (k := 26) (s := t) (by decide) (by decide) (n16 (by decide) (by decide) (by decide) (by decide)) h
  have h2 := RR_up (B 35 t + 1) (k := 35) (s := t) (by decide) (by decide) (n16 (by decide) (by decide) (by decide) (by decide)) h1
  have h3 := RR_up (aLat B t) (k := 37) (s := t) (by decide) (by decide) (n16 (by decide) (by decide) (by decide) (by decide)) h2
  have h4 := fun v => RR_up v (k := 36) (s := t) (by decide) (by decide) (n16 (by decide) (by decide) (by decide) (by decide)) h3
  have h5 := fun v w => RR_b w (h4 v)
  unfold f_X5_end
  simp only [i16 ht, ↓reduceIte, cl (i := t) (by omega)]
  have a1 : ks_up μ' 26 0 0 t 0 35 0 0 t = B 35 t := by
    rw [rdR h1 (n16 (by decide) (by decide) (by decide) (by decide)) (by decide)]
    simp [au]
  rw [a1]
  have a2 : ks_up (ks_up μ' 26 0 0 t 0) 35 0 0 t (B 35 t + 1) 14 0 0 13 = B 14 13 := by
    rw [rdR h2 inr14 (by decide)]
    simp [au]
  have a3 : ks_up (ks_up μ' 26 0 0 t 0) 35 0 0 t (B 35 t + 1) 28 0 0 t = B 28 t := by
    rw [rdR h2 (n16 (by decide) (by decide) (by decide) (by decide)) (by decide)]
    simp [au]
  rw [a2, a3]
  change ∃ μ'', (if ks_up (ks_up (ks_up μ' 26 0 0 t 0) 35 0 0 t (B 35 t + 1)) 37 0 0 t (aLat B t) 37 0 0 t ≤ ks_up (ks_up (ks_up μ' 26 0 0 t 0) 35 0 0 t (B 35 t + 1)) 37 0 0 t (aLat B t) 36 0 0 t then f_X5_end_71 (ks_up (ks_up (ks_up μ' 26 0 0 t 0) 35 0 0 t (B 35 t + 1)) 37 0 0 t (aLat B t)) (nI t) (ks_up (ks_up (ks_up μ' 26 0 0 t 0) 35 0 0 t (B 35 t + 1)) 37 0 0 t (aLat B t) 36 0 0 t) (nI t) else f_X5_end_71 (ks_up (ks_up (ks_up μ' 26 0 0 t 0) 35 0 0 t (B 35 t + 1)) 37 0 0 t (aLat B t)) (nI t) (ks_up (ks_up (ks_up μ' 26 0 0 t 0) 35 0 0 t (B 35 t + 1)) 37 0 0 t (aLat B t) 37 0 0 t) (nI t)) = some μ'' ∧ _
  have a4 : ks_up (ks_up (ks_up μ' 26 0 0 t 0) 35 0 0 t (B 35 t + 1)) 37 0 0 t (aLat B t) 37 0 0 t = aLat B t := by
    rw [ks_up_hit]
  have a5 : ks_up (ks_up (ks_up μ' 26 0 0 t 0) 35 0 0 t (B 35 t + 1)) 37 0 0 t (aLat B t) 36 0 0 t = B 36 t := by
    rw [rdR h3 (n16 (by decide) (by decide) (by decide) (by decide)) (by decide)]
    simp [au]
  rw [a4, a5]
  have key : ∀ v, ∃ μ'', f_X5_end_71 (ks_up (ks_up (ks_up μ' 26 0 0 t 0) 35 0 0 t (B 35 t + 1)) 37 0 0 t (aLat B t)) (nI t) v (nI t) = some μ'' ∧ RR μ μ'' (au (au (au (au (au B 26 t 0) 35 t (B 35 t + 1)) 37 t (aLat B t)) 36 t v) 45 0 (if aLat B t ≤ sD μ 18 t then B 45 0 else B 45 0 + 1)) := fun v => by
    unfold f_X5_end_71
    simp only [i16 ht, ↓reduceIte, cl (i := t) (by omega)]
    have b1 : ks_up (ks_up (ks_up (ks_up μ' 26 0 0 t 0) 35 0 0 t (B 35 t + 1)) 37 0 0 t (aLat B t)) 36 0 0 t v 37 0 0 t = aLat B t := by
      rw [ks_up_at, if_neg (fun q => absurd q.1 (by decide)), ks_up_hit]
    have b2 : ks_up (ks_up (ks_up (ks_up μ' 26 0 0 t 0) 35 0 0 t (B 35 t + 1)) 37 0 0 t (aLat B t)) 36 0 0 t v 18 0 0 t = sD μ 18 t := rsR (h4 v) (by decide) (by decide)
    have b3 : ks_up (ks_up (ks_up (ks_up μ' 26 0 0 t 0) 35 0 0 t (B 35 t + 1)) 37 0 0 t (aLat B t)) 36 0 0 t v 14 0 0 27 = B 45 0 := by
      rw [rd45 (h4 v)]
      simp [au]
    rw [b1, b2, b3]
    by_cases q : aLat B t ≤ sD μ 18 t
    · rw [if_pos q, if_pos q]
      exact ⟨_, rfl, h5 v _⟩
    · rw [if_neg q, if_neg q]
      exact ⟨_, rfl, h5 v _⟩
  unfold aEnd
  by_cases q : aLat B t ≤ B 36 t
  · rw [if_pos q, if_neg (show ¬ B 36 t < aLat B t by rw [Int32.not_lt]; exact q)]
    exact key _
  · rw [if_neg q, if_pos (show B 36 t < aLat B t by rw [← Int32.not_le]; exact q)]
    exact key _
theorem ref_fin {N : Nat} {μ μ' : ks_S} {B : Nat → Nat → Int32} {c t : Nat} (h : RR μ μ' B) (hc : c < 4) (ht : t < 16) : ∃ μ'', f_X5_goOn_160 N μ' (nI c) (nI t) = some (if aEnds (sD μ) B c t = true then 1 else 0, μ'') ∧ RR μ μ'' (aFin (sD μ) B c t) := by
  unfold f_X5_goOn_160 aFin
  simp only [i16 ht, i4 hc, ↓reduceIte, cl (i := t) (by omega), cl (i := c) (by omega)]
  rw [rdR h (inr4 (by decide) (by decide) hc) (by decide), rdR h (inr16 (k := 29) (by decide) (by decide) (by decide) (by decide) ht) (by decide), rdR h (inr16 (k := 30) (by decide) (by decide) (by decide) (by decide) ht) (by decide), rsR h (by decide) (by decide), rsR h (by decide) (by decide)]
  have hE : aEnds (sD μ) B c t = true ↔ (¬ 1 < B 40 c ∧ ¬ B 29 t < sD μ 19 t ∧ sD μ 20 t ≤ B 30 t) := by
    unfold aEnds
    rw [decide_eq_true_eq]
  by_cases q1 : 1 < B 40 c
  · rw [if_pos q1, if_neg (fun q => (hE.mp q).1 q1), if_neg (fun q => (hE.mp q).1 q1)]
    exact ⟨μ', rfl, h⟩
  · rw [if_neg q1]
    by_cases q2 : B 29 t < sD μ 19 t
    · rw [if_pos q2, if_neg (fun q => (hE.mp q).2.1 q2), if_neg (fun q => (hE.mp q).2.1 q2)]
      exact ⟨μ', rfl, h⟩
    · rw [if_neg q2]
      by_cases q3 : sD μ 20 t ≤ B 30 t
      · rw [if_pos q3, if_pos (hE.mpr ⟨q1, q2, q3⟩), if_pos (hE.mpr ⟨q1, q2, q3⟩)]
        obtain ⟨μ'', e1, e2⟩ := ref_end h ht
        rw [e1]
        exact ⟨μ'', rfl, e2⟩
      · rw [if_neg q3, if_neg (fun q => q3 (hE.mp q).2.2), if_neg (fun q => q3 (hE.mp q).2.2)]
        exact ⟨μ', rfl, h⟩
theorem ref_go {N : Nat} (hN : 7 < N) {μ : ks_S} {c : Nat} {F u b : Nat → Nat} (hc : c < 4) (hST : ST (sD μ)) (hSG : SG (sD μ)) (h : WK (sD μ) (dA μ) F u b c) : ∃ μ', f_X5_goOn N μ (nI c) = some (aGoR (sD μ) (dA μ) c, μ') ∧ RR μ μ' (aGo (sD μ) (dA μ) c) := by
  have r39 : μ 39 0 0 c = dA μ 39 c := rd (inr4 (by decide) (by decide) hc) (by decide)
  have hT1 := RR_up (dA μ 39 c) (k := 41) (s := c) (by decide) (by decide) (inr4 (by decide) (by decide) hc) (RR_refl μ)
  have hT := RR_up (dA μ 40 c) (k := 42) (s := c) (by decide) (by decide) (inr4 (by decide) (by decide) hc) hT1
  have r40 : ks_up μ 41 0 0 c (dA μ 39 c) 40 0 0 c = dA μ 40 c := by
    rw [rdR hT1 (inr4 (by decide) (by decide) hc) (by decide)]
    simp [au]
  have hT : RR μ (ks_up (ks_up μ 41 0 0 c (dA μ 39 c)) 42 0 0 c (dA μ 40 c)) (aTell (dA μ) c) := hT
  have tl : ∀ k s, k ≠ 41 → k ≠ 42 → aTell (dA μ) c k s = dA μ k s := fun k s q1 q2 => by rw [aTell_row q1 q2]
  unfold f_X5_goOn aGo aGoR
  simp only [i4 hc, ↓reduceIte, cl (i := c) (by omega)]
  rw [r39, r40]
  generalize ks_up (ks_up μ 41 0 0 c (dA μ 39 c)) 42 0 0 c (dA μ 40 c) = S at *
  have s40 : S 40 0 0 c = dA μ 40 c := by rw [rdR hT (inr4 (by decide) (by decide) hc) (by decide), tl 40 c (by decide) (by decide)]
  rw [s40]
  obtain ⟨hP, hU, hK, hRw⟩ := h
  obtain ⟨hu, hcs, _⟩ := hK c (Nat.le_refl _) hc
  obtain ⟨o40, hsec⟩ := hP.2.1 c hc
  by_cases hneg : dA μ 39 c < 0
  · rw [if_pos hneg, if_neg (show ¬ (0 : Int32) ≤ dA μ 39 c by rw [Int32.not_le]; exact hneg), if_pos hneg]
    exact ⟨S, rfl, hT⟩
  · have hst : ∃ t, t < 16 ∧ dA μ 39 c = nI t ∧ dA μ 26 t ≠ 0 ∧ (nn (dA μ) 40 c = 1 ∨ (1 < nn (dA μ) 40 c ∧ Sec (sD μ) (dA μ) F c t)) := by
      by_cases q : 1 < nn (dA μ) 40 c
      · obtain ⟨t, ht⟩ := hsec q
        exact ⟨t, ht.1, ht.2.1, ht.2.2.1, Or.inr ⟨q, ht⟩⟩
      · by_cases q0 : nn (dA μ) 40 c = 0
        · have := (hcs.2 q0).1
          rw [this] at hneg
          exact absurd (by decide) hneg
        · obtain ⟨t, t1, t2, t3, _⟩ := hcs.1 (by omega)
          exact ⟨t, t1, t2, t3, Or.inl (by omega)⟩
    obtain ⟨t, ht, e39, ho, hs⟩ := hst
    have nt : nn (dA μ) 39 c = t := nn_nI e39 (by omega)
    obtain ⟨j1, j2, j3, j4, j5, j6, j7, j8⟩ := hP.1 t ht ho
    have hcn : ok (sD μ) 20 t 6 := by
      obtain ⟨_, _, _, _, _, _, _, _, _, _, _, _, q⟩ := core_of hST ht j1
      exact q
    have hcn6 : cn (sD μ) t ≤ 6 := hcn.2
    have n16 : ∀ {k}, 26 ≤ k → k ≤ 37 → k ≠ 33 → k ≠ 34 → inr (sD μ) k t = true := fun a b c d => inr16 a b c d ht
    rw [if_neg hneg, if_neg hneg, if_pos (show (0 : Int32) ≤ dA μ 39 c by rw [← Int32.not_lt]; exact hneg), e39, nt]
    simp only [i16 ht, ↓reduceIte, cl (i := t) (by omega)]
    unfold aDo
    rw [tl 40 c (by decide) (by decide)]
    by_cases h1 : dA μ 40 c = 1
    · rw [if_pos h1, if_pos h1, rdR hT (n16 (k := 29) (by decide) (by decide) (by decide) (by decide)) (by decide)]
      exact ref_fin (RR_up _ (by decide) (by decide) (n16 (by decide) (by decide) (by decide) (by decide)) hT) hc ht
    · rw [if_neg h1, if_neg h1]
      have hs : Sec (sD μ) (dA μ) F c t := by
        rcases hs with q | q
        · exact absurd (by rw [o40.1, q]; rfl) h1
        · exact q.2
      have hlt : nn (dA μ) 30 t < cn (sD μ) t := hs.2.2.2.2.1
      have k96 : 6 * t + nn (dA μ) 30 t < 96 := by omega
      by_cases h2 : dA μ 40 c = 2
      · rw [if_pos h2, if_pos h2]
        have hS3 := RR_up (dA μ 32 t + 1) (k := 32) (s := t) (by decide) (by decide) (n16 (by decide) (by decide) (by decide) (by decide)) hT
        rw [rdR hT (n16 (k := 32) (by decide) (by decide) (by decide) (by decide)) (by decide), tl 32 t (by decide) (by decide)]
        have a30 : ks_up S 32 0 0 t (dA μ 32 t + 1) 30 0 0 t = nI (nn (dA μ) 30 t) := by
          rw [rdR hS3 (n16 (k := 30) (by decide) (by decide) (by decide) (by decide)) (by decide), au_k _ _ _ _ (by decide), tl 30 t (by decide) (by decide)]
          exact j5.1
        have a38 : ks_up S 32 0 0 t (dA μ 32 t + 1) 38 0 0 (6 * t + nn (dA μ) 30 t) = dA μ 38 (6 * t + nn (dA μ) 30 t) := by
          rw [rdR hS3 (inr96 (Or.inr (Or.inr rfl)) ht hlt hcn6) (by decide), au_k _ _ _ _ (by decide), tl 38 _ (by decide) (by decide)]
        have a32 : ks_up S 32 0 0 t (dA μ 32 t + 1) 32 0 0 t = dA μ 32 t + 1 := ks_up_hit _ _ _ _ _ _
        rw [a30, nI_6]
        simp only [i96 k96, ↓reduceIte, cl (i := 6 * t + nn (dA μ) 30 t) k96]
        rw [a38, a32]
        have hSp : aSpin (aTell (dA μ) c) t = au (au (aTell (dA μ) c) 32 t (dA μ 32 t + 1)) 38 (6 * t + nn (dA μ) 30 t) (if dA μ 38 (6 * t + nn (dA μ) 30 t) < dA μ 32 t + 1 then dA μ 32 t + 1 else dA μ 38 (6 * t + nn (dA μ) 30 t)) := by
          unfold aSpin
          rw [nn_e (tl 30 t (by decide) (by decide)), tl 32 t (by decide) (by decide), tl 38 _ (by decide) (by decide)]
        rw [hSp]
        have hS4 := fun v => RR_up v (k := 38) (s := 6 * t + nn (dA μ) 30 t) (by decide) (by decide) (inr96 (Or.inr (Or.inr rfl)) ht hlt hcn6) hS3
        unfold f_X5_goOn_122
        simp only [i96 k96, ↓reduceIte, cl (i := 6 * t + nn (dA μ) 30 t) k96]
        by_cases q : dA μ 32 t + 1 ≤ dA μ 38 (6 * t + nn (dA μ) 30 t)
        · rw [if_pos q, if_neg (show ¬ dA μ 38 (6 * t + nn (dA μ) 30 t) < dA μ 32 t + 1 by rw [Int32.not_lt]; exact q)]
          exact ref_fin (hS4 _) hc ht
        · rw [if_neg q, if_pos (show dA μ 38 (6 * t + nn (dA μ) 30 t) < dA μ 32 t + 1 by rw [← Int32.not_le]; exact q)]
          exact ref_fin (hS4 _) hc ht
      · rw [if_neg h2, if_neg h2, rdR hT (n16 (k := 31) (by decide) (by decide) (by decide) (by decide)) (by decide), ks_up_hit]
        have hS3 : RR μ (ks_up S 31 0 0 t (aTell (dA μ) c 31 t - 1)) (aDec (aTell (dA μ) c) t) := RR_up (aTell (dA μ) c 31 t - 1) (k := 31) (s := t) (by decide) (by decide) (n16 (by decide) (by decide) (by decide) (by decide)) hT
        have hd : aDec (aTell (dA μ) c) t 31 t = aTell (dA μ) c 31 t - 1 := au_hit _ _ _ _
        rw [hd]
        by_cases h3 : aTell (dA μ) c 31 t - 1 = 0
        · rw [if_pos h3, if_pos h3]
          generalize ks_up S 31 0 0 t (aTell (dA μ) c 31 t - 1) = S3 at *
          have dd : ∀ k s, k ≠ 31 → k ≠ 41 → k ≠ 42 → aDec (aTell (dA μ) c) t k s = dA μ k s := fun k s q1 q2 q3 => by
            unfold aDec
            rw [au_k _ _ _ _ q1, tl k s q2 q3]
          have hg := grp_lt hST hSG ht hlt
          obtain ⟨u1, u2, u3, u4, u5⟩ := hST.2.1 t _ ht hlt
          have hgo : f_X5_groupOf S3 (nI t) = some (nI (gr (sD μ) t (nn (dA μ) 30 t)), S3) := by
            unfold f_X5_groupOf
            rw [if_pos (i16 ht), cl (i := t) (by omega), rdR hS3 (n16 (k := 30) (by decide) (by decide) (by decide) (by decide)) (by decide), dd 30 t (by decide) (by decide) (by decide), j5.1, nI_6, if_pos (i96 (by omega)), cl (i := 6 * t + nn (dA μ) 30 t) (by omega), rsR hS3 (by decide) (by decide), u2.1, if_pos (i8 (by have := u2.2; omega)), cl (i := nn (sD μ) 22 (6 * t + nn (dA μ) 30 t)) (by have := u2.2; omega), rsR hS3 (by decide) (by decide), (hSG _ (by have := u2.2; omega)).1]
            rfl
          rw [hgo, Option.bind_some]
          dsimp only
          have ok44 := (hP.2.2.1 _ hg).1
          obtain ⟨kk, kk1, _⟩ := hs.2.2.2.2.2.2.2.2.2
          have kk1 : kk < nn (dA μ) 44 (gr (sD μ) t (nn (dA μ) 30 t)) := kk1
          obtain ⟨S4, l1, l2⟩ := ref_leave (N := N) (μ := μ) (c := c) (g := gr (sD μ) t (nn (dA μ) 30 t)) (m := nn (dA μ) 44 (gr (sD μ) t (nn (dA μ) 30 t))) hc hg ok44.2 (nn (dA μ) 44 (gr (sD μ) t (nn (dA μ) 30 t)) - 1) N 1 S3 _ (by omega) (by have := ok44.2; omega) hS3 (by omega) (by rw [dd 44 _ (by decide) (by decide) (by decide)]; exact ok44.1) (fun s _ => dd 43 s (by decide) (by decide) (by decide))
          have l1 : f_X5_leave N S3 (nI c) (nI (gr (sD μ) t (nn (dA μ) 30 t))) = some S4 := l1
          rw [l1, Option.bind_some]
          have a30 : S4 30 0 0 t = nI (nn (dA μ) 30 t) := by
            rw [rdR l2 (n16 (k := 30) (by decide) (by decide) (by decide) (by decide)) (by decide), au_k _ _ _ _ (by decide), au_k _ _ _ _ (by decide), if_neg (fun q => absurd q.1 (by decide)), dd 30 t (by decide) (by decide) (by decide)]
            exact j5.1
          have hnx := ref_goToNext hN (t := t) (r := nn (dA μ) 30 t + 1) l2 ht hcn (by rw [a30, nI_1]) (by omega)
          rw [hnx, Option.bind_some]
          have hL := RR_up (nI (aNx (sD μ) t (nn (dA μ) 30 t + 1))) (k := 30) (s := t) (by decide) (by decide) (n16 (by decide) (by decide) (by decide) (by decide)) l2
          have eL : aLeave (sD μ) (aDec (aTell (dA μ) c) t) c t = au (au (au (fun k s => if k = 43 ∧ 4 * gr (sD μ) t (nn (dA μ) 30 t) + 1 ≤ s + 1 ∧ s + 1 < 4 * gr (sD μ) t (nn (dA μ) 30 t) + nn (dA μ) 44 (gr (sD μ) t (nn (dA μ) 30 t)) then dA μ 43 (s + 1) else aDec (aTell (dA μ) c) t k s) 44 (gr (sD μ) t (nn (dA μ) 30 t)) (nI (nn (dA μ) 44 (gr (sD μ) t (nn (dA μ) 30 t))) - 1)) 40 c 1) 30 t (nI (aNx (sD μ) t (nn (dA μ) 30 t + 1))) := by
            unfold aLeave aGrp
            rw [nn_e (dd 30 t (by decide) (by decide) (by decide)), dd 44 _ (by decide) (by decide) (by decide), ← ok44.1]
            congr 3
            funext k s
            unfold aShift
            rw [nn_e (dd 44 _ (by decide) (by decide) (by decide)), dd 43 _ (by decide) (by decide) (by decide)]
            by_cases q : k = 43 ∧ 4 * gr (sD μ) t (nn (dA μ) 30 t) ≤ s ∧ s + 1 < 4 * gr (sD μ) t (nn (dA μ) 30 t) + nn (dA μ) 44 (gr (sD μ) t (nn (dA μ) 30 t))
            · rw [if_pos q, if_pos (by omega)]
            · rw [if_neg q, if_neg (by omega)]
          rw [eL]
          exact ref_fin hL hc ht
        · rw [if_neg h3, if_neg h3]
          exact ref_fin hS3 hc ht
