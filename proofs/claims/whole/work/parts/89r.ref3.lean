/-! PURE: the reference chooses. -/
def RR (μ μ' : ks_S) (B : Nat → Nat → Int32) : Prop := dA μ' = B ∧ sD μ' = sD μ ∧ (∀ k, k < 14 → μ' k = μ k) ∧ μ' 14 0 0 12 = μ 14 0 0 12 ∧ μ' 14 0 0 0 = μ 14 0 0 0
theorem RR_refl (μ : ks_S) : RR μ μ (dA μ) := ⟨rfl, rfl, fun _ _ => rfl, rfl, rfl⟩
theorem RR_up {μ μ' : ks_S} {B : Nat → Nat → Int32} {k s : Nat} (v : Int32) (h1 : 26 ≤ k) (h2 : k ≤ 44) (hin : inr (sD μ) k s = true) (h : RR μ μ' B) : RR μ (ks_up μ' k 0 0 s v) (au B k s v) := by
  obtain ⟨a1, a2, a3, a4, a5⟩ := h
  refine ⟨?_, ?_, fun k' hk' => ?_, ?_, ?_⟩
  · rw [dA_up h1 h2 (by rw [a2]; exact hin), a1]
  · rw [sD_up (by omega), a2]
  · rw [← a3 k' hk']
    funext i j z
    rw [ks_up_at, if_neg]
    rintro ⟨q, _⟩
    omega
  · rw [ks_up_at, if_neg, a4]
    rintro ⟨q, _⟩
    omega
  · rw [ks_up_at, if_neg, a5]
    rintro ⟨q, _⟩
    omega
theorem inr16 {D : Nat → Nat → Int32} {k s : Nat} (h1 : 26 ≤ k) (h2 : k ≤ 37) (h3 : k ≠ 33) (h4 : k ≠ 34) (hs : s < 16) : inr D k s = true := by
  unfold inr
  rw [if_neg (by omega), if_neg (by omega), if_neg (by omega), if_pos ⟨h1, h2⟩]
  exact decide_eq_true hs
theorem inr4 {D : Nat → Nat → Int32} {k s : Nat} (h1 : 39 ≤ k) (h2 : k ≤ 42) (hs : s < 4) : inr D k s = true := by
  unfold inr
  rw [if_neg (by omega), if_neg (by omega), if_neg (by omega), if_neg (by omega), if_pos ⟨h1, h2⟩]
  exact decide_eq_true hs
theorem inr43 {D : Nat → Nat → Int32} {s : Nat} (hs : s < 32) : inr D 43 s = true := by
  simp [inr, hs]
theorem inr44 {D : Nat → Nat → Int32} {s : Nat} (hs : s < 8) : inr D 44 s = true := by
  simp [inr, hs]
theorem inr96 {D : Nat → Nat → Int32} {k t r : Nat} (hk : k = 33 ∨ k = 34 ∨ k = 38) (ht : t < 16) (hr : r < cn D t) (hc : cn D t ≤ 6) : inr D k (6 * t + r) = true := by
  unfold inr
  rw [if_neg (by omega), if_neg (by omega), if_pos hk]
  have h1 : (6 * t + r) % 6 = r := by omega
  have h2 : (6 * t + r) / 6 = t := by omega
  rw [h1, h2]
  exact decide_eq_true ⟨by omega, hr⟩
theorem inr14 {D : Nat → Nat → Int32} : inr D 14 13 = true := by simp [inr]
/-- reading the reference through its views -/
theorem rd {μ : ks_S} {k s : Nat} (h : inr (sD μ) k s = true) (hk : k ≠ 45) : μ k 0 0 s = dA μ k s := (dA_in h hk).symm
theorem rs {μ : ks_S} {k s : Nat} (h1 : 15 ≤ k) (h2 : k ≤ 25) : μ k 0 0 s = sD μ k s := by
  unfold sD
  rw [if_pos ⟨h1, h2⟩]
theorem ref_choose {N : Nat} (hN : 16 < N) {μ : ks_S} {c : Nat} {F : Nat → Nat} (hc : c < 4) (hST : ST (sD μ)) (hSG : SG (sD μ)) (h : PH (sD μ) (dA μ) F (fun _ => nn (dA μ) 14 13) (fun _ => nn (dA μ) 14 13)) : ∃ μ', f_X5_choose N μ (nI c) = some μ' ∧ RR μ μ' (aChoose (sD μ) (dA μ) c) := by
  have r40 : μ 40 0 0 c = dA μ 40 c := rd (inr4 (by decide) (by decide) hc) (by decide)
  unfold f_X5_choose aChoose
  rw [if_pos (i4 hc), cl (by omega), r40]
  by_cases h1 : dA μ 40 c ≤ 1
  · rw [if_pos h1, if_pos h1, if_pos (i4 hc)]
    obtain ⟨k, hk⟩ := cho_loop N μ (sD μ) (dA μ) hc (fun i hi => dA_in (inr16 (by decide) (by decide) (by decide) (by decide) hi) (by decide)) (fun i hi => (rs (by decide) (by decide)).symm) (fun i hi => (rs (by decide) (by decide)).symm) 16 N 0 rfl hN
    rw [aTopL] at hk
    rw [show (0 : Int32) = nI 0 from rfl, hk]
    have hu40 : nn (dA μ) 40 c ≤ 1 := by
      have := (h.2.1 c hc).1
      rw [this.1, show (1 : Int32) = nI 1 from rfl, nI_leI (by have := this.2; omega) (by decide)] at h1
      exact h1
    generalize htop : aTopL (sD μ) (dA μ) c 16 = top
    have hR1 : RR μ (ks_up μ 39 0 0 c top) (au (dA μ) 39 c top) := RR_up top (by decide) (by decide) (inr4 (by decide) (by decide) hc) (RR_refl μ)
    have hR2 : ∀ v, RR μ (ks_up (ks_up μ 39 0 0 c top) 40 0 0 c v) (au (au (dA μ) 39 c top) 40 c v) := fun v => RR_up v (by decide) (by decide) (inr4 (by decide) (by decide) hc) hR1
    have s39 : ∀ v, ks_up (ks_up μ 39 0 0 c top) 40 0 0 c v 39 0 0 c = top := fun v => by simp [ks_up_at]
    have hpk : ∀ v, (if (0 : Int32) ≤ top then (1 : Int32) else 0) = v → aPick (sD μ) (dA μ) c = au (au (dA μ) 39 c top) 40 c v := fun v hv => by unfold aPick; rw [htop, hv]
    rcases topL_spec (sD μ) (dA μ) c 16 (by omega) with ⟨t1, t2⟩ | ⟨t, t1, t2, t3, t4, t5⟩
    · rw [htop] at t1
      subst t1
      have e0 : ¬ (0 : Int32) ≤ -1 := by decide
      rw [if_neg e0]
      have hp := hpk 0 (if_neg e0)
      refine ⟨ks_up (ks_up μ 39 0 0 c (-1)) 40 0 0 c 0, ?_, ?_⟩
      · rw [f_X5_choose_106, if_pos (i4 hc), if_pos (i4 hc), cl (by omega), s39, if_pos (by decide), f_X5_choose_226]
      · rw [if_neg (fun q => e0 q.1), hp]
        exact hR2 0
    · rw [htop] at t2
      subst t2
      have e0 : (0 : Int32) ≤ nI t := nI_pos' (by omega)
      rw [if_pos e0]
      have hp := hpk 1 (if_pos e0)
      rw [cl (by omega), hp]
      have hR := hR2 1
      obtain ⟨j1, j2, j3, j4, j5, j6, j7, j8⟩ := h.1 t t1 t3
      have hcn : ok (sD μ) 20 t 6 := by
        obtain ⟨_, _, _, _, _, _, _, _, _, _, _, _, q⟩ := core_of hST t1 j1
        exact q
      have hcn6 : cn (sD μ) t ≤ 6 := hcn.2
      have rB : ∀ k s, k ≠ 39 → k ≠ 40 → k ≠ 45 → inr (sD μ) k s = true → ks_up (ks_up μ 39 0 0 c (nI t)) 40 0 0 c 1 k 0 0 s = dA μ k s := fun k s q1 q2 q3 q4 => by
        rw [ks_up_at, if_neg (fun q => q2 q.1), ks_up_at, if_neg (fun q => q1 q.1), rd q4 q3]
      have rD : ∀ k s, 15 ≤ k → k ≤ 25 → ks_up (ks_up μ 39 0 0 c (nI t)) 40 0 0 c 1 k 0 0 s = sD μ k s := fun k s q1 q2 => by
        rw [ks_up_at, if_neg (fun q => by omega), ks_up_at, if_neg (fun q => by omega)]
        exact rs q1 q2
      have s39' := s39 1
      rw [f_X5_choose_106, if_pos (i4 hc), if_pos (i4 hc), cl (i := c) (by omega)]
      generalize ks_up (ks_up μ 39 0 0 c (nI t)) 40 0 0 c 1 = S at *
      rw [s39', if_neg (nI_pos (by omega)), if_pos (i16 t1), if_pos (i16 t1), cl (i := t) (by omega), rD 20 t (by decide) (by decide), rB 30 t (by decide) (by decide) (by decide) (inr16 (by decide) (by decide) (by decide) (by decide) t1)]
      have h20 : sD μ 20 t = nI (cn (sD μ) t) := hcn.1
      by_cases h2 : sD μ 20 t ≤ dA μ 30 t
      · refine ⟨S, ?_, ?_⟩
        · rw [if_pos h2, f_X5_choose_226]
        · rw [if_neg]
          · exact hR
          · intro q
            have := q.2
            unfold aDue at this
            rw [decide_eq_true_eq] at this
            exact absurd h2 (by rw [Int32.not_le]; exact this.1)
      · have hlt : nn (dA μ) 30 t < cn (sD μ) t := by
          rw [h20, j5.1, nI_leI (by omega) (by have := j5.2; omega)] at h2
          omega
        have hr6 : nn (dA μ) 30 t < 6 := by omega
        obtain ⟨u1, u2, u3, u4, u5⟩ := hST.2.1 t _ t1 hlt
        have hg := grp_lt hST hSG t1 hlt
        obtain ⟨w1, _⟩ := wait_bound hST hSG hc t1 hu40 t3 t4 hlt h (fun _ => rfl)
        have hge : aGrp (sD μ) (dA μ) t = gr (sD μ) t (nn (dA μ) 30 t) := rfl
        rw [if_neg h2, if_pos (i16 t1), if_pos (i16 t1), j5.1, nI_6, if_pos (i96 (by omega)), cl (i := 6 * t + nn (dA μ) 30 t) (by omega), rB 29 t (by decide) (by decide) (by decide) (inr16 (by decide) (by decide) (by decide) (by decide) t1), rD 21 _ (by decide) (by decide)]
        by_cases h3 : dA μ 29 t = sD μ 21 (6 * t + nn (dA μ) 30 t)
        · have hdue : aDue (sD μ) (dA μ) t = true := by
            unfold aDue
            rw [decide_eq_true_eq]
            refine ⟨?_, h3⟩
            rw [h20, j5.1, nI_ltI (by have := j5.2; omega) (by omega)]
            exact hlt
          have hgo : f_X5_groupOf S (nI t) = some (nI (gr (sD μ) t (nn (dA μ) 30 t)), S) := by
            unfold f_X5_groupOf
            rw [if_pos (i16 t1), cl (i := t) (by omega), rB 30 t (by decide) (by decide) (by decide) (inr16 (by decide) (by decide) (by decide) (by decide) t1), j5.1, nI_6, if_pos (i96 (by omega)), cl (i := 6 * t + nn (dA μ) 30 t) (by omega), rD 22 _ (by decide) (by decide), u2.1, if_pos (i8 (by have := u2.2; omega)), cl (i := nn (sD μ) 22 (6 * t + nn (dA μ) 30 t)) (by have := u2.2; omega), rD 25 _ (by decide) (by decide), (hSG _ (by have := u2.2; omega)).1]
            rfl
          have ok44 := (h.2.2.1 _ hg).1
          rw [hge] at w1
          have i43 : 4 * gr (sD μ) t (nn (dA μ) 30 t) + nn (dA μ) 44 (gr (sD μ) t (nn (dA μ) 30 t)) < 32 := by omega
          rw [if_pos h3, hgo, Option.bind_some, if_pos ⟨e0, hdue⟩]
          dsimp only
          rw [if_pos (i8 hg), cl (i := gr (sD μ) t (nn (dA μ) 30 t)) (by omega), rB 44 _ (by decide) (by decide) (by decide) (inr44 hg), ok44.1, nI_4, nI_add, if_pos (i32 i43), cl (i := 4 * gr (sD μ) t (nn (dA μ) 30 t) + nn (dA μ) 44 (gr (sD μ) t (nn (dA μ) 30 t))) (by omega), if_pos (i8 hg), if_pos (i8 hg), if_pos (i4 hc), if_pos (i16 t1), if_pos (i16 t1)]
          have hRa := RR_up (nI c) (k := 43) (s := 4 * gr (sD μ) t (nn (dA μ) 30 t) + nn (dA μ) 44 (gr (sD μ) t (nn (dA μ) 30 t))) (by decide) (by decide) (inr43 i43) hR
          have hRb := RR_up (dA μ 44 (gr (sD μ) t (nn (dA μ) 30 t)) + 1) (k := 44) (s := gr (sD μ) t (nn (dA μ) 30 t)) (by decide) (by decide) (inr44 hg) hRa
          have hRc := RR_up 2 (k := 40) (s := c) (by decide) (by decide) (inr4 (by decide) (by decide) hc) hRb
          have hRd := RR_up 0 (k := 32) (s := t) (by decide) (by decide) (inr16 (by decide) (by decide) (by decide) (by decide) t1) hRc
          have hRe := RR_up (dA μ 33 (6 * t + nn (dA μ) 30 t)) (k := 31) (s := t) (by decide) (by decide) (inr16 (by decide) (by decide) (by decide) (by decide) t1) hRd
          have q44 : ∀ v i, ks_up S 43 0 0 i v 44 0 0 (gr (sD μ) t (nn (dA μ) 30 t)) = dA μ 44 (gr (sD μ) t (nn (dA μ) 30 t)) := fun v i => by
            rw [ks_up_at, if_neg (fun q => absurd q.1 (by decide)), rB 44 _ (by decide) (by decide) (by decide) (inr44 hg)]
          rw [q44]
          have q30 : ks_up (ks_up (ks_up (ks_up S 43 0 0 (4 * gr (sD μ) t (nn (dA μ) 30 t) + nn (dA μ) 44 (gr (sD μ) t (nn (dA μ) 30 t))) (nI c)) 44 0 0 (gr (sD μ) t (nn (dA μ) 30 t)) (dA μ 44 (gr (sD μ) t (nn (dA μ) 30 t)) + 1)) 40 0 0 c 2) 32 0 0 t 0 30 0 0 t = dA μ 30 t := by
            rw [ks_up_at, if_neg (fun q => absurd q.1 (by decide)), ks_up_at, if_neg (fun q => absurd q.1 (by decide)), ks_up_at, if_neg (fun q => absurd q.1 (by decide)), ks_up_at, if_neg (fun q => absurd q.1 (by decide)), rB 30 t (by decide) (by decide) (by decide) (inr16 (by decide) (by decide) (by decide) (by decide) t1)]
          rw [q30, j5.1, nI_6, if_pos (i96 (by omega)), if_pos (i16 t1), cl (i := 6 * t + nn (dA μ) 30 t) (by omega), f_X5_choose_226]
          refine ⟨_, rfl, ?_⟩
          have q33 : ks_up (ks_up (ks_up (ks_up S 43 0 0 (4 * gr (sD μ) t (nn (dA μ) 30 t) + nn (dA μ) 44 (gr (sD μ) t (nn (dA μ) 30 t))) (nI c)) 44 0 0 (gr (sD μ) t (nn (dA μ) 30 t)) (dA μ 44 (gr (sD μ) t (nn (dA μ) 30 t)) + 1)) 40 0 0 c 2) 32 0 0 t 0 33 0 0 (6 * t + nn (dA μ) 30 t) = dA μ 33 (6 * t + nn (dA μ) 30 t) := by
            rw [ks_up_at, if_neg (fun q => absurd q.1 (by decide)), ks_up_at, if_neg (fun q => absurd q.1 (by decide)), ks_up_at, if_neg (fun q => absurd q.1 (by decide)), ks_up_at, if_neg (fun q => absurd q.1 (by decide)), rB 33 _ (by decide) (by decide) (by decide) (inr96 (Or.inl rfl) t1 hlt hcn6)]
          rw [q33]
          have hj : aJoin (sD μ) (au (au (dA μ) 39 c (nI t)) 40 c 1) c t = au (au (au (au (au (au (au (dA μ) 39 c (nI t)) 40 c 1) 43 (4 * gr (sD μ) t (nn (dA μ) 30 t) + nn (dA μ) 44 (gr (sD μ) t (nn (dA μ) 30 t))) (nI c)) 44 (gr (sD μ) t (nn (dA μ) 30 t)) (dA μ 44 (gr (sD μ) t (nn (dA μ) 30 t)) + 1)) 40 c 2) 32 t 0) 31 t (dA μ 33 (6 * t + nn (dA μ) 30 t)) := by
            have z : ∀ k s, k ≠ 39 → k ≠ 40 → au (au (dA μ) 39 c (nI t)) 40 c 1 k s = dA μ k s := fun k s q1 q2 => by
              rw [au_k _ _ _ _ q2, au_k _ _ _ _ q1]
            unfold aJoin aGrp
            have z30 : nn (au (au (dA μ) 39 c (nI t)) 40 c 1) 30 t = nn (dA μ) 30 t := nn_e (z 30 t (by decide) (by decide))
            have z44 : ∀ g, nn (au (au (dA μ) 39 c (nI t)) 40 c 1) 44 g = nn (dA μ) 44 g := fun g => nn_e (z 44 g (by decide) (by decide))
            rw [z30, z44, z 44 _ (by decide) (by decide), z 33 _ (by decide) (by decide)]
          rw [hj]
          exact hRe
        · refine ⟨S, ?_, ?_⟩
          · rw [if_neg h3, f_X5_choose_226]
          · rw [if_neg]
            · exact hR
            · intro q
              have := q.2
              unfold aDue at this
              rw [decide_eq_true_eq] at this
              exact h3 this.2
  · rw [if_neg h1, if_neg h1]
    exact ⟨μ, rfl, RR_refl μ⟩
