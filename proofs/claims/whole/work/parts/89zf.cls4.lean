/-! PURE: the class works on a job, on all cores. -/
theorem cls_job {N : Nat} (hN : 16 < N) {D T : Nat → Nat → Int32} {s : ks_S} {c t k : Nat} (hST : ST D) (hSG : SG D) (hc : c < 4) (ht : t < 16) (hd : D 15 t = nI c) (hC : CSt D s) (hG : CGr D s) (hR : RC D s T) (h4 : R4 T) (h39 : T 39 c = nI t) (hnow : s 0 0 0 7 = T 14 13 + 1) (hk : T 40 c = 1 ∨ (T 40 c = 2 ∧ ok T 30 t (cn D t) ∧ nn T 30 t < cn D t) ∨ (T 40 c = 3 ∧ ok T 30 t (cn D t) ∧ nn T 30 t < cn D t ∧ ok T 31 t 100 ∧ k ≤ nn T 31 t ∧ 1 ≤ nn T 44 (gr D t (nn T 30 t)))) : ∃ s', f_X4_workOnJob N s t (nI k) = some (if aEnds D (aDoK D k T c t) c t = true then 1 else 0, s') ∧ RC D s' (aFin D (aDoK D k T c t) c t) ∧ FC s s' := by
  obtain ⟨hT, hQ, hK, hS, hW, hB, hZ⟩ := hR
  have hst : s 9 t 0 3 = T 40 c := by
    rcases hS.1 c hc with w | ⟨v, v1, v2, v3, _⟩
    · rw [h39] at w
      exact absurd w.1 (nI_n1 (by omega))
    · rw [nI_inj (by omega) (by omega) (h39.symm.trans v2)]
      exact v3
  have hm1 : D 15 t ≠ -1 := by rw [hd]; exact nI_n1 (by omega)
  obtain ⟨_, _, _, _, _, _, _, _, _, _, k7, k8, k9⟩ := core_of hST ht hm1
  have hcn6 : cn D t ≤ 6 := k9.2
  unfold f_X4_workOnJob aDoK
  rw [hst]
  rcases hk with h1 | ⟨h2, o30, hlt⟩ | ⟨h3, o30, hlt, o31, hk31, h44⟩
  · rw [if_neg (by rw [h1]; decide), if_pos h1, if_pos h1, (hT t ht).2.2.2.1]
    have F1 : FC s (ks_up s 9 t 0 4 (T 29 t + nI k)) := FC_up (by omega) (FC_refl s)
    have hR1 : RC D (ks_up s 9 t 0 4 (T 29 t + nI k)) (au T 29 t (T 29 t + nI k)) := by
      refine ⟨fun v hv => ?_, fun v r hv hr => ?_, fun z hz => ?_, ⟨fun z hz => ?_, fun v hv => ?_⟩, fun g' hg' => ?_, ?_, fun v r hv hr hr2 => ?_⟩
      · have := hT v hv
        by_cases e : v = t
        · subst e
          simp [ks_up_at, au] at this ⊢
          exact ⟨this.1, this.2.1, this.2.2.1, this.2.2.2.2⟩
        · simp [ks_up_at, au, e] at this ⊢
          exact this
      · have := hQ v r hv hr
        simp [ks_up_at, au] at this ⊢
        exact this
      · have := hK z hz
        simp [ks_up_at, au] at this ⊢
        exact this
      · have := hS.1 z hz
        simp [ks_up_at, au] at this ⊢
        exact this
      · have := hS.2 v hv
        rw [nn_e (A := T) (k := 30) (s := v) (by simp [au])]
        simp [ks_up_at, au] at this ⊢
        exact this
      · have := hW g' hg'
        rw [nn_e (A := T) (k := 44) (s := g') (by simp [au])]
        simp [ks_up_at, au] at this ⊢
        exact this
      · unfold RB at *
        simp [ks_up_at, au] at hB ⊢
        exact hB
      · have := hZ v r hv hr hr2
        simp [ks_up_at] at this ⊢
        exact this
    obtain ⟨s', q1, q2, q3⟩ := cls_fin hc ht hd (CSt_FC F1 hC) hR1 (by rw [au_k _ _ _ _ (by decide)]; exact h39) (by rw [ks_up_at, if_neg (by omega), au_k _ _ _ _ (by decide)]; exact hnow)
    exact ⟨s', q1, q2, FC_trans F1 q3⟩
  · have n1 : ¬ T 40 c = 1 := by rw [h2]; decide
    rw [if_pos h2, if_neg n1, if_pos h2]
    have hsp : f_X3_spinFor s t (nI k) = some (ks_up (ks_up s 9 t 0 7 (T 32 t + nI k)) 11 t (nn T 30 t) 7 (if T 38 (6 * t + nn T 30 t) < T 32 t + nI k then T 32 t + nI k else T 38 (6 * t + nn T 30 t))) := by
      unfold f_X3_spinFor
      rw [(hT t ht).2.2.2.2.2.2.1, cls_next (r := nn T 30 t) (by rw [ks_up_at, if_neg (by omega), (hT t ht).2.2.2.2.1]; exact o30.1) (by omega), Option.bind_some]
      dsimp only
      have e11 : ∀ v, ks_up s 9 t 0 7 v 11 t (nn T 30 t) 7 = T 38 (6 * t + nn T 30 t) := fun v => by
        rw [ks_up_at, if_neg (by omega)]
        exact (hQ t _ ht hlt).2.2
      rw [ks_up_hit, e11]
    rw [hsp, Option.bind_some]
    have hne : ¬ aEnds D (aSpinK k T t) c t = true := by
      unfold aEnds
      rw [decide_eq_true_eq]
      rintro ⟨z, _⟩
      unfold aSpinK at z
      rw [au_k _ _ _ _ (by decide), au_k _ _ _ _ (by decide), h2] at z
      exact z (by decide)
    unfold aFin
    rw [if_neg hne, if_neg hne]
    refine ⟨_, rfl, ?_, FC_up (by omega) (FC_up (by omega) (FC_refl s))⟩
    unfold aSpinK
    generalize hx : (if T 38 (6 * t + nn T 30 t) < T 32 t + nI k then T 32 t + nI k else T 38 (6 * t + nn T 30 t)) = x
    refine ⟨fun v hv => ?_, fun v r hv hr => ?_, fun z hz => ?_, ⟨fun z hz => ?_, fun v hv => ?_⟩, fun g' hg' => ?_, ?_, fun v r hv hr hr2 => ?_⟩
    · have := hT v hv
      by_cases e : v = t
      · subst e
        simp [ks_up_at, au] at this ⊢
        exact ⟨this.1, this.2.1, this.2.2.1, this.2.2.2.1, this.2.2.2.2.1, this.2.2.2.2.2.1, this.2.2.2.2.2.2.2⟩
      · simp [ks_up_at, au, e] at this ⊢
        exact this
    · have := hQ v r hv hr
      have hr6 : r < 6 := by
        rcases hST.1 v hv with ⟨_, w⟩ | ⟨_, _, _, _, _, _, _, _, _, w⟩
        · have : cn D v = 0 := nn_nI w (by decide)
          omega
        · have : cn D v ≤ 6 := w.2
          omega
      by_cases e : v = t ∧ r = nn T 30 t
      · obtain ⟨rfl, rfl⟩ := e
        simp [ks_up_at, au] at this ⊢
        exact ⟨this.1, this.2.1⟩
      · have e2 : ¬ (6 * v + r = 6 * t + nn T 30 t) := by omega
        simp [ks_up_at, au, e, e2] at this ⊢
        exact this
    · have := hK z hz
      simp [ks_up_at, au] at this ⊢
      exact this
    · have := hS.1 z hz
      simp [ks_up_at, au] at this ⊢
      exact this
    · have := hS.2 v hv
      rw [show nn (au (au T 32 t (T 32 t + nI k)) 38 (6 * t + nn T 30 t) x) 30 v = nn T 30 v from nn_e (by simp [au])]
      simp [ks_up_at, au] at this ⊢
      exact this
    · have := hW g' hg'
      rw [show nn (au (au T 32 t (T 32 t + nI k)) 38 (6 * t + nn T 30 t) x) 44 g' = nn T 44 g' from nn_e (by simp [au])]
      simp [ks_up_at, au] at this ⊢
      exact this
    · unfold RB at *
      simp [ks_up_at, au] at hB ⊢
      exact hB
    · have := hZ v r hv hr hr2
      have e : ¬ (v = t ∧ r = nn T 30 t) := by
        rintro ⟨rfl, rfl⟩
        omega
      simp [ks_up_at, e] at this ⊢
      exact this
  · have n1 : ¬ T 40 c = 1 := by rw [h3]; decide
    have n2 : ¬ T 40 c = 2 := by rw [h3]; decide
    rw [if_neg n2, if_neg n1, if_neg n1, if_neg n2]
    have e31 : s 9 t 0 6 = T 31 t := (hT t ht).2.2.2.2.2.1 (by rw [hst]; exact n2)
    have hdk : aDecK k T t 31 t = nI (nn T 31 t - k) := by
      unfold aDecK
      rw [au_hit, o31.1, pk_sub hk31]
    have F1 : FC s (ks_up s 9 t 0 6 (T 31 t - nI k)) := FC_up (by omega) (FC_refl s)
    have hR1 : RC D (ks_up s 9 t 0 6 (T 31 t - nI k)) (aDecK k T t) := by
      unfold aDecK
      refine ⟨fun v hv => ?_, fun v r hv hr => ?_, fun z hz => ?_, ⟨fun z hz => ?_, fun v hv => ?_⟩, fun g' hg' => ?_, ?_, fun v r hv hr hr2 => ?_⟩
      · have := hT v hv
        by_cases e : v = t
        · subst e
          simp [ks_up_at, au] at this ⊢
          exact ⟨this.1, this.2.1, this.2.2.1, this.2.2.2.1, this.2.2.2.2.1, this.2.2.2.2.2.2⟩
        · simp [ks_up_at, au, e] at this ⊢
          exact this
      · have := hQ v r hv hr
        simp [ks_up_at, au] at this ⊢
        exact this
      · have := hK z hz
        simp [ks_up_at, au] at this ⊢
        exact this
      · have := hS.1 z hz
        simp [ks_up_at, au] at this ⊢
        exact this
      · have := hS.2 v hv
        rw [nn_e (A := T) (k := 30) (s := v) (by simp [au])]
        by_cases e : v = t
        · subst e
          rcases this with w | ⟨w1, w2, w3⟩
          · exact Or.inl (by simp [ks_up_at]; exact w)
          · refine Or.inr ⟨by simp [ks_up_at]; exact w1, ?_, fun q => ?_⟩
            · simp [au]; exact w2
            · simp [ks_up_at] at q
              rw [hst, h3] at q
              exact absurd q (by decide)
        · simp [ks_up_at, au, e] at this ⊢
          exact this
      · have := hW g' hg'
        rw [nn_e (A := T) (k := 44) (s := g') (by simp [au])]
        simp [ks_up_at, au] at this ⊢
        exact this
      · unfold RB at *
        simp [ks_up_at, au] at hB ⊢
        exact hB
      · have := hZ v r hv hr hr2
        simp [ks_up_at] at this ⊢
        exact this
    have hn1 : ks_up s 9 t 0 6 (T 31 t - nI k) 0 0 0 7 = aDecK k T t 14 13 + 1 := by
      unfold aDecK
      rw [ks_up_at, if_neg (by omega), au_k _ _ _ _ (by decide)]
      exact hnow
    have h39' : aDecK k T t 39 c = nI t := by unfold aDecK; rw [au_k _ _ _ _ (by decide)]; exact h39
    have o30' : aDecK k T t 30 t = nI (nn T 30 t) := by unfold aDecK; rw [au_k _ _ _ _ (by decide)]; exact o30.1
    have e44 : ∀ g, aDecK k T t 44 g = T 44 g := fun g => by unfold aDecK; rw [au_k _ _ _ _ (by decide)]
    have e43 : ∀ g, aDecK k T t 43 g = T 43 g := fun g => by unfold aDecK; rw [au_k _ _ _ _ (by decide)]
    have hst' : ks_up s 9 t 0 6 (T 31 t - nI k) 9 t 0 3 = 3 := by rw [ks_up_at, if_neg (by omega), hst, h3]
    have hC1 := CSt_FC F1 hC
    have hG1 := CGr_FC F1 hG
    have hpos : (0 : Int32) < ks_up s 9 t 0 6 (T 31 t - nI k) 9 t 0 6 ↔ ¬ aDecK k T t 31 t = 0 := by
      rw [ks_up_hit, show T 31 t - nI k = aDecK k T t 31 t from (au_hit _ _ _ _).symm, hdk]
      constructor
      · intro q e
        rw [e] at q
        exact absurd q (by decide)
      · intro q
        have : nn T 31 t - k ≠ 0 := fun e => q (by rw [e]; rfl)
        exact nI_lt (a := 0) (by omega) (by have := o31.2; omega)
    unfold f_X4_holdFor
    rw [e31]
    generalize ks_up s 9 t 0 6 (T 31 t - nI k) = s1 at *
    generalize aDecK k T t = B at *
    by_cases hz : B 31 t = 0
    · rw [if_pos hz, if_neg (fun q => hpos.mp q hz)]
      obtain ⟨bT, bQ, bK, bS, bW, bB, bZ⟩ := hR1
      rcases hC1 t ht with ⟨_, w⟩ | ⟨a0, a1, a2, a3, a4, a5, a6, a7, a8⟩
      · exact absurd w hm1
      · obtain ⟨u1, u2, u3, u4, u5⟩ := hST.2.1 t _ ht hlt
        have hg := grp_lt hST hSG ht hlt
        have hl7 := u2.2
        have ok44 := h4 _ hg
        have n30 : nn B 30 t = nn T 30 t := nn_nI o30' (by omega)
        rw [cls_next (r := nn T 30 t) (by rw [(bT t ht).2.2.2.2.1]; exact o30') (by omega), Option.bind_some]
        dsimp only
        have hrow : f_X4_rowOf s1 (s1 11 t (nn T 30 t) 1) = some ((gr D t (nn T 30 t), 0), s1) := by
          unfold f_X4_rowOf
          rw [(a8 _ hlt).2.1, u2.1, if_pos (i8 (by omega)), cl (i := nn D 22 (6 * t + nn T 30 t)) (by omega), hG1 _ (by omega), (hSG _ (by omega)).1]
          rw [show nn D 25 (nn D 22 (6 * t + nn T 30 t)) = gr D t (nn T 30 t) from rfl, if_pos (i8 hg), cl (i := gr D t (nn T 30 t)) (by omega)]
        rw [hrow, Option.bind_some]
        dsimp only
        have e12 : s1 12 (gr D t (nn T 30 t)) 0 1 = nI (nn T 44 (gr D t (nn T 30 t))) := by
          rw [(bW _ hg).1, e44]
          exact ok44.1
        have hdrop : f_X2_dropFirst N s1 (gr D t (nn T 30 t)) = some (ks_up (shS s1 (gr D t (nn T 30 t)) (nn T 44 (gr D t (nn T 30 t)))) 12 (gr D t (nn T 30 t)) 0 1 (nI (nn T 44 (gr D t (nn T 30 t)) - 1))) := by
          have := cls_drop (N := N) ok44.2 e12 (nn T 44 (gr D t (nn T 30 t)) - 1) N 1 (by omega) (by have := ok44.2; omega) (by omega)
          rw [shS_1] at this
          exact this
        rw [hdrop, Option.bind_some]
        have eLv : aLeave D B c t = au (au (au (aShift B (gr D t (nn T 30 t))) 44 (gr D t (nn T 30 t)) (nI (nn T 44 (gr D t (nn T 30 t)) - 1))) 40 c 1) 30 t (nI (aNx D t (nn T 30 t + 1))) := by
          unfold aLeave aGrp
          rw [n30, e44, ok44.1]
          obtain ⟨y, hy⟩ : ∃ y, nn T 44 (gr D t (nn T 30 t)) = y + 1 := ⟨nn T 44 (gr D t (nn T 30 t)) - 1, by omega⟩
          rw [hy, nI_pred, Nat.add_sub_cancel]
        have n44 : nn B 44 (gr D t (nn T 30 t)) = nn T 44 (gr D t (nn T 30 t)) := nn_e (e44 _)
        have hm4 : nn T 44 (gr D t (nn T 30 t)) ≤ 4 := ok44.2
        generalize hgg : gr D t (nn T 30 t) = g at *
        generalize nn T 44 g = m at *
        have sh : ∀ k a b z, k ≠ 13 → shS s1 g m k a b z = s1 k a b z := fun k a b z q => by unfold shS; rw [if_neg (by omega)]
        have F2 : FC s1 (ks_up (shS s1 g m) 12 g 0 1 (nI (m - 1))) := FC_up (by omega) ⟨fun k q1 q2 q3 q4 q5 q6 => by
          funext a b z
          exact sh k a b z q6, fun a b z _ => sh 11 a b z (by decide)⟩
        have hleave : f_X3_leaveSection N (ks_up (shS s1 g m) 12 g 0 1 (nI (m - 1))) t = some (ks_up (ks_up (ks_up (shS s1 g m) 12 g 0 1 (nI (m - 1))) 9 t 0 3 1) 9 t 0 5 (nI (aNx D t (nn T 30 t + 1)))) := by
          unfold f_X3_leaveSection f_X3_outerFrom
          have e5 : ks_up (ks_up (shS s1 g m) 12 g 0 1 (nI (m - 1))) 9 t 0 3 1 9 t 0 5 = nI (nn T 30 t) := by
            rw [ks_up_at, if_neg (by omega), ks_up_at, if_neg (by omega), sh 9 _ _ _ (by decide), (bT t ht).2.2.2.2.1]
            exact o30'
          rw [e5, nI_1, cls_outer (D := D) ht k9 (by rw [ks_up_at, if_neg (by omega), ks_up_at, if_neg (by omega), sh 8 _ _ _ (by decide)]; exact a7) (fun r hr => by rw [ks_up_at, if_neg (by omega), ks_up_at, if_neg (by omega), sh 11 _ _ _ (by decide)]; exact (a8 r hr).2.2.2) 6 N (nn T 30 t + 1) (by omega) (by omega) (by omega), Option.bind_some]
          rfl
        rw [hleave, Option.bind_some, Option.bind_some, eLv]
        have F3 : FC s1 (ks_up (ks_up (ks_up (shS s1 g m) 12 g 0 1 (nI (m - 1))) 9 t 0 3 1) 9 t 0 5 (nI (aNx D t (nn T 30 t + 1)))) := FC_up (by omega) (FC_up (by omega) F2)
        have ash : ∀ k z, k ≠ 43 → aShift B g k z = B k z := fun k z q => by rw [aShift_row q]
        have hR2 : RC D (ks_up (ks_up (ks_up (shS s1 g m) 12 g 0 1 (nI (m - 1))) 9 t 0 3 1) 9 t 0 5 (nI (aNx D t (nn T 30 t + 1)))) (au (au (au (aShift B g) 44 g (nI (m - 1))) 40 c 1) 30 t (nI (aNx D t (nn T 30 t + 1)))) := by
          refine ⟨fun v hv => ?_, fun v r hv hr => ?_, fun z hz2 => ?_, ⟨fun z hz2 => ?_, fun v hv => ?_⟩, fun g' hg' => ?_, ?_, fun v r hv hr hr2 => ?_⟩
          · have := bT v hv
            by_cases e : v = t
            · subst e
              simp [ks_up_at, au, sh, ash, hst'] at this ⊢
              exact ⟨this.1, this.2.1, this.2.2.1, this.2.2.2.1, this.2.2.2.2.2⟩
            · simp [ks_up_at, au, e, sh, ash] at this ⊢
              exact this
          · have := bQ v r hv hr
            simp [ks_up_at, au, sh, ash] at this ⊢
            exact this
          · have := bK z hz2
            simp [ks_up_at, au, sh, ash] at this ⊢
            exact this
          · by_cases e : z = c
            · subst e
              exact Or.inr ⟨t, ht, by simp [au, ash]; exact h39', by simp [ks_up_at, au], hd⟩
            · rcases bS.1 z hz2 with ⟨w1, w2⟩ | ⟨v, v1, v2, v3, v4⟩
              · exact Or.inl ⟨by simp [au, ash]; exact w1, by simp [au, e, ash]; exact w2⟩
              · have hvt : v ≠ t := fun e2 => by
                  subst e2
                  exact e (nI_inj (by omega) (by omega) (v4.symm.trans hd))
                exact Or.inr ⟨v, v1, by simp [au, ash]; exact v2, by simp [ks_up_at, au, e, hvt, sh, ash]; exact v3, v4⟩
          · by_cases e : v = t
            · subst e
              exact Or.inl (by simp [ks_up_at])
            · have := bS.2 v hv
              rw [show nn (au (au (au (aShift B g) 44 g (nI (m - 1))) 40 c 1) 30 t (nI (aNx D t (nn T 30 t + 1)))) 30 v = nn B 30 v from nn_e (by simp [au, e, ash])]
              simp [ks_up_at, au, e, sh, ash] at this ⊢
              exact this
          · by_cases e : g' = g
            · subst e
              have hn : nn (au (au (au (aShift B g') 44 g' (nI (m - 1))) 40 c 1) 30 t (nI (aNx D t (nn T 30 t + 1)))) 44 g' = m - 1 := nn_nI (by simp [au]) (by omega)
              refine ⟨by simp [ks_up_at, au], fun i hi => ?_⟩
              rw [hn] at hi
              have hw := (bW g' hg').2 (i + 1) (by rw [n44]; omega)
              have l1 : ks_up (ks_up (ks_up (shS s1 g' m) 12 g' 0 1 (nI (m - 1))) 9 t 0 3 1) 9 t 0 5 (nI (aNx D t (nn T 30 t + 1))) 13 g' 0 i = s1 13 g' 0 (i + 1) := by
                rw [ks_up_at, if_neg (by omega), ks_up_at, if_neg (by omega), ks_up_at, if_neg (by omega)]
                unfold shS
                rw [if_pos ⟨rfl, rfl, rfl, by omega⟩]
              have l2 : au (au (au (aShift B g') 44 g' (nI (m - 1))) 40 c 1) 30 t (nI (aNx D t (nn T 30 t + 1))) 43 (4 * g' + i) = B 43 (4 * g' + (i + 1)) := by
                rw [au_k _ _ _ _ (by decide), au_k _ _ _ _ (by decide), au_k _ _ _ _ (by decide)]
                unfold aShift
                rw [if_pos ⟨rfl, by omega, by rw [n44]; omega⟩]
                rfl
              rw [l1, l2]
              exact hw
            · have hn : nn (au (au (au (aShift B g) 44 g (nI (m - 1))) 40 c 1) 30 t (nI (aNx D t (nn T 30 t + 1)))) 44 g' = nn B 44 g' := nn_e (by simp [au, e, ash])
              refine ⟨?_, fun i hi => ?_⟩
              · have := (bW g' hg').1
                simp [ks_up_at, au, e, sh, ash] at this ⊢
                exact this
              · rw [hn] at hi
                have h4' : nn B 44 g' ≤ 4 := by rw [nn_e (e44 g')]; exact (h4 g' hg').2
                have hw := (bW g' hg').2 i hi
                have l1 : ks_up (ks_up (ks_up (shS s1 g m) 12 g 0 1 (nI (m - 1))) 9 t 0 3 1) 9 t 0 5 (nI (aNx D t (nn T 30 t + 1))) 13 g' 0 i = s1 13 g' 0 i := by
                  rw [ks_up_at, if_neg (by omega), ks_up_at, if_neg (by omega), ks_up_at, if_neg (by omega)]
                  unfold shS
                  rw [if_neg (fun q => e q.2.1)]
                have l2 : au (au (au (aShift B g) 44 g (nI (m - 1))) 40 c 1) 30 t (nI (aNx D t (nn T 30 t + 1))) 43 (4 * g' + i) = B 43 (4 * g' + i) := by
                  rw [au_k _ _ _ _ (by decide), au_k _ _ _ _ (by decide), au_k _ _ _ _ (by decide)]
                  unfold aShift
                  rw [if_neg]
                  rintro ⟨_, q1, q2⟩
                  rw [n44] at q2
                  omega
                rw [l1, l2]
                exact hw
          · unfold RB at *
            simp [ks_up_at, au, sh, ash] at bB ⊢
            exact bB
          · have := bZ v r hv hr hr2
            simp [ks_up_at, sh] at this ⊢
            exact this
        obtain ⟨s', q1, q2, q3⟩ := cls_fin hc ht hd (CSt_FC F3 hC1) hR2 (by simp [au, ash]; exact h39') (by rw [F3.1 0 (by decide) (by decide) (by decide) (by decide) (by decide) (by decide), hn1]; simp [au, ash])
        exact ⟨s', q1, q2, FC_trans F1 (FC_trans F3 q3)⟩
    · rw [if_neg hz, if_pos (hpos.mpr hz), Option.bind_some]
      obtain ⟨s', q1, q2, q3⟩ := cls_fin hc ht hd hC1 hR1 h39' hn1
      exact ⟨s', q1, q2, FC_trans F1 q3⟩
