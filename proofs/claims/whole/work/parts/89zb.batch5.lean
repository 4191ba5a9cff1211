/-! PURE: the batch. -/
theorem batch {D : Nat → Nat → Int32} : ∀ k (A : Nat → Nat → Int32) x w, LV D A → SP A w → w + 4 * (k + 1) < 2 ^ 30 → k < 2 ^ 28 → nn A 14 13 + (k + 1) < 2 ^ 30 → AL D (aMid D A) (k + 1) → aIt D A (k + 1) = au (gK D (k + 1) (au (aMid D A) 14 13 (A 14 13 + nI k))) 14 13 (A 14 13 + nI (k + 1)) ∧ aItR D A x (k + 1) = gR D (k + 1) (au (aMid D A) 14 13 (A 14 13 + nI k)) x := by
  intro k
  induction k with
  | zero =>
    intro A x w hL hS hw hk hn hA
    have e : au (aMid D A) 14 13 (A 14 13 + nI 0) = aMid D A := au_same (by rw [(mid_all hL).2.2.2, show nI 0 = 0 from rfl, Int32.add_zero])
    rw [e]
    exact ⟨rfl, rfl⟩
  | succ k ih =>
    intro A x w hL hS hw hk hn hA
    obtain ⟨⟨F, hP⟩, hch, hfi, hnow⟩ := mid_all hL
    have hST := hL.1
    have hSM := SP_mid (D := D) hS
    have hT : aTick D A = au (aWrk D (aMid D A)) 14 13 (A 14 13 + 1) := rfl
    have hR : aAdd D A x = gR D 1 (aMid D A) x := rfl
    generalize hM : aMid D A = M at *
    have hcd : ∀ c, c < 4 → CD0 D M c := fun c hc => mid_CD0 hST hc hP (hch c hc)
    have hne : ∀ c, c < 4 → NE D M c ∧ CD0 D M c := fun c hc => by
      refine ⟨?_, hcd c hc⟩
      rcases mid_core hST hc hP (hch c hc) with q | ⟨t, q1, q2, q3, q4, q5⟩
      · exact Or.inl (by rw [q.1]; decide)
      · refine Or.inr ⟨t, q1, q2, q3, ?_⟩
        obtain ⟨j1, j2, j3, j4, j5, j6, j7, j8⟩ := hP.1 t q1 q4
        obtain ⟨_, _, _, _, _, _, _, _, _, _, k7, k8, k9⟩ := core_of hST q1 j1
        have hcn : cn D t ≤ 6 := k9.2
        have al := hA c t hc q1 q2
        rcases q5 with z | ⟨z | z, zs⟩
        · refine Or.inl ⟨z, ?_⟩
          have a1 := al.1 (nn_nI (n := 1) z (by decide))
          unfold stp at a1
          by_cases hlt : nn M 30 t < cn D t
          · refine Or.inr ?_
            rw [j5.1, show D 20 t = nI (cn D t) from k9.1]
            exact nI_lt hlt (by omega)
          · rw [if_neg hlt] at a1
            refine Or.inl ?_
            rw [j4.1, nI_1, k7.1]
            exact nI_lt (by omega) (by have := k7.2; omega)
        · exact Or.inr (Or.inl z)
        · refine Or.inr (Or.inr ⟨z, ?_⟩)
          have a1 := al.2 (nn_nI (n := 3) z (by decide))
          obtain ⟨y, hy⟩ : ∃ y, nn M 31 t = y + 1 := ⟨nn M 31 t - 1, by omega⟩
          have o31 := zs.2.2.2.2.2.2.1
          have hu := (hST.2.1 t _ q1 zs.2.2.2.2.1).2.2.1.2
          have hln : ln D t (nn M 30 t) ≤ 100 := hu
          rw [o31.1, hy, nI_pred]
          exact nI_ne0 (by omega) (by have := o31.2; omega)
    obtain ⟨w1, w2⟩ := wrk_ne x hne
    rw [w1] at hT
    rw [w2] at hR
    obtain ⟨hL1, hn1⟩ := LV_tick hL (by omega)
    have hS1 := SP_tick (D := D) hS
    have e14 : aTick D A 14 13 = A 14 13 + 1 := tick_now
    have rw1 : ∀ a, (a ≠ 29 ∧ a ≠ 31 ∧ a ≠ 32 ∧ a ≠ 38 ∧ a ≠ 41 ∧ a ≠ 42) → a ≠ 14 → aTick D A a = M a := fun a ha h14 => by
      rw [hT, au_row _ _ _ h14, adv_row ha]
    have v29 : ∀ c t, c < 4 → t < 16 → M 39 c = nI t → D 15 t = nI c → aTick D A 29 t = (if M 40 c = 1 then M 29 t + 1 else M 29 t) ∧ aTick D A 31 t = (if M 40 c ≠ 1 ∧ M 40 c ≠ 2 then M 31 t - 1 else M 31 t) := fun c t hc ht q1 q2 => by
      have := adv_val hc ht q1 q2 hcd 4 (Nat.le_refl _)
      rw [hT, au_k _ _ _ _ (by decide), au_k _ _ _ _ (by decide), this.1, this.2]
      simp only [hc, true_and]
    have hd : ∀ c t, c < 4 → t < 16 → M 39 c = nI t → D 15 t = nI c := fun c t hc ht q => by
      rcases hcd c hc with z | ⟨u, u1, u2, u3, _⟩
      · rw [q] at z
        exact absurd z (nI_pos (by omega))
      · rw [nI_inj (by omega) (by omega) (q.symm.trans u2)]
        exact u3
    have r39 := rw1 39 (by decide) (by decide)
    have r40 := rw1 40 (by decide) (by decide)
    have r30 := rw1 30 (by decide) (by decide)
    have r26 := rw1 26 (by decide) (by decide)
    have r43 := rw1 43 (by decide) (by decide)
    have r44 := rw1 44 (by decide) (by decide)
    have n40 : ∀ s, nn (aTick D A) 40 s = nn M 40 s := fun s => by unfold nn; rw [r40]
    have n30 : ∀ s, nn (aTick D A) 30 s = nn M 30 s := fun s => by unfold nn; rw [r30]
    have n29 : ∀ c t, c < 4 → t < 16 → M 39 c = nI t → nn M 40 c = 1 → nn (aTick D A) 29 t = nn M 29 t + 1 := fun c t hc ht q1 q2 => by
      rcases mid_core hST hc hP (hch c hc) with z | ⟨u, u1, u2, u3, u4, u5⟩
      · rw [q1] at z
        exact absurd z.1 (nI_n1 (by omega))
      · have e : u = t := nI_inj (by omega) (by omega) (u2.symm.trans q1)
        subst e
        obtain ⟨j1, j2, j3, j4, _⟩ := hP.1 u u1 u4
        obtain ⟨_, _, _, _, _, _, _, _, _, _, k7, _⟩ := core_of hST u1 j1
        have o40 := (hP.2.1 c hc).1
        have h1 : M 40 c = 1 := by rw [o40.1, q2]; rfl
        have := (v29 c u hc ht q1 u3).1
        rw [if_pos h1, j4.1, nI_1] at this
        exact nn_nI this (by have := j4.2; have := k7.2; omega)
    have n31 : ∀ c t, c < 4 → t < 16 → M 39 c = nI t → nn M 40 c = 3 → nn (aTick D A) 31 t = nn M 31 t - 1 := fun c t hc ht q1 q2 => by
      obtain ⟨u, hs⟩ := (hP.2.1 c hc).2 (by omega)
      have e : u = t := nI_inj (by have := hs.1; omega) (by omega) (hs.2.1.symm.trans q1)
      subst e
      have o31 := hs.2.2.2.2.2.2.1
      have g31 := hs.2.2.2.2.2.2.2.1
      have hu : ln D u (nn M 30 u) ≤ 100 := (hST.2.1 u _ hs.1 hs.2.2.2.2.1).2.2.1.2
      have o40 := (hP.2.1 c hc).1
      have h1 : M 40 c = 3 := by rw [o40.1, q2]; rfl
      have := (v29 c u hc ht q1 hs.2.2.2.1).2
      obtain ⟨y, hy⟩ : ∃ y, nn M 31 u = y + 1 := ⟨nn M 31 u - 1, by omega⟩
      rw [if_pos ⟨by rw [h1]; decide, by rw [h1]; decide⟩, o31.1, hy, nI_pred] at this
      rw [nn_nI this (by have := o31.2; omega), hy]
      omega
    have hch1 : ∀ c, c < 4 → chosen D (aTick D A) c := fun c hc => by
      refine ⟨fun q => ?_, fun q => ?_⟩
      · rw [n40] at q
        obtain ⟨t, a1, a2, a3, a4, a5, a6⟩ := (hch c hc).1 q
        refine ⟨t, a1, by rw [r39]; exact a2, by rw [r26]; exact a3, a4, fun v hv hv2 hv3 => a5 v hv (by rw [r26] at hv2; exact hv2) hv3, fun hlt => ?_⟩
        rw [n30] at hlt ⊢
        rw [n29 c t hc a1 a2 q]
        have al := (hA c t hc a1 a2).1 q
        unfold stp at al
        rw [if_pos hlt] at al
        omega
      · rw [n40] at q
        obtain ⟨a1, a2⟩ := (hch c hc).2 q
        exact ⟨by rw [r39]; exact a1, fun v hv hv2 hv3 => a2 v hv (by rw [r26] at hv2; exact hv2) hv3⟩
    have hmid : aMid D (aTick D A) = aTick D A := by
      obtain ⟨_, _, ⟨F1, hB⟩, _, _⟩ := hL1
      have cs : ∀ c, c < 4 → aChoose D (aTick D A) c = aTick D A := fun c hc => cho_same hST hc (hB.1.2.1 c hc).1 (fun t ht ho => (hB.1.1 t ht ho).2.2.2.2.1) (hch1 c hc)
      unfold aMid aCho
      rw [cs 0 (by omega), cs 1 (by omega), cs 2 (by omega), cs 3 (by omega)]
      refine hold_same (fun g hg => (hB.1.2.2.1 g hg).1) (fun g hg hm => ?_) 8 (Nat.le_refl _)
      obtain ⟨c, c1, c2, c3⟩ := hfi g hg (by unfold nn at hm ⊢; rw [r44] at hm; exact hm)
      exact ⟨c, c1, by rw [r43]; exact c2, by rw [r40]; exact c3⟩
    have hA1 : AL D (aMid D (aTick D A)) (k + 1) := by
      rw [hmid]
      intro c t hc ht q
      rw [r39] at q
      refine ⟨fun q1 => ?_, fun q1 => ?_⟩
      · rw [n40] at q1
        rw [n29 c t hc ht q q1]
        have := (hA c t hc ht q).1 q1
        unfold stp at *
        rw [n30]
        omega
      · rw [n40] at q1
        rw [n31 c t hc ht q q1]
        have := (hA c t hc ht q).2 q1
        omega
    obtain ⟨i1, i2⟩ := ih (aTick D A) x (w + 4) hL1 hS1 (by omega) (by omega) (by omega) hA1
    rw [hmid] at i1 i2
    have ev : aTick D A 14 13 + nI k = A 14 13 + nI (k + 1) := by
      rw [e14, Int32.add_assoc, show (1 : Int32) = nI 1 from rfl, nI_add, Nat.add_comm]
    have ev2 : aTick D A 14 13 + nI (k + 1) = A 14 13 + nI (k + 1 + 1) := by
      rw [e14, Int32.add_assoc, show (1 : Int32) = nI 1 from rfl, nI_add, Nat.add_comm]
    have eb : au (aTick D A) 14 13 (aTick D A 14 13 + nI k) = adv (au M 14 13 (A 14 13 + nI (k + 1))) 4 := by
      rw [ev, hT, au_au, adv_now]
    rw [eb] at i1 i2
    have hB : ∀ c, c < 4 → CD0 D (au M 14 13 (A 14 13 + nI (k + 1))) c ∧ CD32 (au M 14 13 (A 14 13 + nI (k + 1))) c := fun c hc => by
      refine ⟨CD0_same (au_k _ _ _ _ (by decide)) (au_k _ _ _ _ (by decide)) (fun _ _ => au_k _ _ _ _ (by decide)) (hcd c hc), fun t q1 q2 q3 => ?_⟩
      rw [au_k _ _ _ _ (by decide)] at q1 q3 ⊢
      obtain ⟨s, s1, s2⟩ := hSM c t hc q2 q1 q3
      exact ⟨s, s1, by omega⟩
    obtain ⟨g1, g2⟩ := gK_adv (D := D) (k := k + 1) x (by omega) (by omega) hB
    rw [g1, ev2] at i1
    rw [g2] at i2
    refine ⟨?_, ?_⟩
    · rw [aIt, i1]
    · rw [aItR, hR, i2]
