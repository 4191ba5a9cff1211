/-! PURE: the cores hold and work. -/
theorem PH_rel {D A A' : Nat → Nat → Int32} {F u b : Nat → Nat} (he : ∀ k, k ∈ [14, 26, 27, 28, 29, 30, 31, 33, 39, 40, 43, 44] → A' k = A k) (h : PH D A F u b) : PH D A' F u b := by
  have e14 := he 14 (by decide)
  have e26 := he 26 (by decide)
  have e27 := he 27 (by decide)
  have e28 := he 28 (by decide)
  have e29 := he 29 (by decide)
  have e30 := he 30 (by decide)
  have e31 := he 31 (by decide)
  have e33 := he 33 (by decide)
  have e39 := he 39 (by decide)
  have e40 := he 40 (by decide)
  have e43 := he 43 (by decide)
  have e44 := he 44 (by decide)
  unfold PH J Sec Rw SI zb zs pp scd aGrp ok nn at h ⊢
  rw [e14, e26, e27, e28, e29, e30, e31, e33, e39, e40, e43, e44]
  exact h
/-- a core's own time goes on where nothing of it is at stake -/
theorem PH_u {D A : Nat → Nat → Int32} {F u u' b : Nat → Nat} {c : Nat} (hST : ST D) (hu : ∀ s, s ≠ c → u' s = u s) (hc : 1 < nn A 40 c ∨ ∀ j, j < 16 → A 26 j ≠ 0 → D 15 j ≠ nI c) (h : PH D A F u b) : PH D A F u' b := by
  refine ⟨h.1, h.2.1, h.2.2.1, fun i hi hi1 hi2 => ?_⟩
  obtain ⟨t0, m, R, r1, r2, r3, r4, r5⟩ := h.2.2.2 i hi hi1 hi2
  refine ⟨t0, m, R, r1, r2, r3, ?_, r5⟩
  obtain ⟨ci, k1, k2, k3, _⟩ := core_of hST hi hi1
  rw [k3] at r4 ⊢
  have : zb A F u' ci = zb A F u ci := by
    unfold zb
    by_cases e : ci = c
    · subst e
      rcases hc with hc | hc
      · rw [if_pos hc, if_pos hc]
      · obtain ⟨j, q1, q2, q3⟩ := hi2
        exact absurd ((HP_core q2).trans k2) (hc j q1 q3)
    · rw [hu ci e]
  rw [this]
  exact r4
/-- the first of a row holds -/
theorem PH_set3 {D A : Nat → Nat → Int32} {F u b : Nat → Nat} {g : Nat} (hg : g < 8) (hm : 0 < nn A 44 g) (h : PH D A F u b) : ∃ c, c < 4 ∧ nn A 43 (4 * g) = c ∧ A 43 (4 * g) = nI c ∧ 1 < nn A 40 c ∧ PH D (au A 40 c 3) F u b := by
  obtain ⟨c, t, q1, q2, q3, q3', q4, q5, q6, q7, q8, _, _, q11⟩ := row_left h hg hm
  refine ⟨c, q1, q3', q3, q4, ?_⟩
  have e40 : ∀ s, s ≠ c → au A 40 c 3 40 s = A 40 s := fun s hs => au_s A _ _ _ hs
  have h40 : au A 40 c 3 40 c = nI 3 := au_hit A 40 c 3
  have hn : nn (au A 40 c 3) 40 c = 3 := nn_nI h40 (by decide)
  have er : ∀ k, k ≠ 40 → au A 40 c 3 k = A k := fun k hk => au_row A _ _ hk
  have lt1 : ∀ s, 1 < nn (au A 40 c 3) 40 s ↔ 1 < nn A 40 s := fun s => by
    by_cases e : s = c
    · subst e; rw [hn]; omega
    · rw [nn_e (e40 s e)]
  have e14 := er 14 (by decide)
  have e26 := er 26 (by decide)
  have e27 := er 27 (by decide)
  have e28 := er 28 (by decide)
  have e29 := er 29 (by decide)
  have e30 := er 30 (by decide)
  have e31 := er 31 (by decide)
  have e33 := er 33 (by decide)
  have e39 := er 39 (by decide)
  have e43 := er 43 (by decide)
  have e44 := er 44 (by decide)
  generalize au A 40 c 3 = B at *
  have eg : ∀ v, aGrp D B v = aGrp D A v := fun v => by unfold aGrp nn; rw [e30]
  refine ⟨fun v hv => J_same e14 e26 e27 e28 e29 e30 e33 (h.1 v hv), fun s hs4 => ?_, fun g' hg' => ?_, fun i hi hi1 hi2 => ?_⟩
  · by_cases e : s = c
    · subst e
      refine ⟨(ok_nI h40 (by decide) (by decide)).1, fun _ => ⟨t, ?_⟩⟩
      obtain ⟨s1, s2, s3, s4, s5, s6, s7, s8, s9, k, s10, s11, s12⟩ := q11
      refine ⟨s1, by rw [e39]; exact s2, by rw [e26]; exact s3, s4, by unfold nn; rw [e30]; exact s5, by unfold nn; rw [e29, e30]; exact s6, by unfold ok nn at *; rw [e31, e30]; exact s7, by unfold nn at *; rw [e31]; exact s8, by unfold nn; rw [e14, e30]; exact s9, k, by unfold nn; rw [eg, e44]; exact s10, by rw [eg, e43]; exact s11, fun _ => ?_⟩
      rw [q6] at s10 s11
      exact (h.2.2.1 g hg).2.2 k 0 s10 hm (by rw [s11]; exact q3.symm)
    · have h2 := h.2.1 s hs4
      refine ⟨by unfold ok; rw [nn_e (e40 s e), e40 s e]; exact h2.1, fun h3 => ?_⟩
      obtain ⟨v, h4⟩ := h2.2 ((lt1 s).mp h3)
      exact ⟨v, Sec_same e14 e26 e29 e30 (by rw [e31]) (by rw [e39]) (e40 s e) (fun k _ => by rw [e43]) (by unfold nn; rw [e44]; exact Nat.le_refl _) rfl h4⟩
  · obtain ⟨g1, g2, g3⟩ := h.2.2.1 g' hg'
    refine ⟨by unfold ok nn at *; rw [e44]; exact g1, fun k hk => ?_, fun k q hk hq hkq => ?_⟩
    · have hk : k < nn A 44 g' := by unfold nn at *; rw [e44] at hk; exact hk
      obtain ⟨s, v, p1, p2, p3, p4, p5, p6, p7, p8⟩ := g2 k hk
      exact ⟨s, v, p1, p2, by rw [e43]; exact p3, (lt1 s).mpr p4, by rw [e39]; exact p5, by rw [eg]; exact p6, fun k0 => by unfold nn at *; rw [e31]; exact p7 k0, fun q hq => by unfold nn at *; rw [e31, e43]; exact p8 q hq⟩
    · unfold nn at *
      rw [e44] at hk hq
      rw [e43] at hkq
      exact g3 k q hk hq hkq
  · rw [e26] at hi2
    obtain ⟨t0, m, R, r1, r2, r3, r4, r5⟩ := h.2.2.2 i hi hi1 hi2
    refine ⟨t0, m, R, r1, r2, by unfold nn at *; rw [e14]; exact r3, ?_, fun j hj hj2 => ?_⟩
    · have z1 : ∀ s, zb B F u s = zb A F u s := fun s => by
        unfold zb
        by_cases e : 1 < nn A 40 s
        · rw [if_pos e, if_pos ((lt1 s).mpr e)]
        · rw [if_neg e, if_neg (fun q => e ((lt1 s).mp q))]
      have z2 : ∀ j, pp D B j = pp D A j := fun j => by
        have : scd D B j = scd D A j := by
          unfold scd
          rw [e39]
          by_cases e : 1 < nn A 40 (nn D 15 j) ∧ A 39 (nn D 15 j) = nI j
          · rw [if_pos e, if_pos ⟨(lt1 _).mpr e.1, e.2⟩]
          · rw [if_neg e, if_neg (fun q => e ⟨(lt1 _).mp q.1, q.2⟩)]
        unfold pp
        rw [this]
        unfold nn
        rw [e29, e30]
      have z3 : zs D B i = zs D A i := by unfold zs; rw [e26]; exact sm_congr (fun j _ => by rw [z2])
      rw [z1, z3]
      exact r4
    · rw [e26, e27]
      unfold nn at *
      rw [e28]
      exact r5 j hj hj2
