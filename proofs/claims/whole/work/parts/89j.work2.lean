theorem J_same2 {D A A' : Nat → Nat → Int32} {t : Nat} (e14 : A' 14 = A 14) (e26 : A' 26 t = A 26 t) (e27 : A' 27 = A 27) (e28 : A' 28 = A 28) (e29 : A' 29 t = A 29 t) (e30 : A' 30 t = A 30 t) (e33 : A' 33 = A 33) (h : J D A t) : J D A' t := by
  unfold J ok nn at *
  rw [e14, e26, e27, e28, e29, e30, e33]
  exact h
theorem Sec_same2 {D A A' : Nat → Nat → Int32} {F F' : Nat → Nat} {c t : Nat} (e14 : A' 14 = A 14) (e26 : A' 26 t = A 26 t) (e29 : A' 29 t = A 29 t) (e30 : A' 30 t = A 30 t) (e31 : A' 31 t = A 31 t) (e39 : A' 39 c = A 39 c) (e40 : A' 40 c = A 40 c) (e43 : ∀ k, k < nn A 44 (aGrp D A t) → A' 43 (4 * aGrp D A t + k) = A 43 (4 * aGrp D A t + k)) (e44 : nn A 44 (aGrp D A t) ≤ nn A' 44 (aGrp D A t)) (eF : F' c = F c) (h : Sec D A F c t) : Sec D A' F' c t := by
  have eg : aGrp D A' t = aGrp D A t := by unfold aGrp nn; rw [e30]
  obtain ⟨h1, h2, h3, h4, h5, h6, h7, h8, h9, k, h10, h11, h12⟩ := h
  refine ⟨h1, by rw [e39]; exact h2, by rw [e26]; exact h3, h4, ?_, ?_, ?_, ?_, ?_, k, ?_, ?_, ?_⟩
  · unfold nn; rw [e30]; exact h5
  · unfold nn; rw [e29, e30]; exact h6
  · unfold ok nn at *; rw [e31, e30]; exact h7
  · unfold nn at *; rw [e31]; exact h8
  · rw [eF]; unfold nn; rw [e14, e30]; exact h9
  · rw [eg]; omega
  · rw [eg, e43 k h10]; exact h11
  · unfold nn; rw [e40]; exact h12
theorem qf_end {D : Nat → Nat → Int32} {t r : Nat} (h : cn D t ≤ r) : qf D t r = 0 := by
  have h3 : ∀ m, sm (fun _ => 0) m = 0 := fun m => by
    induction m with
    | zero => rfl
    | succ m ihm => rw [sm, ihm]
  unfold qf
  rw [sm_congr (g := fun _ => 0) (fun k hk => if_neg (fun q => by have := q.1; omega)), h3]
theorem qf_skips {D : Nat → Nat → Int32} {t : Nat} : ∀ (n r : Nat), (∀ q, r ≤ q → q < r + n → q < cn D t → ou D t q = false) → qf D t r = qf D t (r + n) := by
  intro n
  induction n with
  | zero => intro r _; rfl
  | succ n ih =>
    intro r hq
    rw [qf_skip (r := r) (fun q => by have := hq r (Nat.le_refl _) (by omega) q.1; rw [this] at q; exact absurd q.2 (by decide)), ih (r + 1) (fun q h1 h2 h3 => hq q (by omega) (by omega) h3), show r + 1 + n = r + (n + 1) by omega]
set_option maxHeartbeats 1000000 in
/-- a core works on its job -/
theorem PH_work {D A B : Nat → Nat → Int32} {F u b : Nat → Nat} {c t : Nat} (hST : ST D) (hc : c < 4) (ht : t < 16) (h1 : nn A 40 c = 1) (ho : A 26 t ≠ 0) (hon : D 15 t = nI c) (htop : ∀ v, v < 16 → A 26 v ≠ 0 → D 15 v = nI c → D 16 v ≤ D 16 t) (hnd : nn A 30 t < cn D t → nn A 29 t < af D t (nn A 30 t)) (hu : u c = nn A 14 13) (he : ∀ k, k ∈ [14, 27, 28, 30, 31, 33, 39, 40, 43, 44] → B k = A k) (e26 : ∀ s, s ≠ t → B 26 s = A 26 s) (e29 : ∀ s, s ≠ t → B 29 s = A 29 s) (h29 : B 29 t = nI (nn A 29 t + 1)) (hend : (B 26 t = 0 ∧ nn A 29 t + 1 = nn D 19 t ∧ nn A 30 t = cn D t) ∨ (B 26 t = A 26 t ∧ (nn A 29 t + 1 < nn D 19 t ∨ nn A 30 t < cn D t))) (h : PH D A F u b) : PH D B F (fun s => if s = c then nn A 14 13 + 1 else u s) b := by
  have e14 := he 14 (by decide)
  have e27 := he 27 (by decide)
  have e28 := he 28 (by decide)
  have e30 := he 30 (by decide)
  have e31 := he 31 (by decide)
  have e33 := he 33 (by decide)
  have e39 := he 39 (by decide)
  have e40 := he 40 (by decide)
  have e43 := he 43 (by decide)
  have e44 := he 44 (by decide)
  have hj := h.1 t ht ho
  obtain ⟨cc, w1, w2, w3, w4, w5, w6, w7, w8, w9, w10, w11, w12⟩ := core_of hST ht hj.1
  have hct : nn D 15 t = c := nn_nI hon (by omega)
  have hdw : nn A 29 t + 1 ≤ nn D 19 t := by
    by_cases e : nn A 30 t < cn D t
    · have q1 := hnd e
      rcases (hST.2.1 t _ ht e).2.2.2.2 with q | q
      · have := q.2.1; omega
      · rw [(hj.2.2.2.2.2.1 e).1] at q
        exact absurd q.1 (by decide)
    · rcases hend with q | q
      · omega
      · omega
  have hn29 : nn B 29 t = nn A 29 t + 1 := nn_nI h29 (by have := w10.2; omega)
  have hne : ∀ {v s : Nat}, D 15 v = nI s → s < 4 → s ≠ c → v ≠ t := fun {v s} q hs hsc e => hsc (nI_inj (by omega) (by omega) (by rw [← q, e, hon]))
  refine ⟨fun v hv => ?_, fun s hs4 => ?_, fun g hg => ?_, fun i hi hi1 hi2 => ?_⟩
  · by_cases e : v = t
    · subst e
      intro hov
      have n30 : nn B 30 v = nn A 30 v := by unfold nn; rw [e30]
      rcases hend with q | q
      · exact absurd q.1 hov
      · refine ⟨hj.1, by rw [e27]; exact hj.2.1, by unfold ok nn at *; rw [e28, e14]; exact hj.2.2.1, ⟨by rw [hn29]; exact h29, by omega⟩, by unfold ok nn at *; rw [e30]; exact hj.2.2.2.2.1, ?_, ?_, by unfold ok nn at *; rw [e33]; exact hj.2.2.2.2.2.2.2⟩
        · rw [n30, hn29]
          intro q2
          exact ⟨(hj.2.2.2.2.2.1 q2).1, hnd q2⟩
        · rw [n30, hn29]
          intro q2
          omega
    · exact J_same2 e14 (e26 v e) e27 e28 (e29 v e) (by rw [e30]) e33 (h.1 v hv)
  · have h2 := h.2.1 s hs4
    have n40 : nn B 40 s = nn A 40 s := by unfold nn; rw [e40]
    refine ⟨by unfold ok nn at *; rw [e40]; exact h2.1, fun h3 => ?_⟩
    obtain ⟨v, h4⟩ := h2.2 (by omega)
    have hvt : v ≠ t := hne h4.2.2.2.1 hs4 (fun e => by subst e; omega)
    exact ⟨v, Sec_same2 e14 (e26 v hvt) (e29 v hvt) (by rw [e30]) (by rw [e31]) (by rw [e39]) (by rw [e40]) (fun k _ => by rw [e43]) (by unfold nn; rw [e44]; exact Nat.le_refl _) rfl h4⟩
  · have := h.2.2.1 g hg
    unfold Rw aGrp ok nn at *
    rw [e30, e31, e39, e40, e43, e44]
    exact this
  · have hopen : ∀ j, B 26 j ≠ 0 → A 26 j ≠ 0 := fun j q => by
      by_cases e : j = t
      · rw [e]; exact ho
      · rw [e26 j e] at q; exact q
    have hi2' : ∃ j, j < 16 ∧ HP D i j ∧ A 26 j ≠ 0 := by
      obtain ⟨j, q1, q2, q3⟩ := hi2
      exact ⟨j, q1, q2, hopen j q3⟩
    obtain ⟨t0, m, R, r1, r2, r3, r4, r5⟩ := h.2.2.2 i hi hi1 hi2'
    obtain ⟨ci, k1, k2, k3, _⟩ := core_of hST hi hi1
    have esc : ∀ j, scd D B j = scd D A j := fun j => by unfold scd nn; rw [e39, e40]
    have epp : ∀ j, j ≠ t → pp D B j = pp D A j := fun j hjt => by
      unfold pp
      rw [esc, nn_e (e29 j hjt)]
      unfold nn
      rw [e30]
    refine ⟨t0, m, R, r1, r2, by unfold nn at *; rw [e14]; exact r3, ?_, fun j hj1 hj2 => ?_⟩
    · rw [k3] at r4 ⊢
      by_cases e : ci = c
      · subst e
        have hHP : HP D i t := top_HP hST ht hi hon hc k2 htop hi2'
        have n40 : nn B 40 ci = 1 := by unfold nn at *; rw [e40]; exact h1
        have z1 : zb A F u ci = nn A 14 13 := by unfold zb; rw [if_neg (by omega), hu]
        have z2 : zb B F (fun s => if s = ci then nn A 14 13 + 1 else u s) ci = nn A 14 13 + 1 := by unfold zb; rw [if_neg (by omega)]; exact if_pos rfl
        have z3 := sm_one (f := fun j => if (hp D i j = true ∨ j = i) ∧ A 26 j ≠ 0 then pp D A j else 0) (g := fun j => if (hp D i j = true ∨ j = i) ∧ B 26 j ≠ 0 then pp D B j else 0) ht (fun j hj hjt => by rw [e26 j hjt, epp j hjt])
        have c1 : (hp D i t = true ∨ t = i) ∧ A 26 t ≠ 0 := ⟨hHP, ho⟩
        rw [if_pos c1] at z3
        have sc0 : scd D A t = 0 := by unfold scd; rw [hct, if_neg (by omega)]
        have n30 : nn B 30 t = nn A 30 t := by unfold nn; rw [e30]
        have z5 : zs D B i + 1 = zs D A i := by
          unfold zs
          rcases hend with q | q
          · rw [if_neg (fun q2 => q2.2 q.1)] at z3
            have z4 : pp D A t = 1 := by
              unfold pp
              rw [sc0, qf_end (by omega)]
              omega
            omega
          · rw [if_pos ⟨hHP, by rw [q.1]; exact ho⟩] at z3
            have z4 : pp D A t = pp D B t + 1 := by
              unfold pp
              rw [esc, sc0, n30, hn29]
              omega
            omega
        rw [z1] at r4
        rw [z2]
        omega
      · have z1 : zb B F (fun s => if s = c then nn A 14 13 + 1 else u s) ci = zb A F u ci := by
          unfold zb nn
          rw [e40]
          dsimp only
          rw [if_neg e]
        have z2 : zs D B i = zs D A i := by
          unfold zs
          refine sm_congr (fun j hj => ?_)
          by_cases q : hp D i j = true ∨ j = i
          · have hjt : j ≠ t := fun ej => e (by
              have q3 := HP_core q
              rw [ej, hon, k2] at q3
              exact (nI_inj (by omega) (by omega) q3).symm)
            rw [e26 j hjt, epp j hjt]
          · rw [if_neg (fun q2 => q q2.1), if_neg (fun q2 => q q2.1)]
        rw [z1, z2]
        exact r4
    · have q := r5 j hj1 hj2
      rw [e27]
      have n28 : nn B 28 j = nn A 28 j := by unfold nn; rw [e28]
      rw [n28]
      by_cases e : j = t
      · subst e
        rcases q with q | q
        · exact absurd q.2 ho
        · exact Or.inr q
      · rw [e26 j e]
        exact q
