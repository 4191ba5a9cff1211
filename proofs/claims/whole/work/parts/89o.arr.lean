/-! PURE: a job comes. -/
/-- while a job is on, its next one may not come -/
theorem BT_on {D A : Nat → Nat → Int32} {F : Nat → Nat} {t : Nat} (hST : ST D) (ht : t < 16) (ho : A 26 t ≠ 0) (h : BT D A F) : nn A 14 13 + 1 ≤ nn A 28 t + nn D 17 t := by
  have hj := h.1.1 t ht ho
  obtain ⟨_, _, _, _, _, _, _, _, _, k9, _⟩ := core_of hST ht hj.1
  obtain ⟨t0, m, R, r1, r2, r3, r4, r5⟩ := h.1.2.2.2 t ht hj.1 ⟨t, ht, Or.inr rfl, ho⟩
  rcases r5 t ht (Or.inr rfl) with q | q
  · exact absurd q.2 ho
  · have := q.2.2
    omega
theorem blk_ge {D : Nat → Nat → Int32} {i t r : Nat} (ht : t < 16) (hc : D 15 t = D 15 i) (hp : nn D 16 t < nn D 16 i) (hr : r < cn D t) (ho : ou D t r = true) : ln D t r + spn D t r - 1 ≤ blk D i := by
  have h1 := mx_ge (f := fun r => if ou D t r = true then ln D t r + spn D t r - 1 else 0) hr
  simp only [ho, if_true] at h1
  have h2 := mx_ge (f := fun t => if D 15 t = D 15 i ∧ nn D 16 t < nn D 16 i then mx (fun r => if ou D t r = true then ln D t r + spn D t r - 1 else 0) (cn D t) else 0) ht
  simp only [hc, hp, and_self, if_true] at h2
  exact Nat.le_trans h1 h2
set_option maxHeartbeats 2000000 in
theorem BT_arrive {D A B : Nat → Nat → Int32} {F : Nat → Nat} {t x : Nat} (hST : ST D) (hSR : SR D) (ht : t < 16) (hth : D 15 t ≠ -1) (hcl : A 26 t = 0) (hnow : A 14 13 = nI (nn A 14 13)) (hTM : ∀ v, v < 16 → A 27 v ≠ 0 → nn A 28 v ≤ nn A 14 13) (hper : A 27 t ≠ 0 → nn A 28 t + nn D 17 t ≤ nn A 14 13) (he : ∀ k, k ∈ [14, 31, 39, 40, 43, 44] → B k = A k) (e26 : ∀ s, s ≠ t → B 26 s = A 26 s) (h26 : B 26 t ≠ 0) (e27 : ∀ s, s ≠ t → B 27 s = A 27 s) (h27 : B 27 t ≠ 0) (e28 : ∀ s, s ≠ t → B 28 s = A 28 s) (h28 : B 28 t = A 14 13) (e29 : ∀ s, s ≠ t → B 29 s = A 29 s) (h29 : B 29 t = nI 0) (e30 : ∀ s, s ≠ t → B 30 s = A 30 s) (h30 : B 30 t = nI x) (hx : x ≤ cn D t) (hx2 : ∀ q, q < x → ou D t q = false) (hx3 : x < cn D t → ou D t x = true) (e33 : ∀ v r, v ≠ t → r < 6 → B 33 (6 * v + r) = A 33 (6 * v + r)) (h33 : ∀ r, r < cn D t → ok B 33 (6 * t + r) (ln D t r) ∧ 1 ≤ nn B 33 (6 * t + r)) (h : BT D A F) : BT D B F := by
  have e14 := he 14 (by decide)
  have e31 := he 31 (by decide)
  have e39 := he 39 (by decide)
  have e40 := he 40 (by decide)
  have e43 := he 43 (by decide)
  have e44 := he 44 (by decide)
  have n14 : nn B 14 13 = nn A 14 13 := by unfold nn; rw [e14]
  have n40 : ∀ s, nn B 40 s = nn A 40 s := fun s => by unfold nn; rw [e40]
  have n31 : ∀ s, nn B 31 s = nn A 31 s := fun s => by unfold nn; rw [e31]
  have n44 : ∀ s, nn B 44 s = nn A 44 s := fun s => by unfold nn; rw [e44]
  have n43 : ∀ s, nn B 43 s = nn A 43 s := fun s => by unfold nn; rw [e43]
  have n28t : nn B 28 t = nn A 14 13 := nn_e h28
  have n29t : nn B 29 t = 0 := nn_nI h29 (by decide)
  obtain ⟨c, w1, w2, w3, w4, w5, w6, w7, w8, w9, w10, w11, w12⟩ := core_of hST ht hth
  have hcn : cn D t ≤ 6 := w12.2
  have n30t : nn B 30 t = x := nn_nI h30 (by omega)
  obtain ⟨h0, hsl⟩ := h
  have hvt : ∀ v, A 26 v ≠ 0 → v ≠ t := fun v hv e => hv (by rw [e]; exact hcl)
  have hat : ∀ s, s < 4 → 1 < nn A 40 s → A 39 s ≠ nI t := fun s hs hs2 q => by
    obtain ⟨v, hv⟩ := (h0.2.1 s hs).2 hs2
    exact hvt v hv.2.2.1 (nI_inj (by have := hv.1; omega) (by omega) (hv.2.1.symm.trans q))
  refine ⟨⟨fun v hv => ?_, fun s hs => ?_, fun g hg => ?_, fun i hi hi1 hi2 => ?_⟩, fun s v hs q1 q2 q3 => ?_⟩
  · by_cases e : v = t
    · subst e
      intro _
      refine ⟨hth, h27, ⟨by rw [n28t, h28]; exact hnow, by rw [n28t, n14]; exact Nat.le_refl _⟩, ⟨by rw [n29t]; exact h29, by omega⟩, ⟨by rw [n30t]; exact h30, by omega⟩, ?_, ?_, h33⟩
      · rw [n30t, n29t]
        exact fun q => ⟨hx3 q, Nat.zero_le _⟩
      · rw [n29t]
        intro _
        omega
    · intro ho
      rw [e26 v e] at ho
      obtain ⟨j1, j2, j3, j4, j5, j6, j7, j8⟩ := h0.1 v hv ho
      obtain ⟨_, _, _, _, _, _, _, _, _, _, _, _, v12⟩ := core_of hST hv j1
      have hcv : cn D v ≤ 6 := v12.2
      refine ⟨j1, by rw [e27 v e]; exact j2, ⟨by rw [nn_e (e28 v e), e28 v e]; exact j3.1, by rw [nn_e (e28 v e), n14]; exact j3.2⟩, ⟨by rw [nn_e (e29 v e), e29 v e]; exact j4.1, by rw [nn_e (e29 v e)]; exact j4.2⟩, ⟨by rw [nn_e (e30 v e), e30 v e]; exact j5.1, by rw [nn_e (e30 v e)]; exact j5.2⟩, by rw [nn_e (e30 v e), nn_e (e29 v e)]; exact j6, by rw [nn_e (e30 v e), nn_e (e29 v e)]; exact j7, fun r hr => ?_⟩
      have q := e33 v r e (by omega)
      unfold ok
      rw [nn_e q, q]
      exact j8 r hr
  · obtain ⟨q1, q2⟩ := h0.2.1 s hs
    refine ⟨by unfold ok; rw [n40, e40]; exact q1, fun q => ?_⟩
    obtain ⟨v, hv⟩ := q2 (by rw [n40] at q; exact q)
    have e := hvt v hv.2.2.1
    exact ⟨v, Sec_same2 e14 (e26 v e) (e29 v e) (e30 v e) (by rw [e31]) (by rw [e39]) (by rw [e40]) (fun k _ => by rw [e43]) (by rw [n44]; exact Nat.le_refl _) rfl hv⟩
  · obtain ⟨g1, g2, g3⟩ := h0.2.2.1 g hg
    refine ⟨by unfold ok; rw [n44, e44]; exact g1, fun k hk => ?_, fun k q hk hq hkq => ?_⟩
    · rw [n44] at hk
      obtain ⟨s, v, p1, p2, p3, p3', p4, p5, p6, p7, p8, _, _, p11⟩ := row_left h0 hg hk
      have e := hvt v p11.2.2.1
      have eg : aGrp D B v = aGrp D A v := by unfold aGrp; rw [nn_e (e30 v e)]
      exact ⟨s, v, p1, p2, by rw [e43]; exact p3, by rw [n40]; exact p4, by rw [e39]; exact p5, by rw [eg]; exact p6, fun k0 => by rw [n31, n14]; exact p7 k0, fun q hq => by rw [n31, n43]; exact p8 q hq⟩
    · rw [n44] at hk hq
      rw [e43] at hkq
      exact g3 k q hk hq hkq
  · obtain ⟨ci, k1, k2, k3, k4, k5, k6, k7, k8, k9, k10, k11, _⟩ := core_of hST hi hi1
    have ezb : zb B F (fun _ => nn B 14 13) (nn D 15 i) = zb A F (fun _ => nn A 14 13) (nn D 15 i) := by
      unfold zb
      rw [n40, n14]
    have esc : ∀ j, scd D B j = scd D A j := fun j => by unfold scd; rw [n40, e39]
    have epp : ∀ j, j ≠ t → pp D B j = pp D A j := fun j e => by unfold pp; rw [esc, nn_e (e29 j e), nn_e (e30 j e)]
    have ppt : pp D B t = infl D t := by
      have sc : scd D B t = 0 := by
        unfold scd
        rw [w3, if_neg]
        rw [n40, e39]
        exact fun q => hat c w1 q.1 q.2
      unfold pp infl
      rw [sc, n29t, n30t, Nat.add_zero, Nat.sub_zero]
      have := qf_skips (D := D) (t := t) x 0 (fun q q1 q2 _ => hx2 q (by omega))
      rw [Nat.zero_add] at this
      rw [this]
    by_cases hH : HP D i t
    · have z3 := sm_one (f := fun j => if (hp D i j = true ∨ j = i) ∧ A 26 j ≠ 0 then pp D A j else 0) (g := fun j => if (hp D i j = true ∨ j = i) ∧ B 26 j ≠ 0 then pp D B j else 0) ht (fun j _ e => by rw [e26 j e, epp j e])
      have c1 : ¬ ((hp D i t = true ∨ t = i) ∧ A 26 t ≠ 0) := fun q => q.2 hcl
      have c2 : (hp D i t = true ∨ t = i) ∧ B 26 t ≠ 0 := ⟨hH, h26⟩
      rw [if_neg c1, if_pos c2, ppt] at z3
      have zz : zs D B i = zs D A i + infl D t := by unfold zs; omega
      by_cases hw : ∃ j, j < 16 ∧ HP D i j ∧ A 26 j ≠ 0
      · obtain ⟨t0, m, R, r1, r2, r3, r4, r5⟩ := h0.2.2.2 i hi hi1 hw
        have ht0 : t0 ≤ nn A 14 13 := by
          obtain ⟨j, j1, j2, j3⟩ := hw
          rcases r5 j j1 j2 with q | q
          · exact absurd q.2 j3
          · have := hTM j j1 q.2.1
            have := q.2.2
            omega
        refine ⟨t0, fun j => if j = t then m t + 1 else m j, R, r1, r2, by rw [n14]; exact r3, ?_, fun j hj hj2 => ?_⟩
        · have y := sm_one (f := fun j => if hp D i j = true ∨ j = i then m j * infl D j else 0) (g := fun j => if hp D i j = true ∨ j = i then (fun j => if j = t then m t + 1 else m j) j * infl D j else 0) ht (fun j _ e => by dsimp only; rw [if_neg e])
          have c3 : hp D i t = true ∨ t = i := hH
          dsimp only at y ⊢
          rw [if_pos c3, if_pos c3, if_pos rfl, Nat.succ_mul] at y
          rw [ezb, zz]
          omega
        · by_cases e : j = t
          · subst e
            refine Or.inr ⟨by dsimp only; rw [if_pos rfl]; omega, h27, ?_⟩
            dsimp only
            rw [if_pos rfl, n28t, Nat.add_sub_cancel]
            rcases r5 j hj hj2 with q | q
            · rw [q.1]; omega
            · have q2 := hper q.2.1
              have q3 := q.2.2
              obtain ⟨n, hn⟩ : ∃ n, m j = n + 1 := ⟨m j - 1, by omega⟩
              rw [hn, Nat.add_sub_cancel] at q3
              rw [hn, Nat.succ_mul]
              omega
          · dsimp only
            rw [if_neg e, e26 j e, e27 j e, nn_e (e28 j e)]
            exact r5 j hj hj2
      · obtain ⟨R, r1, r2⟩ := hSR i hi hi1
        have zA : zs D A i = 0 := by
          have h3 : ∀ m, sm (fun _ => 0) m = 0 := fun m => by
            induction m with
            | zero => rfl
            | succ m ihm => rw [sm, ihm]
          unfold zs
          rw [sm_congr (g := fun _ => 0) (fun j hj => if_neg (fun q => hw ⟨j, hj, q.1, q.2⟩)), h3]
        have zB : zb A F (fun _ => nn A 14 13) (nn D 15 i) ≤ nn A 14 13 + blk D i := by
          rw [k3]
          unfold zb
          by_cases q : 1 < nn A 40 ci
          · rw [if_pos q]
            obtain ⟨v, hv⟩ := (h0.2.1 ci k1).2 q
            have b1 := hsl ci v k1 q hv.2.1 hv.1
            have hvi : ¬ HP D i v := fun q2 => hw ⟨v, hv.1, q2, hv.2.2.1⟩
            have hlt : nn D 16 v < nn D 16 i := by
              have n1 : v ≠ i := fun q2 => hvi (Or.inr q2)
              have n2 := hST.2.2 v i hv.1 hi n1 (hv.2.2.2.1.trans k2.symm) (by rw [hv.2.2.2.1, ← k2]; exact hi1)
              have n3 : ¬ nn D 16 i < nn D 16 v := fun q2 => hvi (Or.inl (by unfold hp; rw [decide_eq_true_eq]; exact ⟨hv.2.2.2.1.trans k2.symm, q2⟩))
              omega
            have b2 := blk_ge hv.1 (hv.2.2.2.1.trans k2.symm) hlt hv.2.2.2.2.1 ((h0.1 v hv.1 hv.2.2.1).2.2.2.2.2.1 hv.2.2.2.2.1).1
            omega
          · rw [if_neg q]
            exact Nat.le_add_right _ _
        have hi1' : 1 ≤ infl D i := by unfold infl; omega
        refine ⟨nn A 14 13, fun j => if j = t then 1 else 0, R, r1, r2, by rw [n14]; omega, ?_, fun j hj hj2 => ?_⟩
        · have y := sm_ge (f := fun j => if hp D i j = true ∨ j = i then (fun j => if j = t then 1 else 0) j * infl D j else 0) ht
          have c3 : hp D i t = true ∨ t = i := hH
          dsimp only at y ⊢
          rw [if_pos c3, if_pos rfl, Nat.one_mul] at y
          rw [ezb, zz, zA]
          omega
        · by_cases e : j = t
          · subst e
            exact Or.inr ⟨by dsimp only; rw [if_pos rfl]; exact Nat.le_refl _, h27, by dsimp only; rw [if_pos rfl, n28t]; omega⟩
          · refine Or.inl ⟨if_neg e, ?_⟩
            rw [e26 j e]
            cases Decidable.em (A 26 j = 0) with
            | inl q => exact q
            | inr q => exact absurd ⟨j, hj, hj2, q⟩ hw
    · have hne : ∀ j, HP D i j → j ≠ t := fun j q e => hH (by rw [← e]; exact q)
      have hw : ∃ j, j < 16 ∧ HP D i j ∧ A 26 j ≠ 0 := by
        obtain ⟨j, j1, j2, j3⟩ := hi2
        exact ⟨j, j1, j2, by rw [e26 j (hne j j2)] at j3; exact j3⟩
      obtain ⟨t0, m, R, r1, r2, r3, r4, r5⟩ := h0.2.2.2 i hi hi1 hw
      have zz : zs D B i = zs D A i := by
        unfold zs
        refine sm_congr (fun j _ => ?_)
        by_cases q : hp D i j = true ∨ j = i
        · rw [e26 j (hne j q), epp j (hne j q)]
        · rw [if_neg (fun q2 => q q2.1), if_neg (fun q2 => q q2.1)]
      refine ⟨t0, m, R, r1, r2, by rw [n14]; exact r3, by rw [ezb, zz]; exact r4, fun j hj hj2 => ?_⟩
      have e := hne j hj2
      rw [e26 j e, e27 j e, nn_e (e28 j e)]
      exact r5 j hj hj2
  · rw [n40] at q1
    rw [e39] at q2
    obtain ⟨w, hw⟩ := (h0.2.1 s hs).2 q1
    have ew : w = v := nI_inj (by have := hw.1; omega) (by omega) (hw.2.1.symm.trans q2)
    subst ew
    have e := hvt w hw.2.2.1
    rw [n14, nn_e (e30 w e)]
    exact hsl s w hs q1 q2 q3
