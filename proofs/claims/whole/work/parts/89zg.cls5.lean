/-! PURE: the class's tick. -/
theorem cls_core {N n : Nat} (hN : 16 < N) {D Y : Nat → Nat → Int32} {σ : ks_S} {c k : Nat} {x : Int32} (hST : ST D) (hSG : SG D) (hc : c < 4) (hC : CSt D σ) (hG : CGr D σ) (hR : RC D σ Y) (h4 : R4 Y) (hk : CK D Y c k) (hnow : σ 0 0 0 7 = Y 14 13 + 1) : ∃ σ', f_X4_workOn_4 N (n + 1) σ (nI k) x (nI c) = f_X4_workOn_4 N n σ' (nI k) (x + aGoRK D k Y c) (nI (c + 1)) ∧ RC D σ' (aGoK D k Y c) ∧ FC σ σ' := by
  obtain ⟨hT, hQ, hK, hS, hW, hB, hZ⟩ := hR
  have F1 : ∀ v, FC σ (ks_up σ 7 0 0 c v) := fun v => FC_up (by omega) (FC_refl σ)
  have hR1 : RC D (ks_up σ 7 0 0 c (Y 40 c)) (aTell Y c) := by
    have tl : ∀ k s, k ≠ 41 → k ≠ 42 → aTell Y c k s = Y k s := fun k s q1 q2 => tell_o q1 q2
    refine ⟨fun v hv => ?_, fun v r hv hr => ?_, fun z hz => ?_, ⟨fun z hz => ?_, fun v hv => ?_⟩, fun g' hg' => ?_, ?_, fun v r hv hr hr2 => ?_⟩
    · have := hT v hv
      simp [ks_up_at, tl] at this ⊢
      exact this
    · have := hQ v r hv hr
      simp [ks_up_at, tl] at this ⊢
      exact this
    · have := hK z hz
      by_cases e : z = c
      · subst e
        rw [(tell_41 Y z).2, ks_up_hit, ks_up_at, if_neg (by omega), tl 39 z (by decide) (by decide)]
        exact ⟨this.1, rfl⟩
      · have e42 : aTell Y c 42 z = Y 42 z := by
          unfold aTell
          rw [au_ne _ _ (by omega), au_k _ _ _ _ (by decide)]
        rw [e42, ks_up_at, if_neg (by omega), ks_up_at, if_neg (by omega), tl 39 z (by decide) (by decide)]
        exact this
    · have := hS.1 z hz
      simp [ks_up_at, tl] at this ⊢
      exact this
    · have := hS.2 v hv
      rw [nn_e (tl 30 v (by decide) (by decide))]
      simp [ks_up_at, tl] at this ⊢
      exact this
    · have := hW g' hg'
      rw [nn_e (tl 44 g' (by decide) (by decide))]
      simp [ks_up_at, tl] at this ⊢
      exact this
    · unfold RB at *
      rw [tl 45 0 (by decide) (by decide)]
      simp [ks_up_at] at hB ⊢
      exact hB
    · have := hZ v r hv hr hr2
      simp [ks_up_at] at this ⊢
      exact this
  rw [f_X4_workOn_4, if_neg (z4 hc), if_pos (i4 hc), cl (i := c) (by omega), (hK c hc).1]
  unfold aGoK aGoRK
  rcases hk with ⟨q1, q2⟩ | ⟨t, ht, q2, q3, q4⟩
  · have hneg : Y 39 c < 0 := by rw [q1]; decide
    rw [if_pos hneg, if_pos hneg, if_pos q1, f_X4_workOn_45, if_pos (i4 hc), if_pos q1, cl (i := c) (by omega), nI_1, Int32.add_zero]
    rw [q2] at hR1
    exact ⟨_, rfl, hR1, F1 _⟩
  · have hn : ¬ Y 39 c < 0 := by rw [q2]; exact nI_pos (by omega)
    have nt : nn Y 39 c = t := nn_nI q2 (by omega)
    have hst : σ 9 t 0 3 = Y 40 c := by
      rcases hS.1 c hc with w | ⟨v, v1, v2, v3, _⟩
      · rw [q2] at w
        exact absurd w.1 (nI_n1 (by omega))
      · rw [nI_inj (by omega) (by omega) (q2.symm.trans v2)]
        exact v3
    rw [if_neg hn, if_neg hn, nt, q2, if_neg (nI_n1 (by omega)), if_pos (i16 ht), cl (i := t) (by omega), hst, f_X4_workOn_45, if_pos (i4 hc), if_neg (nI_n1 (by omega)), if_pos (i16 ht), cl (i := t) (by omega), cl (i := c) (by omega), nI_1]
    have tl : ∀ k s, k ≠ 41 → k ≠ 42 → aTell Y c k s = Y k s := fun k s q1 q2 => tell_o q1 q2
    have tn : ∀ k s, k ≠ 41 → k ≠ 42 → nn (aTell Y c) k s = nn Y k s := fun k s q1 q2 => nn_e (tl k s q1 q2)
    have tk : ∀ k s b, k ≠ 41 → k ≠ 42 → ok Y k s b → ok (aTell Y c) k s b := fun k s b q1 q2 q => by
      unfold ok
      rw [tn k s q1 q2, tl k s q1 q2]
      exact q
    obtain ⟨s', w1, w2, w3⟩ := cls_job hN (k := k) hST hSG hc ht q3 (CSt_FC (F1 (Y 40 c)) hC) (CGr_FC (F1 (Y 40 c)) hG) hR1 (fun g hg => tk 44 g 4 (by decide) (by decide) (h4 g hg)) (by rw [tl 39 c (by decide) (by decide)]; exact q2) (by rw [ks_up_at, if_neg (by omega), tl 14 13 (by decide) (by decide)]; exact hnow) (by
      rw [tl 40 c (by decide) (by decide), tn 30 t (by decide) (by decide), tn 31 t (by decide) (by decide), tn 44 _ (by decide) (by decide)]
      rcases q4 with z | ⟨z1, z2, z3⟩ | ⟨z1, z2, z3, z4, z5, z6, z7⟩
      · exact Or.inl z
      · exact Or.inr (Or.inl ⟨z1, tk 30 t _ (by decide) (by decide) z2, z3⟩)
      · exact Or.inr (Or.inr ⟨z1, tk 30 t _ (by decide) (by decide) z2, z3, tk 31 t _ (by decide) (by decide) z4, z5, z7⟩))
    rw [w1, Option.bind_some]
    dsimp only
    refine ⟨s', ?_, w2, FC_trans (F1 _) w3⟩
    by_cases e : aEnds D (aDoK D k (aTell Y c) c t) c t = true
    · rw [if_pos e, if_neg (by decide)]
    · rw [if_neg e, if_pos rfl, Int32.add_zero]
/-- rows, seen from elsewhere -/
theorem go_rows {D Y : Nat → Nat → Int32} {c k g s : Nat} (h : CK D Y c k) (h4 : R4 Y) (hST : ST D) (hSG : SG D) (hs : s < 4) (hg : ∀ t, t < 16 → Y 39 c = nI t → Y 40 c = 3 → g ≠ gr D t (nn Y 30 t)) : aGoK D k Y c 44 g = Y 44 g ∧ aGoK D k Y c 43 (4 * g + s) = Y 43 (4 * g + s) := by
  unfold aGoK
  rcases h with ⟨q1, q2⟩ | ⟨t, ht, q2, q3, q4⟩
  · rw [if_pos (by rw [q1]; decide)]
    exact ⟨tell_o (by decide) (by decide), tell_o (by decide) (by decide)⟩
  · rw [if_neg (by rw [q2]; exact nI_pos (by omega)), nn_nI q2 (by omega), aFin_row (k := 44) (by decide) (by decide) (by decide) (by decide) (by decide), aFin_row (k := 43) (by decide) (by decide) (by decide) (by decide) (by decide)]
    have tl : ∀ k s, k ≠ 41 → k ≠ 42 → aTell Y c k s = Y k s := fun k s q1 q2 => tell_o q1 q2
    unfold aDoK
    rw [tl 40 c (by decide) (by decide)]
    rcases q4 with z | ⟨z1, z2, z3⟩ | ⟨z1, z2, z3, z4, z5, z6, z7⟩
    · rw [if_pos z, au_k _ _ _ _ (by decide), au_k _ _ _ _ (by decide)]
      exact ⟨tl _ _ (by decide) (by decide), tl _ _ (by decide) (by decide)⟩
    · rw [if_neg (by rw [z1]; decide), if_pos z1]
      unfold aSpinK
      rw [au_k _ _ _ _ (by decide), au_k _ _ _ _ (by decide), au_k _ _ _ _ (by decide), au_k _ _ _ _ (by decide)]
      exact ⟨tl _ _ (by decide) (by decide), tl _ _ (by decide) (by decide)⟩
    · rw [if_neg (by rw [z1]; decide), if_neg (by rw [z1]; decide)]
      have dl : ∀ a b, a ≠ 31 → a ≠ 41 → a ≠ 42 → aDecK k (aTell Y c) t a b = Y a b := fun a b q1 q2 q3 => by
        unfold aDecK
        rw [au_k _ _ _ _ q1]
        exact tl a b q2 q3
      split
      · have hne := hg t ht q2 z1
        have e30 : nn (aDecK k (aTell Y c) t) 30 t = nn Y 30 t := nn_e (dl 30 t (by decide) (by decide) (by decide))
        unfold aLeave aGrp
        rw [e30, au_k _ _ _ _ (by decide), au_k _ _ _ _ (by decide), au_ne _ _ (Or.inr hne), au_k _ _ _ _ (by decide), au_k _ _ _ _ (by decide), au_k _ _ _ _ (by decide), aShift_row (k := 44) (by decide)]
        refine ⟨dl _ _ (by decide) (by decide) (by decide), ?_⟩
        unfold aShift
        rw [if_neg, dl _ _ (by decide) (by decide) (by decide)]
        rintro ⟨_, w1, w2⟩
        rw [nn_e (dl 44 _ (by decide) (by decide) (by decide))] at w2
        have := (h4 _ (grp_lt hST hSG ht z3)).2
        omega
      · exact ⟨dl _ _ (by decide) (by decide) (by decide), dl _ _ (by decide) (by decide) (by decide)⟩
theorem R4_go {D Y : Nat → Nat → Int32} {c k : Nat} (h : CK D Y c k) (h4 : R4 Y) (hST : ST D) (hSG : SG D) : R4 (aGoK D k Y c) := by
  intro g hg
  have same : aGoK D k Y c 44 g = Y 44 g → ok (aGoK D k Y c) 44 g 4 := fun e => by
    unfold ok
    rw [nn_e e, e]
    exact h4 g hg
  rcases h with ⟨q1, q2⟩ | ⟨t, ht, q2, q3, q4⟩
  · exact same (go_rows (s := 0) (Or.inl ⟨q1, q2⟩) h4 hST hSG (by omega) (fun t ht q _ => by rw [q1] at q; exact absurd q.symm (nI_n1 (by omega)))).1
  · by_cases e : Y 40 c = 3 ∧ g = gr D t (nn Y 30 t)
    · obtain ⟨z1, z2⟩ := e
      rcases q4 with z | ⟨z, _⟩ | ⟨_, o30, hlt, o31, hk, h43, h44⟩
      · rw [z1] at z; exact absurd z (by decide)
      · rw [z1] at z; exact absurd z (by decide)
      · have tl : ∀ k s, k ≠ 41 → k ≠ 42 → aTell Y c k s = Y k s := fun k s q1 q2 => tell_o q1 q2
        have dl : ∀ a b, a ≠ 31 → a ≠ 41 → a ≠ 42 → aDecK k (aTell Y c) t a b = Y a b := fun a b q1 q2 q3 => by
          unfold aDecK
          rw [au_k _ _ _ _ q1]
          exact tl a b q2 q3
        have ok44 := h4 g hg
        have key : aGoK D k Y c 44 g = Y 44 g ∨ aGoK D k Y c 44 g = Y 44 g - 1 := by
          unfold aGoK
          rw [if_neg (by rw [q2]; exact nI_pos (by omega)), nn_nI q2 (by omega), aFin_row (k := 44) (by decide) (by decide) (by decide) (by decide) (by decide)]
          unfold aDoK
          rw [tl 40 c (by decide) (by decide), if_neg (by rw [z1]; decide), if_neg (by rw [z1]; decide)]
          split
          · have e30 : nn (aDecK k (aTell Y c) t) 30 t = nn Y 30 t := nn_e (dl 30 t (by decide) (by decide) (by decide))
            unfold aLeave aGrp
            rw [e30, ← z2, au_k _ _ _ _ (by decide), au_k _ _ _ _ (by decide), au_hit]
            exact Or.inr (by rw [dl _ _ (by decide) (by decide) (by decide)])
          · exact Or.inl (dl _ _ (by decide) (by decide) (by decide))
        rcases key with w | w
        · exact same w
        · rw [← z2] at h44
          obtain ⟨y, hy⟩ : ∃ y, nn Y 44 g = y + 1 := ⟨nn Y 44 g - 1, by omega⟩
          rw [ok44.1, hy, nI_pred] at w
          have := ok44.2
          exact (ok_nI w (by omega) (by decide)).1
    · refine same (go_rows (s := 0) (Or.inr ⟨t, ht, q2, q3, q4⟩) h4 hST hSG (by omega) (fun v hv q w1 w2 => ?_)).1
      have ev : v = t := nI_inj (by omega) (by omega) (q.symm.trans q2)
      subst ev
      exact e ⟨w1, w2⟩
theorem CK_go {D Y : Nat → Nat → Int32} {c c0 k : Nat} (hc : c < 4) (hc0 : c0 < 4) (hne : c ≠ c0) (hST : ST D) (hSG : SG D) (h4 : R4 Y) (h0 : CK D Y c0 k) (h : CK D Y c k) : CK D (aGoK D k Y c0) c k := by
  have hx : ∀ a b, (a = 39 ∨ a = 40 ∧ b ≠ c0 ∨ (a = 30 ∨ a = 31) ∧ D 15 b = nI c) → aGoK D k Y c0 a b = Y a b := fun a b hab => by
    refine aGoK_o ?_ (by omega) (by omega)
    rcases h0 with ⟨q1, q2⟩ | ⟨t, ht, q2, q3, q4⟩
    · exact Or.inl (by rw [q1]; decide)
    · refine Or.inr ⟨t, ht, q2, fun z => ?_, fun z => by omega⟩
      intro e
      subst e
      rcases hab with z2 | z2 | z2
      · omega
      · omega
      · exact hne (nI_inj (by omega) (by omega) (z2.2.symm.trans q3))
  unfold CK at h ⊢
  rw [hx 39 c (Or.inl rfl), hx 40 c (Or.inr (Or.inl ⟨rfl, hne⟩))]
  rcases h with q | ⟨t, ht, q2, q3, q4⟩
  · exact Or.inl q
  · refine Or.inr ⟨t, ht, q2, q3, ?_⟩
    have e30 := hx 30 t (Or.inr (Or.inr ⟨Or.inl rfl, q3⟩))
    have e31 := hx 31 t (Or.inr (Or.inr ⟨Or.inr rfl, q3⟩))
    unfold ok
    rw [nn_e e30, nn_e e31, e30, e31]
    rcases q4 with z | ⟨z1, z2, z3⟩ | ⟨z1, z2, z3, z4, z5, z6, z7⟩
    · exact Or.inl z
    · exact Or.inr (Or.inl ⟨z1, z2, z3⟩)
    · have gr0 := go_rows (g := gr D t (nn Y 30 t)) (s := 0) h0 h4 hST hSG (by omega) (fun u hu w1 w2 w3 => by
        rcases h0 with ⟨q1, _⟩ | ⟨v, hv, v2, v3, v4⟩
        · rw [w1] at q1
          exact absurd q1 (nI_n1 (by omega))
        · have ev : v = u := nI_inj (by omega) (by omega) (v2.symm.trans w1)
          subst ev
          rcases v4 with y | ⟨y, _⟩ | ⟨_, _, _, _, _, y6, _⟩
          · rw [w2] at y; exact absurd y (by decide)
          · rw [w2] at y; exact absurd y (by decide)
          · rw [← w3] at y6
            exact hne (nI_inj (by omega) (by omega) (z6.symm.trans y6)))
      rw [Nat.add_zero] at gr0
      refine Or.inr (Or.inr ⟨z1, z2, z3, z4, z5, ?_, ?_⟩)
      · rw [gr0.2]; exact z6
      · rw [nn_e gr0.1]; exact z7
theorem go_now {D Y : Nat → Nat → Int32} {k c : Nat} : aGoK D k Y c 14 = Y 14 := by
  unfold aGoK
  split
  · exact aTell_row (by decide) (by decide)
  · rw [aFin_row (by decide) (by decide) (by decide) (by decide) (by decide)]
    unfold aDoK
    split
    · rw [au_row _ _ _ (by decide), aTell_row (by decide) (by decide)]
    · split
      · unfold aSpinK
        rw [au_row _ _ _ (by decide), au_row _ _ _ (by decide), aTell_row (by decide) (by decide)]
      · split
        · unfold aLeave aDecK
          rw [au_row _ _ _ (by decide), au_row _ _ _ (by decide), au_row _ _ _ (by decide), aShift_row (by decide), au_row _ _ _ (by decide), aTell_row (by decide) (by decide)]
        · unfold aDecK
          rw [au_row _ _ _ (by decide), aTell_row (by decide) (by decide)]
theorem cls_work {N : Nat} (hN : 16 < N) {D Y : Nat → Nat → Int32} {σ : ks_S} {k : Nat} (hST : ST D) (hSG : SG D) (hC : CSt D σ) (hG : CGr D σ) (hR : RC D σ Y) (h4 : R4 Y) (hk : ∀ c, c < 4 → CK D Y c k) (hnow : σ 0 0 0 7 = Y 14 13 + 1) : ∃ σ', f_X4_workOn N σ (nI k) = some (gR D k Y 0, σ') ∧ RC D σ' (gK D k Y) ∧ FC σ σ' := by
  obtain ⟨n0, hn0⟩ : ∃ n0, N = n0 + 5 := ⟨N - 5, by omega⟩
  have e : f_X4_workOn N σ (nI k) = f_X4_workOn_4 N (n0 + 5) σ (nI k) 0 (nI 0) := by
    rw [← hn0]
    rfl
  have z0 : ∀ {σ σ' : ks_S}, FC σ σ' → σ' 0 = σ 0 := fun h => h.1 0 (by decide) (by decide) (by decide) (by decide) (by decide) (by decide)
  obtain ⟨σ1, a1, r1, f1⟩ := cls_core hN (n := n0 + 4) (x := 0) hST hSG (show 0 < 4 by omega) hC hG hR h4 (hk 0 (by omega)) hnow
  have h41 := R4_go (hk 0 (by omega)) h4 hST hSG
  have hk1 : ∀ c, c < 4 → c ≠ 0 → CK D (aGoK D k Y 0) c k := fun c hc hne => CK_go hc (by omega) hne hST hSG h4 (hk 0 (by omega)) (hk c hc)
  have n1 : σ1 0 0 0 7 = aGoK D k Y 0 14 13 + 1 := by rw [z0 f1, go_now]; exact hnow
  obtain ⟨σ2, a2, r2, f2⟩ := cls_core hN (n := n0 + 3) (x := 0 + aGoRK D k Y 0) hST hSG (show 1 < 4 by omega) (CSt_FC f1 hC) (CGr_FC f1 hG) r1 h41 (hk1 1 (by omega) (by omega)) n1
  have h42 := R4_go (hk1 1 (by omega) (by omega)) h41 hST hSG
  have hk2 : ∀ c, c < 4 → c ≠ 0 → c ≠ 1 → CK D (aGoK D k (aGoK D k Y 0) 1) c k := fun c hc hne hne1 => CK_go hc (by omega) hne1 hST hSG h41 (hk1 1 (by omega) (by omega)) (hk1 c hc hne)
  have n2 : σ2 0 0 0 7 = aGoK D k (aGoK D k Y 0) 1 14 13 + 1 := by rw [z0 f2, go_now]; exact n1
  have f12 := FC_trans f1 f2
  obtain ⟨σ3, a3, r3, f3⟩ := cls_core hN (n := n0 + 2) (x := 0 + aGoRK D k Y 0 + aGoRK D k (aGoK D k Y 0) 1) hST hSG (show 2 < 4 by omega) (CSt_FC f12 hC) (CGr_FC f12 hG) r2 h42 (hk2 2 (by omega) (by omega) (by omega)) n2
  have h43 := R4_go (hk2 2 (by omega) (by omega) (by omega)) h42 hST hSG
  have hk3 : CK D (aGoK D k (aGoK D k (aGoK D k Y 0) 1) 2) 3 k := CK_go (by omega) (by omega) (by omega) hST hSG h42 (hk2 2 (by omega) (by omega) (by omega)) (hk2 3 (by omega) (by omega) (by omega))
  have n3 : σ3 0 0 0 7 = aGoK D k (aGoK D k (aGoK D k Y 0) 1) 2 14 13 + 1 := by rw [z0 f3, go_now]; exact n2
  have f123 := FC_trans f12 f3
  obtain ⟨σ4, a4, r4, f4⟩ := cls_core hN (n := n0 + 1) (x := 0 + aGoRK D k Y 0 + aGoRK D k (aGoK D k Y 0) 1 + aGoRK D k (aGoK D k (aGoK D k Y 0) 1) 2) hST hSG (show 3 < 4 by omega) (CSt_FC f123 hC) (CGr_FC f123 hG) r3 h43 hk3 n3
  refine ⟨σ4, ?_, r4, FC_trans f123 f4⟩
  rw [e, a1, a2, a3, a4, f_X4_workOn_4, if_pos e4]
  rfl
