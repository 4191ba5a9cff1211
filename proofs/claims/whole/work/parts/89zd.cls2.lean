/-! PURE: the class lets the firsts hold; how long all is alike. -/
theorem cls_hold {N : Nat} {D A : Nat → Nat → Int32} {F : Nat → Nat} (hST : ST D) (h : CH D A F 4) : ∀ m n g σ, g + m = 8 → m < n → CSt D σ → RC D σ (aHoldL A g) → ∃ σ', f_X4_letFirstsHold_10 N n σ 8 (nI g) = some σ' ∧ RC D σ' (aHoldL A 8) ∧ FC σ σ' := by
  intro m
  induction m with
  | zero =>
    intro n g σ hg hn hC hR
    obtain ⟨n, rfl⟩ : ∃ n', n = n' + 1 := ⟨n - 1, by omega⟩
    obtain rfl : g = 8 := by omega
    exact ⟨σ, by rw [f_X4_letFirstsHold_10, if_pos e8], hR, FC_refl σ⟩
  | succ m ih =>
    intro n g σ hg hn hC hR
    obtain ⟨n, rfl⟩ : ∃ n', n = n' + 1 := ⟨n - 1, by omega⟩
    have hg8 : g < 8 := by omega
    obtain ⟨h1, h2, h3, h4, h5⟩ := hold_all h g (by omega)
    have hih := fun σ' => ih n (g + 1) σ' (by omega) (by omega)
    rw [aHoldL] at hih
    rw [f_X4_letFirstsHold_10, if_neg (z8 hg8), if_pos (i8 hg8), cl (i := g) (by omega)]
    obtain ⟨hT, hQ, hK, hS, hW, hB, hZ⟩ := hR
    have ok44 := (h1.2.2.1 g hg8).1
    generalize aHoldL A g = B at *
    by_cases h0 : B 44 g ≤ 0
    · rw [if_pos h0] at hih
      have hz : nn B 44 g = 0 := by
        have := ok44.2
        rw [ok44.1, show (0 : Int32) = nI 0 from rfl, nI_leI (by omega) (by decide)] at h0
        omega
      have hco : f_X2_coreAt σ g 0 = some (-1, σ) := by
        unfold f_X2_coreAt
        rw [if_neg (by decide), (hW g hg8).1, if_pos h0]
      rw [hco, Option.bind_some]
      dsimp only
      rw [if_pos rfl, f_X4_letFirstsHold_45, if_pos rfl, nI_1]
      exact hih σ hC ⟨hT, hQ, hK, hS, hW, hB, hZ⟩
    · rw [if_neg h0] at hih
      have hm : 0 < nn B 44 g := Nat.pos_of_ne_zero (fun e => h0 (by rw [ok44.1, e]; decide))
      obtain ⟨c, t, p1, p2, p3, p3', p4, p5, p6, p7, p8, _, _, ps⟩ := row_left h1 hg8 hm
      rw [Nat.add_zero] at p3 p3'
      rw [p3'] at hih
      have hco : f_X2_coreAt σ g 0 = some (nI c, σ) := by
        unfold f_X2_coreAt
        rw [if_neg (by decide), (hW g hg8).1, if_neg h0, if_pos (by decide)]
        have := (hW g hg8).2 0 hm
        rw [Nat.add_zero, p3] at this
        rw [show (0 : Int32).toNatClampNeg = 0 from rfl, this]
      have hst : σ 9 t 0 3 = B 40 c := by
        rcases hS.1 c p1 with w | ⟨u, u1, u2, u3, _⟩
        · rw [p5] at w
          exact absurd w.1 (nI_n1 (by omega))
        · rw [nI_inj (by omega) (by omega) (p5.symm.trans u2)]
          exact u3
      rw [hco, Option.bind_some]
      dsimp only
      rw [if_neg (nI_n1 (by omega)), if_pos (i4 p1), cl (i := c) (by omega), (hK c p1).1, p5, f_X4_letFirstsHold_45, if_neg (nI_n1 (by omega)), if_pos (i16 p2), cl (i := t) (by omega), hst, nI_1]
      have o40 := (h1.2.1 c p1).1
      by_cases h22 : B 40 c = 2
      · rw [if_pos h22, if_pos (i16 p2)]
        have hq := ps.2.2.2.2.1
        obtain ⟨j1, j2, j3, j4, j5, j6, j7, j8⟩ := h1.1 t p2 ps.2.2.1
        obtain ⟨_, _, _, _, _, _, _, _, _, _, _, _, k9⟩ := core_of hST p2 j1
        have hcn6 : cn D t ≤ 6 := k9.2
        have hsh : f_X3_startHolding σ t = some (ks_up (ks_up σ 9 t 0 3 3) 9 t 0 6 (B 31 t)) := by
          unfold f_X3_startHolding
          rw [cls_next (r := nn B 30 t) (by rw [ks_up_at, if_neg (by omega), (hT t p2).2.2.2.2.1]; exact j5.1) (by omega), Option.bind_some]
          dsimp only
          rw [ks_up_at σ 9 t 0 3 3 11, if_neg (by omega), (hQ t _ p2 hq).1 ps.2.2.1]
          rcases hS.2 t p2 with z | ⟨z1, _, z3⟩
          · rw [hst, h22] at z
            exact absurd z (by decide)
          · rw [z3 (by rw [hst]; exact h22)]
        rw [hsh, Option.bind_some]
        have F1 : FC σ (ks_up (ks_up σ 9 t 0 3 3) 9 t 0 6 (B 31 t)) := FC_up (by omega) (FC_up (by omega) (FC_refl σ))
        obtain ⟨σ', q1, q2, q3⟩ := hih _ (CSt_FC F1 hC) (by
          refine ⟨fun v hv => ?_, fun v r hv hr => ?_, fun s hs => ?_, ⟨fun s hs => ?_, fun v hv => ?_⟩, fun g' hg' => ?_, ?_, fun v r hv hr hr2 => ?_⟩
          · have := hT v hv
            by_cases e : v = t
            · subst e
              simp [ks_up_at, au] at this ⊢
              exact ⟨this.1, this.2.1, this.2.2.1, this.2.2.2.1, this.2.2.2.2.1, this.2.2.2.2.2.2⟩
            · simp [ks_up_at, au, e] at this ⊢
              exact this
          · have := hQ v r hv hr
            simp [ks_up_at, au] at this ⊢
            exact this
          · have := hK s hs
            simp [ks_up_at, au] at this ⊢
            exact this
          · by_cases e : s = c
            · subst e
              refine Or.inr ⟨t, p2, by simp [au]; exact p5, by simp [ks_up_at, au], ps.2.2.2.1⟩
            · rcases hS.1 s hs with ⟨z1, z2⟩ | ⟨v, v1, v2, v3, v4⟩
              · exact Or.inl ⟨by simp [au]; exact z1, by simp [au, e]; exact z2⟩
              · have hvt : v ≠ t := fun e2 => by
                  subst e2
                  exact e (nI_inj (by omega) (by omega) (v4.symm.trans ps.2.2.2.1))
                refine Or.inr ⟨v, v1, by simp [au]; exact v2, ?_, v4⟩
                simp [ks_up_at, au, e, hvt]
                exact v3
          · by_cases e : v = t
            · subst e
              exact Or.inr ⟨Or.inr (by simp [ks_up_at]), ⟨c, p1, by simp [au]; exact p5⟩, fun q => by simp [ks_up_at] at q⟩
            · rcases hS.2 v hv with z | ⟨z1, ⟨c', z2, z3⟩, z4⟩
              · exact Or.inl (by simp [ks_up_at, e]; exact z)
              · refine Or.inr ⟨by simp [ks_up_at, e]; exact z1, ⟨c', z2, by simp [au]; exact z3⟩, fun q => ?_⟩
                simp [ks_up_at, e] at q
                rw [nn_e (au_k B (k := 40) (k' := 30) c v 3 (by decide))]
                simp [au]
                exact z4 q
          · have := hW g' hg'
            rw [nn_e (au_k B (k := 40) (k' := 44) c g' 3 (by decide))]
            simp [ks_up_at, au] at this ⊢
            exact this
          · unfold RB at *
            simp [ks_up_at, au] at hB ⊢
            exact hB
          · have := hZ v r hv hr hr2
            simp [ks_up_at] at this ⊢
            exact this)
        exact ⟨σ', q1, q2, FC_trans F1 q3⟩
      · rw [if_neg h22]
        have h33 : B 40 c = 3 := by
          have := o40.2
          have h2' : nn B 40 c ≠ 2 := fun e => h22 (by rw [o40.1, e]; rfl)
          rw [o40.1, show nn B 40 c = 3 by omega]
          rfl
        rw [au_same h33] at hih
        exact hih σ hC ⟨hT, hQ, hK, hS, hW, hB, hZ⟩
theorem AL_mono {D M : Nat → Nat → Int32} {c r y : Nat} (hr : r ≤ y) (h : ∀ t, t < 16 → M 39 c = nI t → (nn M 40 c = 1 → nn M 29 t + y ≤ stp D M t) ∧ (nn M 40 c = 3 → y ≤ nn M 31 t)) : ∀ t, t < 16 → M 39 c = nI t → (nn M 40 c = 1 → nn M 29 t + r ≤ stp D M t) ∧ (nn M 40 c = 3 → r ≤ nn M 31 t) := fun t ht q => ⟨fun q1 => by have := (h t ht q).1 q1; omega, fun q1 => by have := (h t ht q).2 q1; omega⟩
theorem cls_alike {N : Nat} {D M : Nat → Nat → Int32} {σ : ks_S} {F u b : Nat → Nat} (hST : ST D) (hC : CSt D σ) (hR : RC D σ M) (hP : PH D M F u b) (hch : ∀ c, c < 4 → chosen D M c) : ∀ m n c y, c + m = 4 → m < n → 1 ≤ y → y ≤ 100000 → (∀ s, s < c → ∀ t, t < 16 → M 39 s = nI t → (nn M 40 s = 1 → nn M 29 t + y ≤ stp D M t) ∧ (nn M 40 s = 3 → y ≤ nn M 31 t)) → ∃ r, f_X4_ticksAlike_5 N n σ (nI y) (nI c) = some (nI r, σ) ∧ 1 ≤ r ∧ r ≤ y ∧ AL D M r := by
  obtain ⟨hT, hQ, hK, hS, hW, hB, hZ⟩ := hR
  intro m
  induction m with
  | zero =>
    intro n c y hc hn h1 h2 hA
    obtain ⟨n, rfl⟩ : ∃ n', n = n' + 1 := ⟨n - 1, by omega⟩
    obtain rfl : c = 4 := by omega
    exact ⟨y, by rw [f_X4_ticksAlike_5, if_pos e4], h1, Nat.le_refl _, fun s t hs ht q => hA s hs t ht q⟩
  | succ m ih =>
    intro n c y hc hn h1 h2 hA
    obtain ⟨n, rfl⟩ : ∃ n', n = n' + 1 := ⟨n - 1, by omega⟩
    have hc4 : c < 4 := by omega
    rw [f_X4_ticksAlike_5, if_neg (z4 hc4), if_pos (i4 hc4), cl (i := c) (by omega), (hK c hc4).1, nI_1]
    rcases mid_core hST hc4 hP (hch c hc4) with ⟨q1, q2⟩ | ⟨t, q1, q2, q3, q4, q5⟩
    · rw [if_pos q1]
      refine ih n (c + 1) y (by omega) (by omega) h1 h2 (fun s hs t ht q => ?_)
      by_cases e : s = c
      · subst e
        rw [q1] at q
        exact absurd q.symm (nI_n1 (by omega))
      · exact hA s (by omega) t ht q
    · have hst : σ 9 t 0 3 = M 40 c := by
        rcases hS.1 c hc4 with w | ⟨v, v1, v2, v3, _⟩
        · rw [q2] at w
          exact absurd w.1 (nI_n1 (by omega))
        · rw [nI_inj (by omega) (by omega) (q2.symm.trans v2)]
          exact v3
      have ht_of : ∀ v, v < 16 → M 39 c = nI v → v = t := fun v hv q => nI_inj (by omega) (by omega) (q.symm.trans q2)
      rw [q2, if_neg (nI_n1 (by omega)), if_pos (i16 q1), cl (i := t) (by omega), hst]
      obtain ⟨j1, j2, j3, j4, j5, j6, j7, j8⟩ := hP.1 t q1 q4
      obtain ⟨_, _, _, _, _, _, _, _, _, _, k7, k8, k9⟩ := core_of hST q1 j1
      have hcn6 : cn D t ≤ 6 := k9.2
      by_cases h22 : M 40 c = 2
      · rw [if_pos h22]
        refine ih n (c + 1) y (by omega) (by omega) h1 h2 (fun s hs v hv q => ?_)
        by_cases e : s = c
        · subst e
          have : nn M 40 s = 2 := nn_nI (n := 2) h22 (by decide)
          exact ⟨fun z => by omega, fun z => by omega⟩
        · exact hA s (by omega) v hv q
      · rw [if_neg h22, if_pos (i16 q1)]
        -- how long this core is alike
        have key : ∃ z, f_X3_ticksToChange σ t = some (nI z, σ) ∧ 1 ≤ z ∧ z ≤ 1000 ∧ (nn M 40 c = 1 → nn M 29 t + z ≤ stp D M t) ∧ (nn M 40 c = 3 → z ≤ nn M 31 t) := by
          unfold f_X3_ticksToChange
          rw [hst]
          rcases q5 with z | ⟨z | z, zs⟩
          · have n1 : nn M 40 c = 1 := nn_nI (n := 1) z (by decide)
            rw [if_neg (by rw [z]; decide)]
            rcases hC t q1 with ⟨_, w⟩ | ⟨a0, a1, a2, a3, a4, a5, a6, a7, a8⟩
            · exact absurd w j1
            · rw [a7, (hT t q1).2.2.2.2.1, a6, (hT t q1).2.2.2.1, show D 20 t = nI (cn D t) from k9.1, j5.1, j4.1]
              obtain ⟨v, v1, v2, v3, v4, v5, v6⟩ := (hch c hc4).1 n1
              have ev := ht_of v v1 v2
              subst ev
              by_cases hle : cn D v ≤ nn M 30 v
              · rw [if_pos (nI_le hle (by have := j5.2; omega)), k7.1, pk_sub j4.2]
                have he : nn M 30 v = cn D v := by have := j5.2; omega
                have hlt := j7 he
                refine ⟨nn D 19 v - nn M 29 v, rfl, by omega, by have := k7.2; omega, fun _ => ?_, fun w => by omega⟩
                unfold stp
                rw [if_neg (by omega)]
                omega
              · rw [if_neg (nI_ge (by omega) (by omega)), cls_next (r := nn M 30 v) (by rw [(hT v q1).2.2.2.2.1]; exact j5.1) (by omega), Option.bind_some]
                dsimp only
                have hs := hST.2.1 v _ q1 (show nn M 30 v < cn D v by omega)
                have haf : D 21 (6 * v + nn M 30 v) = nI (af D v (nn M 30 v)) := hs.1.1
                have hlt := v6 (by omega)
                rw [(a8 _ (by omega)).1, (hT v q1).2.2.2.1, haf, j4.1, pk_sub (by omega)]
                refine ⟨af D v (nn M 30 v) - nn M 29 v, rfl, by omega, by have : af D v (nn M 30 v) ≤ 1000 := hs.1.2; omega, fun _ => ?_, fun w => by omega⟩
                unfold stp
                rw [if_pos (by omega)]
                omega
          · exact absurd z h22
          · have n3 : nn M 40 c = 3 := nn_nI (n := 3) z (by decide)
            rw [if_pos z, (hT t q1).2.2.2.2.2.1 (by rw [hst]; exact h22)]
            have o31 := zs.2.2.2.2.2.2.1
            have hu : ln D t (nn M 30 t) ≤ 100 := (hST.2.1 t _ q1 zs.2.2.2.2.1).2.2.1.2
            exact ⟨nn M 31 t, by rw [← o31.1], zs.2.2.2.2.2.2.2.1, by have := o31.2; omega, fun w => by omega, fun _ => Nat.le_refl _⟩
        obtain ⟨z, z1, z2, z3, z4, z5⟩ := key
        rw [z1, Option.bind_some]
        dsimp only
        have hnew : ∀ y', y' ≤ y → y' ≤ z → ∀ s, s < c + 1 → ∀ v, v < 16 → M 39 s = nI v → (nn M 40 s = 1 → nn M 29 v + y' ≤ stp D M v) ∧ (nn M 40 s = 3 → y' ≤ nn M 31 v) := fun y' hy1 hy2 s hs v hv q => by
          by_cases e : s = c
          · subst e
            have ev := ht_of v hv q
            subst ev
            exact ⟨fun w => by have := z4 w; omega, fun w => by have := z5 w; omega⟩
          · exact AL_mono hy1 (hA s (by omega)) v hv q
        by_cases hzy : z < y
        · rw [if_pos (nI_lt hzy (by omega))]
          obtain ⟨r, r1, r2, r3, r4⟩ := ih n (c + 1) z (by omega) (by omega) z2 (by omega) (hnew z (by omega) (Nat.le_refl _))
          exact ⟨r, r1, r2, by omega, r4⟩
        · rw [if_neg (nI_nlt (by omega) (by omega))]
          exact ih n (c + 1) y (by omega) (by omega) h1 h2 (hnew y (Nat.le_refl _) (by omega))
