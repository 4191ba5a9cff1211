/-! PURE: response. -/
theorem div_le' {x d : Nat} (hx : 1 ≤ x) (hd : 1 ≤ d) : (x + d - 1) / d ≤ x := by
  obtain ⟨y, rfl⟩ : ∃ y, x = y + 1 := ⟨x - 1, by omega⟩
  obtain ⟨e, rfl⟩ : ∃ e, d = e + 1 := ⟨d - 1, by omega⟩
  refine Nat.div_le_of_le_mul ?_
  rw [Nat.add_mul, Nat.mul_add, Nat.one_mul, Nat.mul_one]
  omega
theorem infl4000 {D : Nat → Nat → Int32} {t : Nat} (hST : ST D) (ht : t < 16) (hth : D 15 t ≠ -1) : infl D t ≤ 4000 ∧ 1 ≤ infl D t := by
  obtain ⟨_, _, _, _, _, _, _, _, _, _, k7, k8, _⟩ := core_of hST ht hth
  have := qZ500 hST ht (Nat.le_refl (cn D t))
  have := k7.2
  rw [infl_qZ]
  omega
def dQ (D : Nat → Nat → Int32) (i x : Nat) : Nat → Nat := fun j => if hp D i j = true then (x + nn D 17 j - 1) / nn D 17 j * infl D j else 0
theorem dem_dQ (D : Nat → Nat → Int32) (i x : Nat) : dem D i x = sm (dQ D i x) 16 := rfl
theorem hp_there {D : Nat → Nat → Int32} {i j : Nat} (hth : D 15 i ≠ -1) (h : hp D i j = true) : D 15 j ≠ -1 ∧ D 15 j = D 15 i ∧ nn D 16 i < nn D 16 j := by
  unfold hp at h
  rw [decide_eq_true_eq] at h
  exact ⟨by rw [h.1]; exact hth, h.1, h.2⟩
theorem dQ_le {D : Nat → Nat → Int32} {i x : Nat} (hST : ST D) (hth : D 15 i ≠ -1) (hx1 : 1 ≤ x) (hx : x ≤ 10000) : ∀ n, n ≤ 16 → sm (dQ D i x) n ≤ n * 40000000 := by
  intro n hn
  refine sm_le (fun j hj => ?_)
  unfold dQ
  split
  · rename_i h
    have h1 := hp_there hth h
    obtain ⟨_, _, _, _, _, _, k3, _⟩ := core_of hST (show j < 16 by omega) h1.1
    have h2 := (infl4000 hST (show j < 16 by omega) h1.1).1
    have h3 := div_le' hx1 k3
    calc (x + nn D 17 j - 1) / nn D 17 j * infl D j ≤ 10000 * 4000 := Nat.mul_le_mul (by omega) h2
      _ = 40000000 := by decide
  · omega
theorem dem_mono {D : Nat → Nat → Int32} {i x y : Nat} (h : x ≤ y) : dem D i x ≤ dem D i y := by
  rw [dem_dQ, dem_dQ]
  refine sm_mono (fun j _ => ?_)
  unfold dQ
  split
  · exact Nat.mul_le_mul_right _ (Nat.div_le_div_right (by omega))
  · exact Nat.le_refl _
/-- v is the response of task i -/
def RV (D : Nat → Nat → Int32) (i : Nat) (v : Int32) : Prop := (∃ R, v = nI R ∧ R ≤ nn D 18 i ∧ R = blk D i + infl D i + dem D i R ∧ ∀ R', R' = blk D i + infl D i + dem D i R' → R ≤ R') ∨ (v = -1 ∧ ∀ R', R' = blk D i + infl D i + dem D i R' → nn D 18 i < R')
theorem RV_uniq {D : Nat → Nat → Int32} {i : Nat} {v w : Int32} (h1 : RV D i v) (h2 : RV D i w) : v = w := by
  rcases h1 with ⟨R, a1, a2, a3, a4⟩ | ⟨a1, a2⟩
  · rcases h2 with ⟨S, b1, b2, b3, b4⟩ | ⟨b1, b2⟩
    · have := a4 S b3
      have := b4 R a3
      rw [a1, b1, show R = S by omega]
    · have := b2 R a3
      omega
  · rcases h2 with ⟨S, b1, b2, b3, b4⟩ | ⟨b1, b2⟩
    · have := a2 S b3
      omega
    · rw [a1, b1]
theorem ref_dem {N : Nat} (hN : 16 < N) {μ : ks_S} {i R own : Nat} {x2 : Int32} {k17 : ks_S → Int32 → Int32 → Int32 → Int32 → Option (Int32 × ks_S)} (hST : ST (sD μ)) (hSG : SG (sD μ)) (hi : i < 16) (hth : sD μ 15 i ≠ -1) (hR1 : 1 ≤ R) (hR : R ≤ 10000) : ∀ m n t, t + m = 16 → m < n → f_X5_responseOf_38 N k17 n μ (nI i) x2 (nI R) (nI (own + sm (dQ (sD μ) i R) t)) (nI t) = (if nI (own + dem (sD μ) i R) ≤ nI R then k17 μ (nI i) x2 (nI (own + dem (sD μ) i R)) 0 else k17 μ (nI i) x2 (nI (own + dem (sD μ) i R)) 1) := by
  obtain ⟨_, _, _, _, ki, _⟩ := core_of hST hi hth
  intro m
  induction m with
  | zero =>
    intro n t ht hn
    obtain ⟨n, rfl⟩ : ∃ n', n = n' + 1 := ⟨n - 1, by omega⟩
    obtain rfl : t = 16 := by omega
    rw [f_X5_responseOf_38, if_pos e16, dem_dQ]
  | succ m ih =>
    intro n t ht hn
    obtain ⟨n, rfl⟩ : ∃ n', n = n' + 1 := ⟨n - 1, by omega⟩
    have ht16 : t < 16 := by omega
    have hk := ih n (t + 1) (by omega) (by omega)
    rw [sm] at hk
    rw [f_X5_responseOf_38, if_neg (z16 ht16)]
    have skip : dQ (sD μ) i R t = 0 → f_X5_responseOf_38 N k17 n μ (nI i) x2 (nI R) (nI (own + sm (dQ (sD μ) i R) t)) (nI t + 1) = (if nI (own + dem (sD μ) i R) ≤ nI R then k17 μ (nI i) x2 (nI (own + dem (sD μ) i R)) 0 else k17 μ (nI i) x2 (nI (own + dem (sD μ) i R)) 1) := fun q => by
      rw [q, Nat.add_zero] at hk
      rw [nI_1]
      exact hk
    by_cases e : t = i
    · subst e
      rw [if_pos rfl]
      refine skip ?_
      unfold dQ
      rw [if_neg]
      intro w
      have := (hp_there hth w).2.2
      omega
    · rw [if_neg (fun q => e (nI_inj (by omega) (by omega) q)), if_pos (i16 ht16), if_pos (i16 hi), cl (i := t) (by omega), cl (i := i) (by omega), rs (μ := μ) (k := 15) (by decide) (by decide), rs (μ := μ) (k := 15) (by decide) (by decide)]
      by_cases h15 : sD μ 15 t = sD μ 15 i
      · have hth' : sD μ 15 t ≠ -1 := by rw [h15]; exact hth
        obtain ⟨_, _, _, _, kt, k2, k3, _⟩ := core_of hST ht16 hth'
        rw [if_pos h15, if_pos (i16 ht16), if_pos (i16 hi), rs (μ := μ) (k := 16) (by decide) (by decide), rs (μ := μ) (k := 16) (by decide) (by decide)]
        by_cases h16 : sD μ 16 t ≤ sD μ 16 i
        · rw [if_pos h16]
          refine skip ?_
          rw [ok_le kt ki (by decide) (by decide)] at h16
          unfold dQ
          rw [if_neg]
          intro w
          have := (hp_there hth w).2.2
          omega
        · rw [if_neg h16, if_pos (i16 ht16), if_pos (i16 ht16), rs (μ := μ) (k := 17) (by decide) (by decide), k2.1]
          rw [ok_le kt ki (by decide) (by decide)] at h16
          have hk2 := k2.2
          have hz : ¬ nI (nn (sD μ) 17 t) = 0 := nI_ne0 (by omega) (by omega)
          rw [if_pos hz, ref_infl hN hST hSG ht16 hth', Option.bind_some]
          dsimp only
          have hq : dQ (sD μ) i R t = (R + nn (sD μ) 17 t - 1) / nn (sD μ) 17 t * infl (sD μ) t := by
            unfold dQ
            rw [if_pos]
            unfold hp
            rw [decide_eq_true_eq]
            exact ⟨h15, by omega⟩
          obtain ⟨y, hy⟩ : ∃ y, R + nn (sD μ) 17 t = y + 1 := ⟨R + nn (sD μ) 17 t - 1, by omega⟩
          rw [hy, Nat.add_sub_cancel] at hq
          rw [hq] at hk
          rw [nI_add, hy, nI_pred, pk_div (by omega) (by omega) (by omega), pk_mul, nI_add, nI_1, Nat.add_assoc]
          exact hk
      · rw [if_neg h15]
        refine skip ?_
        unfold dQ
        rw [if_neg (fun w => h15 (hp_there hth w).2.1)]
theorem ref_resp {N : Nat} (hN : 20000 < N) {μ : ks_S} {i : Nat} (hST : ST (sD μ)) (hSG : SG (sD μ)) (hi : i < 16) (hth : sD μ 15 i ≠ -1) : ∃ v, f_X5_responseOf N μ (nI i) = some (v, μ) ∧ RV (sD μ) i v := by
  obtain ⟨_, _, _, _, ki, _, _, k4, k5, _⟩ := core_of hST hi hth
  have hb : blk (sD μ) i ≤ 500 := bF500 hST (Nat.le_refl _)
  obtain ⟨hf1, hf2⟩ := infl4000 hST hi hth
  have h18 := k4.2
  have loop : ∀ m n R, nn (sD μ) 18 i + 1 ≤ R + m → m < n → infl (sD μ) i + blk (sD μ) i ≤ R → R ≤ infl (sD μ) i + blk (sD μ) i + dem (sD μ) i R → (∀ R', R' = blk (sD μ) i + infl (sD μ) i + dem (sD μ) i R' → R ≤ R') → R < 2 ^ 31 → ∃ v, f_X5_responseOf_17 N n μ (nI i) (nI (infl (sD μ) i + blk (sD μ) i)) (nI R) 1 = some (v, μ) ∧ RV (sD μ) i v := by
    intro m
    induction m with
    | zero =>
      intro n R h1 hn h2 h3 h4 h5
      obtain ⟨n, rfl⟩ : ∃ n', n = n' + 1 := ⟨n - 1, by omega⟩
      have hlt : nI (nn (sD μ) 18 i) < nI R := nI_lt (by omega) h5
      rw [f_X5_responseOf_17, if_neg (by decide), if_pos (i16 hi), cl (i := i) (by omega), rs (μ := μ) (k := 18) (by decide) (by decide), k4.1, if_pos hlt, if_pos (i16 hi), if_pos hlt]
      exact ⟨-1, rfl, Or.inr ⟨rfl, fun R' hR' => by have := h4 R' hR'; omega⟩⟩
    | succ m ih =>
      intro n R h1 hn h2 h3 h4 h5
      obtain ⟨n, rfl⟩ : ∃ n', n = n' + 1 := ⟨n - 1, by omega⟩
      rw [f_X5_responseOf_17, if_neg (by decide), if_pos (i16 hi), cl (i := i) (by omega), rs (μ := μ) (k := 18) (by decide) (by decide), k4.1]
      by_cases hlt : nn (sD μ) 18 i < R
      · rw [if_pos (nI_lt hlt h5), if_pos (i16 hi), if_pos (nI_lt hlt h5)]
        exact ⟨-1, rfl, Or.inr ⟨rfl, fun R' hR' => by have := h4 R' hR'; omega⟩⟩
      · rw [if_neg (nI_nlt (by omega) (by omega))]
        have hd := ref_dem (N := N) (by omega) (own := infl (sD μ) i + blk (sD μ) i) (x2 := nI (infl (sD μ) i + blk (sD μ) i)) (k17 := f_X5_responseOf_17 N n) hST hSG hi hth (show 1 ≤ R by omega) (by omega) 16 N 0 rfl (by omega)
        rw [sm, Nat.add_zero] at hd
        rw [show (0 : Int32) = nI 0 from rfl, hd]
        have hdl := dQ_le hST hth (show 1 ≤ R by omega) (show R ≤ 10000 by omega) 16 (Nat.le_refl _)
        rw [← dem_dQ] at hdl
        by_cases he : infl (sD μ) i + blk (sD μ) i + dem (sD μ) i R ≤ R
        · have he' : infl (sD μ) i + blk (sD μ) i + dem (sD μ) i R = R := by omega
          rw [if_pos (nI_le he (by omega)), he']
          obtain ⟨n, rfl⟩ : ∃ n', n = n' + 1 := ⟨n - 1, by omega⟩
          rw [f_X5_responseOf_17, if_pos rfl, if_pos (i16 hi), cl (i := i) (by omega), rs (μ := μ) (k := 18) (by decide) (by decide), k4.1, if_neg (nI_nlt (by omega) (by omega))]
          exact ⟨nI R, rfl, Or.inl ⟨R, rfl, by omega, by omega, h4⟩⟩
        · rw [if_neg (nI_ge (by omega) (by omega))]
          refine ih n _ (by omega) (by omega) (by omega) ?_ (fun R' hR' => ?_) (by omega)
          · have := dem_mono (D := sD μ) (i := i) h3
            omega
          · have h6 := h4 R' hR'
            have := dem_mono (D := sD μ) (i := i) h6
            omega
  unfold f_X5_responseOf
  rw [ref_infl (by omega) hST hSG hi hth, Option.bind_some]
  dsimp only
  rw [ref_blk (by omega) hST hSG hi hth, Option.bind_some]
  dsimp only
  rw [nI_add]
  exact loop (nn (sD μ) 18 i + 1) N _ (by omega) (by omega) (Nat.le_refl _) (by omega) (fun R' hR' => by omega) (by omega)
theorem cls_dem {N : Nat} (hN : 16 < N) {D : Nat → Nat → Int32} {σ : ks_S} {i R : Nat} (hST : ST D) (hC : CSt D σ) (hI : CI D σ) (hi : i < 16) (hth : D 15 i ≠ -1) (hR1 : 1 ≤ R) (hR : R ≤ 10000) : f_X4_demandAbove N σ i (nI R) = some (nI (dem D i R), σ) := by
  obtain ⟨ci, c1, c2, _, ki, _⟩ := core_of hST hi hth
  rcases hC i hi with ⟨_, w⟩ | ⟨b0, b1, b2, b3, _⟩
  · exact absurd w hth
  · have loop : ∀ m n t, t + m = 16 → m < n → f_X4_demandAbove_16 N n σ i (nI R) (nI (sm (dQ D i R) t)) 16 (nI t) = some (nI (dem D i R), σ) := by
      intro m
      induction m with
      | zero =>
        intro n t ht hn
        obtain ⟨n, rfl⟩ : ∃ n', n = n' + 1 := ⟨n - 1, by omega⟩
        obtain rfl : t = 16 := by omega
        rw [f_X4_demandAbove_16, if_pos e16, dem_dQ]
      | succ m ih =>
        intro n t ht hn
        obtain ⟨n, rfl⟩ : ∃ n', n = n' + 1 := ⟨n - 1, by omega⟩
        have ht16 : t < 16 := by omega
        have hk := ih n (t + 1) (by omega) (by omega)
        rw [sm] at hk
        rw [f_X4_demandAbove_16, if_neg (z16 ht16), if_pos (i16 ht16), cl (i := t) (by omega), b2, c2, cls_on ht16 c1 hC, Option.bind_some]
        dsimp only
        have skip : dQ D i R t = 0 → f_X4_demandAbove_16 N n σ i (nI R) (nI (sm (dQ D i R) t)) 16 (nI t + 1) = some (nI (dem D i R), σ) := fun q => by
          rw [q, Nat.add_zero] at hk
          rw [nI_1]
          exact hk
        by_cases h15 : D 15 t = nI ci
        · have hth' : D 15 t ≠ -1 := by rw [h15, ← c2]; exact hth
          obtain ⟨_, _, _, _, kt, k2, k3, _⟩ := core_of hST ht16 hth'
          rcases hC t ht16 with ⟨_, w⟩ | ⟨a0, a1, a2, a3, a4, _⟩
          · exact absurd w hth'
          · rw [if_pos h15, if_neg (by decide), b3, a3]
            by_cases h16 : D 16 t ≤ D 16 i
            · rw [if_pos h16]
              refine skip ?_
              rw [ok_le kt ki (by decide) (by decide)] at h16
              unfold dQ
              rw [if_neg]
              intro w
              have := (hp_there hth w).2.2
              omega
            · rw [if_neg h16]
              rw [ok_le kt ki (by decide) (by decide)] at h16
              have hk2 := k2.2
              have hbeg : f_X3_beginningsIn σ t (nI R) = some (nI ((R + nn D 17 t - 1) / nn D 17 t), σ) := by
                unfold f_X3_beginningsIn
                rw [a4, k2.1, if_pos (show (1 : Int32) ≤ nI (nn D 17 t) from nI_le (a := 1) k3 (by omega)), if_pos (nI_ne0 (by omega) (by omega))]
                obtain ⟨y, hy⟩ : ∃ y, R + nn D 17 t = y + 1 := ⟨R + nn D 17 t - 1, by omega⟩
                rw [nI_add, hy, nI_pred, Nat.add_sub_cancel, pk_div (by omega) (by omega) (by omega)]
              rw [hbeg, Option.bind_some]
              dsimp only
              have hq : dQ D i R t = (R + nn D 17 t - 1) / nn D 17 t * infl D t := by
                unfold dQ
                rw [if_pos]
                unfold hp
                rw [decide_eq_true_eq]
                exact ⟨by rw [h15, c2], by omega⟩
              rw [hq] at hk
              rw [(hI t ht16 hth').1, pk_mul, nI_add, nI_1, Nat.mul_comm]
              exact hk
        · rw [if_neg h15, if_pos rfl]
          refine skip ?_
          unfold dQ
          rw [if_neg (fun w => h15 (by rw [(hp_there hth w).2.1, c2]))]
    exact loop 16 N 0 rfl hN
theorem cls_resp {N : Nat} (hN : 20000 < N) {D : Nat → Nat → Int32} {σ : ks_S} {i : Nat} (hST : ST D) (hC : CSt D σ) (hI : CI D σ) (hi : i < 16) (hth : D 15 i ≠ -1) : ∃ v, f_X4_responseOf N σ i = some (v, σ) ∧ RV D i v := by
  obtain ⟨_, _, _, _, ki, _, _, k4, k5, _⟩ := core_of hST hi hth
  have hb : blk D i ≤ 500 := bF500 hST (Nat.le_refl _)
  obtain ⟨hf1, hf2⟩ := infl4000 hST hi hth
  have h18 := k4.2
  rcases hC i hi with ⟨_, w⟩ | ⟨b0, b1, b2, b3, b4, b5, _⟩
  · exact absurd w hth
  · have loop : ∀ m n R j, nn D 18 i + 1 ≤ R + m → m < n → infl D i + blk D i + j ≤ R → R ≤ infl D i + blk D i + dem D i R → (∀ R', R' = blk D i + infl D i + dem D i R' → R ≤ R') → R < 2 ^ 31 → j ≤ 10000 → ∃ v, f_X4_responseOf_16 N n σ i (nI (infl D i + blk D i)) (nI R) (nI j) = some (v, σ) ∧ RV D i v := by
      intro m
      induction m with
      | zero =>
        intro n R j h1 hn h2 h3 h4 h5 h6
        obtain ⟨n, rfl⟩ : ∃ n', n = n' + 1 := ⟨n - 1, by omega⟩
        rw [f_X4_responseOf_16, if_neg (show ¬ (10000 : Int32) < nI j from nI_nlt (a := 10000) (b := j) (by omega) (by decide)), b5, k4.1, if_pos (nI_lt (by omega) h5)]
        exact ⟨-1, rfl, Or.inr ⟨rfl, fun R' hR' => by have := h4 R' hR'; omega⟩⟩
      | succ m ih =>
        intro n R j h1 hn h2 h3 h4 h5 h6
        obtain ⟨n, rfl⟩ : ∃ n', n = n' + 1 := ⟨n - 1, by omega⟩
        rw [f_X4_responseOf_16, if_neg (show ¬ (10000 : Int32) < nI j from nI_nlt (a := 10000) (b := j) (by omega) (by decide)), b5, k4.1]
        by_cases hlt : nn D 18 i < R
        · rw [if_pos (nI_lt hlt h5)]
          exact ⟨-1, rfl, Or.inr ⟨rfl, fun R' hR' => by have := h4 R' hR'; omega⟩⟩
        · rw [if_neg (nI_nlt (by omega) (by omega)), cls_dem (by omega) hST hC hI hi hth (show 1 ≤ R by omega) (by omega), Option.bind_some]
          dsimp only
          have hdl := dQ_le hST hth (show 1 ≤ R by omega) (show R ≤ 10000 by omega) 16 (Nat.le_refl _)
          rw [← dem_dQ] at hdl
          rw [nI_add]
          by_cases he : infl D i + blk D i + dem D i R = R
          · rw [if_pos (by rw [he])]
            exact ⟨nI R, rfl, Or.inl ⟨R, rfl, by omega, by omega, h4⟩⟩
          · rw [if_neg (fun q => he ((nI_eq (by omega) (by omega)).mp q)), nI_1]
            refine ih n _ (j + 1) (by omega) (by omega) (by omega) ?_ (fun R' hR' => ?_) (by omega) (by omega)
            · have := dem_mono (D := D) (i := i) h3
              omega
            · have h7 := h4 R' hR'
              have := dem_mono (D := D) (i := i) h7
              omega
    unfold f_X4_responseOf
    rw [cls_blk (by omega) hST hC hI hi hth, Option.bind_some]
    dsimp only
    rw [(hI i hi hth).1, nI_add]
    exact loop (nn D 18 i + 1) N _ 0 (by omega) (by omega) (by omega) (by omega) (fun R' hR' => by omega) (by omega) (by omega)
