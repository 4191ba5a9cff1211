/-! PURE: request. -/
def gA (D : Nat → Nat → Int32) (t : Nat) : Nat → Int32
  | 0 => 0
  | r + 1 => if ou D t r = true then D 21 (6 * t + r) else gA D t r
/-- P: the request has its place -/
def PP (D : Nat → Nat → Int32) (t l : Nat) (x2 x5 : Int32) : Prop := (x5 = -1 ∧ ∃ a, x2 = nI a ∧ a ≤ nn D 19 t ∧ ∀ q, q < cn D t → ou D t q = true → af D t q ≤ a) ∨ (∃ j a, x5 = nI j ∧ j < cn D t ∧ ou D t j = true ∧ x2 = nI a ∧ a + l ≤ ln D t j)
def PL (D : Nat → Nat → Int32) (t l : Nat) (x2 x5 b : Int32) : Prop := (b = 1 ∧ PP D t l x2 x5) ∨ (b = 0 ∧ ¬ PP D t l x2 x5)
theorem gA_spec {D : Nat → Nat → Int32} {t : Nat} (hST : ST D) (ht : t < 16) : ∀ k, k ≤ cn D t → (gA D t k = 0 ∧ ∀ q, q < k → ou D t q = false) ∨ (∃ r, r < k ∧ ou D t r = true ∧ gA D t k = nI (af D t r) ∧ af D t r ≤ 1000 ∧ (∀ q, q < k → ou D t q = true → af D t q ≤ af D t r) ∧ ∀ q, r < q → q < k → ou D t q = false) := by
  intro k
  induction k with
  | zero => intro _; exact Or.inl ⟨rfl, fun q hq => by omega⟩
  | succ k ih =>
    intro hk
    rw [gA]
    have hs := hST.2.1 t k ht (by omega)
    cases ho : ou D t k
    · rw [if_neg (by decide)]
      rcases ih (by omega) with ⟨h1, h2⟩ | ⟨r, r1, r2, r3, r4, r5, r6⟩
      · refine Or.inl ⟨h1, fun q hq => ?_⟩
        by_cases e : q = k
        · subst e; exact ho
        · exact h2 q (by omega)
      · refine Or.inr ⟨r, by omega, r2, r3, r4, fun q hq hq2 => ?_, fun q h1 h2 => ?_⟩
        · by_cases e : q = k
          · subst e; rw [ho] at hq2; exact absurd hq2 (by decide)
          · exact r5 q (by omega) hq2
        · by_cases e : q = k
          · subst e; exact ho
          · exact r6 q h1 (by omega)
    · rw [if_pos rfl]
      refine Or.inr ⟨k, by omega, ho, hs.1.1, hs.1.2, fun q hq hq2 => ?_, fun q h1 h2 => by omega⟩
      by_cases e : q = k
      · subst e; exact Nat.le_refl _
      · rcases hs.2.2.2.2 with ⟨_, _, w⟩ | ⟨w, _⟩
        · exact w q (by omega) hq2
        · rw [ho] at w; exact absurd w (by decide)
theorem cls_gA {N : Nat} (hN : 16 < N) {D : Nat → Nat → Int32} {σ : ks_S} {t : Nat} (hST : ST D) (hC : CSt D σ) (ht : t < 16) (hth : D 15 t ≠ -1) : f_X3_greatestAfter N σ t = some (gA D t (cn D t), σ) := by
  have hcn6 : cn D t ≤ 6 := (cn6 hST ht).2
  have h20 : D 20 t = nI (cn D t) := (cn6 hST ht).1
  rcases hC t ht with ⟨_, w⟩ | ⟨a0, a1, a2, a3, a4, a5, a6, a7, a8⟩
  · exact absurd w hth
  · have loop : ∀ m n r, r + m = cn D t → m < n → f_X3_greatestAfter_4 N n σ t (gA D t r) (nI r) = some (gA D t (cn D t), σ) := by
      intro m
      induction m with
      | zero =>
        intro n r hr hn
        obtain ⟨n, rfl⟩ : ∃ n', n = n' + 1 := ⟨n - 1, by omega⟩
        obtain rfl : r = cn D t := by omega
        rw [f_X3_greatestAfter_4, a7, h20, if_pos (nI_le (Nat.le_refl _) (by omega))]
      | succ m ih =>
        intro n r hr hn
        obtain ⟨n, rfl⟩ : ∃ n', n = n' + 1 := ⟨n - 1, by omega⟩
        have hlt : r < cn D t := by omega
        have hk := ih n (r + 1) (by omega) (by omega)
        rw [gA] at hk
        rw [f_X3_greatestAfter_4, a7, h20, if_neg (nI_ge hlt (by omega)), if_pos (i6 (by omega)), cl (i := r) (by omega), f_X1_isOuter, (a8 r hlt).2.2.2]
        by_cases e : D 24 (6 * t + r) = -1
        · have ho : ou D t r = true := decide_eq_true e
          rw [if_pos ho] at hk
          rw [if_pos e, Option.bind_some]
          dsimp only
          rw [if_neg (by decide), if_pos (i6 (by omega)), (a8 r hlt).1, nI_1]
          exact hk
        · have ho := ou_f e
          rw [ho, if_neg (by decide)] at hk
          rw [if_neg e, Option.bind_some]
          dsimp only
          rw [if_pos rfl, nI_1]
          exact hk
    exact loop (cn D t) N 0 (by omega) (by omega)
theorem cls_place {N : Nat} (hN : 16 < N) {D : Nat → Nat → Int32} {σ : ks_S} {t l : Nat} (x2 x5 : Int32) (hST : ST D) (hC : CSt D σ) (ht : t < 16) (hth : D 15 t ≠ -1) (hl1 : 1 ≤ l) (hl : l ≤ 100) : ∃ b, f_X3_hasPlaceFor N σ t x2 (nI l) x5 = some (b, σ) ∧ PL D t l x2 x5 b := by
  have hcn6 : cn D t ≤ 6 := (cn6 hST ht).2
  have h20 : D 20 t = nI (cn D t) := (cn6 hST ht).1
  obtain ⟨_, _, _, _, _, _, _, _, _, _, k7, k8, _⟩ := core_of hST ht hth
  have h19 := k7.2
  rcases hC t ht with ⟨_, w⟩ | ⟨a0, a1, a2, a3, a4, a5, a6, a7, a8⟩
  · exact absurd w hth
  · unfold f_X3_hasPlaceFor
    by_cases h5 : x5 = -1
    · rw [if_pos h5, cls_gA hN hST hC ht hth, Option.bind_some]
      dsimp only
      rw [a6, k7.1]
      have hgs := gA_spec hST ht (cn D t) (Nat.le_refl _)
      have hno2 : ¬ ∃ j a, x5 = nI j ∧ j < cn D t ∧ ou D t j = true ∧ x2 = nI a ∧ a + l ≤ ln D t j := by
        rintro ⟨j, a, e, hj, _⟩
        rw [h5] at e
        exact nI_n1 (by omega) e.symm
      by_cases hg : x2 < gA D t (cn D t)
      · rw [if_pos hg]
        refine ⟨0, rfl, Or.inr ⟨rfl, ?_⟩⟩
        rintro (⟨_, a, rfl, ha, hq⟩ | w)
        · rcases hgs with ⟨g1, _⟩ | ⟨r, r1, r2, r3, r4, _⟩
          · rw [g1] at hg
            exact nI_pos (by omega) hg
          · have := hq r r1 r2
            rw [r3, nI_ltI (by omega) (by omega)] at hg
            omega
        · exact hno2 w
      · rw [if_neg hg]
        by_cases hw : nI (nn D 19 t) < x2
        · rw [if_pos hw]
          refine ⟨0, rfl, Or.inr ⟨rfl, ?_⟩⟩
          rintro (⟨_, a, rfl, ha, hq⟩ | w)
          · rw [nI_ltI (by omega) (by omega)] at hw
            omega
          · exact hno2 w
        · rw [if_neg hw]
          refine ⟨1, rfl, Or.inl ⟨rfl, Or.inl ⟨h5, ?_⟩⟩⟩
          have hx0 : ¬ x2 < 0 := fun q => by
            rcases hgs with ⟨g1, _⟩ | ⟨r, r1, r2, r3, r4, _⟩
            · rw [g1] at hg
              exact hg q
            · rw [r3] at hg
              exact hg (Int32.lt_of_lt_of_le q (nI_pos' (by omega)))
          obtain ⟨a, a9, rfl⟩ := nI_of hx0
          refine ⟨a, rfl, ?_, fun q hq ho => ?_⟩
          · rw [nI_ltI (by omega) a9] at hw
            omega
          · rcases hgs with ⟨_, g2⟩ | ⟨r, r1, r2, r3, r4, r5, _⟩
            · rw [g2 q hq] at ho
              exact absurd ho (by decide)
            · have := r5 q hq ho
              rw [r3, nI_ltI a9 (by omega)] at hg
              omega
    · rw [if_neg h5]
      have hno1 : ¬ (x5 = -1 ∧ ∃ a, x2 = nI a ∧ a ≤ nn D 19 t ∧ ∀ q, q < cn D t → ou D t q = true → af D t q ≤ a) := fun w => h5 w.1
      have hisO : ∃ b, f_X3_isOuter σ t x5 = some (b, σ) ∧ ((b = 1 ∧ ∃ j, x5 = nI j ∧ j < cn D t ∧ ou D t j = true) ∨ (b = 0 ∧ ∀ j, x5 = nI j → j < cn D t → ou D t j = false)) := by
        unfold f_X3_isOuter
        by_cases h0 : x5 < 0
        · rw [if_pos h0]
          exact ⟨0, rfl, Or.inr ⟨rfl, fun j e hj => by rw [e] at h0; exact absurd h0 (nI_pos (by omega))⟩⟩
        · obtain ⟨j, j1, rfl⟩ := nI_of h0
          rw [if_neg h0, a7, h20]
          by_cases hj : cn D t ≤ j
          · rw [if_pos (nI_le hj j1)]
            exact ⟨0, rfl, Or.inr ⟨rfl, fun j' e hj' => by
              have := (nI_eq j1 (by omega)).mp e
              omega⟩⟩
          · rw [if_neg (nI_ge (by omega) (by omega)), if_pos (i6 (by omega)), cl (i := j) (by omega), f_X1_isOuter, (a8 j (by omega)).2.2.2]
            by_cases e : D 24 (6 * t + j) = -1
            · rw [if_pos e, Option.bind_some]
              dsimp only
              rw [if_neg (by decide)]
              exact ⟨1, rfl, Or.inl ⟨rfl, j, rfl, by omega, decide_eq_true e⟩⟩
            · rw [if_neg e, Option.bind_some]
              dsimp only
              rw [if_pos rfl]
              exact ⟨0, rfl, Or.inr ⟨rfl, fun j' e' hj' => by
                have := (nI_eq j1 (by omega)).mp e'
                rw [← this]
                exact ou_f e⟩⟩
      obtain ⟨b, b1, b2⟩ := hisO
      rw [b1, Option.bind_some]
      dsimp only
      rcases b2 with ⟨rfl, j, rfl, hj, ho⟩ | ⟨rfl, b3⟩
      · rw [if_neg (by decide)]
        have hm := ln100 hST ht hj
        have h23 : σ 11 t j 2 = nI (ln D t j) := by rw [(a8 j hj).2.2.1]; exact (hST.2.1 t j ht hj).2.2.1.1
        by_cases hx : x2 < 0
        · rw [if_pos hx]
          refine ⟨0, rfl, Or.inr ⟨rfl, ?_⟩⟩
          rintro (w | ⟨j', a, _, hj', _, rfl, hc'⟩)
          · exact hno1 w
          · have := ln100 hST ht hj'
            exact nI_pos (by omega) hx
        · obtain ⟨a, a9, rfl⟩ := nI_of hx
          rw [if_neg hx, if_pos (i6 (by omega)), cl (i := j) (by omega), h23]
          have key : (nI (ln D t j) - nI l < nI a) ↔ ¬ a + l ≤ ln D t j := by
            by_cases hlm : l ≤ ln D t j
            · rw [pk_sub hlm, nI_ltI (by omega) a9]
              omega
            · constructor
              · intro _; omega
              · intro _
                exact Int32.lt_of_lt_of_le (pk_sneg (by omega) (by omega)) (nI_pos' a9)
          by_cases hc : a + l ≤ ln D t j
          · rw [if_neg (fun w => key.mp w hc)]
            exact ⟨1, rfl, Or.inl ⟨rfl, Or.inr ⟨j, a, rfl, hj, ho, rfl, hc⟩⟩⟩
          · rw [if_pos (key.mpr hc)]
            refine ⟨0, rfl, Or.inr ⟨rfl, ?_⟩⟩
            rintro (w | ⟨j', a', e1, hj', _, e2, hc'⟩)
            · exact hno1 w
            · have ej : j = j' := nI_inj (by omega) (by omega) e1
              subst ej
              have : a = a' := (nI_eq a9 (by omega)).mp e2
              subst this
              exact hc hc'
      · rw [if_pos rfl]
        refine ⟨0, rfl, Or.inr ⟨rfl, ?_⟩⟩
        rintro (w | ⟨j, a, e1, hj, ho, _⟩)
        · exact hno1 w
        · rw [b3 j e1 hj] at ho
          exact absurd ho (by decide)
theorem ref_before {N : Nat} {D : Nat → Nat → Int32} {s : ks_S} {t : Nat} (hST : ST D) (hD : RD D s) (ht : t < 16) : ∀ k n, k < n → k ≤ cn D t → (∀ q, k ≤ q → q < cn D t → ou D t q = false) → ∃ x, f_X5_outerBefore_9 N n s (nI t) (if k = 0 then -1 else nI (k - 1)) = some (x, s) ∧ ((x = -1 ∧ ∀ q, q < cn D t → ou D t q = false) ∨ (∃ r, r < cn D t ∧ x = nI r ∧ ou D t r = true ∧ ∀ q, r < q → q < cn D t → ou D t q = false)) := by
  have hcn6 : cn D t ≤ 6 := (cn6 hST ht).2
  intro k
  induction k with
  | zero =>
    intro n hn hk h
    obtain ⟨n, rfl⟩ : ∃ n', n = n' + 1 := ⟨n - 1, by omega⟩
    rw [if_pos rfl, f_X5_outerBefore_9, if_pos (by decide)]
    exact ⟨-1, rfl, Or.inl ⟨rfl, fun q hq => h q (by omega) hq⟩⟩
  | succ k ih =>
    intro n hn hk h
    obtain ⟨n, rfl⟩ : ∃ n', n = n' + 1 := ⟨n - 1, by omega⟩
    rw [if_neg (by omega), Nat.add_sub_cancel, f_X5_outerBefore_9, if_neg (nI_pos (by omega)), nI_6, if_pos (i96 (by omega)), cl (i := 6 * t + k) (by omega), hD 24 _ (by decide) (by decide)]
    by_cases e : D 24 (6 * t + k) = -1
    · rw [if_pos (by rw [e]; decide)]
      exact ⟨nI k, rfl, Or.inr ⟨k, by omega, rfl, decide_eq_true e, fun q h1 h2 => h q (by omega) h2⟩⟩
    · have ho := ou_f e
      rcases (hST.2.1 t k ht (by omega)).2.2.2.2 with ⟨w, _⟩ | ⟨_, w1, _⟩
      · rw [ho] at w; exact absurd w (by decide)
      · have hw := w1.2
        rw [if_neg (by rw [w1.1]; exact nI_pos (by omega))]
        have e2 : nI k + -1 = if k = 0 then -1 else nI (k - 1) := by
          by_cases h0 : k = 0
          · subst h0
            rw [if_pos rfl]
            decide
          · obtain ⟨y, rfl⟩ : ∃ y, k = y + 1 := ⟨k - 1, by omega⟩
            rw [if_neg h0, pk_m1, Nat.add_sub_cancel]
        rw [e2]
        exact ih n (by omega) (by omega) (fun q h1 h2 => by
          by_cases e3 : q = k
          · subst e3; exact ho
          · exact h q (by omega) h2)
theorem ref_place {N : Nat} (hN : 16 < N) {D : Nat → Nat → Int32} {s : ks_S} {t l g : Nat} (x2 x5 : Int32) (hST : ST D) (hD : RD D s) (ht : t < 16) (hth : D 15 t ≠ -1) (hg : g ≤ 7) (hl1 : 1 ≤ l) (hl : l ≤ 100) : ∃ b, f_X5_mayBe N s (nI t) x2 (nI g) (nI l) x5 = some (b, s) ∧ PL D t l x2 x5 b := by
  have hcn6 : cn D t ≤ 6 := (cn6 hST ht).2
  have h20 : D 20 t = nI (cn D t) := (cn6 hST ht).1
  obtain ⟨_, _, _, _, _, _, _, _, _, _, k7, k8, _⟩ := core_of hST ht hth
  have h19 := k7.2
  have w3 : wi (nI g) 0 7 = 1 := wi_in (n := 7) hg (by decide)
  have w4 : wi (nI l) 1 100 = 1 := by
    unfold wi
    rw [if_neg (show ¬ nI l < (1 : Int32) from nI_nlt (a := l) (b := 1) (by omega) (by omega)), if_neg (show ¬ (100 : Int32) < nI l from nI_nlt (a := 100) (b := l) (by omega) (by decide))]
  unfold f_X5_mayBe
  rw [ref_wi, w3, Option.bind_some]
  dsimp only
  rw [if_neg (by decide), ref_wi, w4, Option.bind_some]
  dsimp only
  rw [if_neg (by decide)]
  by_cases hx : 0 ≤ x2
  · have hx0 : ¬ x2 < 0 := by rw [Int32.not_lt]; exact hx
    obtain ⟨a, a9, rfl⟩ := nI_of hx0
    rw [if_pos hx]
    by_cases h5 : x5 = -1
    · have hno2 : ¬ ∃ j a', x5 = nI j ∧ j < cn D t ∧ ou D t j = true ∧ nI a = nI a' ∧ a' + l ≤ ln D t j := by
        rintro ⟨j, a', e, hj, _⟩
        rw [h5] at e
        exact nI_n1 (by omega) e.symm
      obtain ⟨x, z1, z2⟩ := ref_before (N := N) hST hD ht (cn D t) N (by omega) (Nat.le_refl _) (fun q h1 h2 => by omega)
      have hob : f_X5_outerBefore N s (nI t) = some (x, s) := by
        unfold f_X5_outerBefore
        rw [if_pos (i16 ht), cl (i := t) (by omega), hD 20 t (by decide) (by decide), h20]
        have : nI (cn D t) - 1 = if cn D t = 0 then -1 else nI (cn D t - 1) := by
          by_cases h0 : cn D t = 0
          · rw [h0, if_pos rfl]
            decide
          · obtain ⟨y, hy⟩ : ∃ y, cn D t = y + 1 := ⟨cn D t - 1, by omega⟩
            rw [if_neg h0, hy, nI_pred, Nat.add_sub_cancel]
        rw [this]
        exact z1
      rw [if_pos h5, hob, Option.bind_some]
      dsimp only
      simp only [i16 ht, ↓reduceIte, cl (i := t) (show t < 96 by omega), hD 19 t (show 15 ≤ 19 by decide) (show 19 ≤ 24 by decide)]
      rw [k7.1]
      by_cases hw : nI (nn D 19 t) < nI a
      · rw [if_pos hw]
        refine ⟨0, rfl, Or.inr ⟨rfl, ?_⟩⟩
        rintro (⟨_, a', e, ha, _⟩ | w)
        · have : a = a' := (nI_eq a9 (by omega)).mp e
          rw [nI_ltI (by omega) a9] at hw
          omega
        · exact hno2 w
      · rw [if_neg hw]
        rw [nI_ltI (by omega) a9] at hw
        rcases z2 with ⟨rfl, z3⟩ | ⟨r, r1, rfl, r2, r3⟩
        · rw [if_pos (by decide)]
          exact ⟨1, rfl, Or.inl ⟨rfl, Or.inl ⟨h5, a, rfl, by omega, fun q hq ho => by rw [z3 q hq] at ho; exact absurd ho (by decide)⟩⟩⟩
        · have haf := (hST.2.1 t r ht r1).1
          rw [if_neg (nI_pos (by omega))]
          simp only [nI_6, i96 (show 6 * t + r < 96 by omega), ↓reduceIte, cl (i := 6 * t + r) (show 6 * t + r < 96 by omega), hD 21 (6 * t + r) (show 15 ≤ 21 by decide) (show 21 ≤ 24 by decide), show D 21 (6 * t + r) = nI (af D t r) from haf.1]
          have haf2 : af D t r ≤ 1000 := haf.2
          by_cases hc : nI a < nI (af D t r)
          · rw [if_pos hc]
            refine ⟨0, rfl, Or.inr ⟨rfl, ?_⟩⟩
            rintro (⟨_, a', e, _, hq⟩ | w)
            · have : a = a' := (nI_eq a9 (by omega)).mp e
              subst this
              have := hq r r1 r2
              rw [nI_ltI a9 (by omega)] at hc
              omega
            · exact hno2 w
          · rw [if_neg hc]
            rw [nI_ltI a9 (by omega)] at hc
            refine ⟨1, rfl, Or.inl ⟨rfl, Or.inl ⟨h5, a, rfl, by omega, fun q hq ho => ?_⟩⟩⟩
            by_cases e : q = r
            · subst e; omega
            · by_cases e2 : r < q
              · rw [r3 q e2 hq] at ho
                exact absurd ho (by decide)
              · rcases (hST.2.1 t r ht r1).2.2.2.2 with ⟨_, _, w⟩ | ⟨w, _⟩
                · have := w q (by omega) ho
                  omega
                · rw [r2] at w; exact absurd w (by decide)
    · rw [if_neg h5]
      have hno1 : ¬ (x5 = -1 ∧ ∃ a', nI a = nI a' ∧ a' ≤ nn D 19 t ∧ ∀ q, q < cn D t → ou D t q = true → af D t q ≤ a') := fun w => h5 w.1
      have hrq : ∃ b, f_X5_isRequest s (nI t) x5 = some (b, s) ∧ ((b = 1 ∧ ∃ j, x5 = nI j ∧ j < cn D t) ∨ (b = 0 ∧ ∀ j, x5 = nI j → cn D t ≤ j)) := by
        unfold f_X5_isRequest
        rw [isTask_of hST hD ht hth, Option.bind_some]
        dsimp only
        rw [if_neg (by decide)]
        by_cases h0 : x5 < 0
        · rw [if_pos h0]
          refine ⟨0, rfl, Or.inr ⟨rfl, fun j e => ?_⟩⟩
          by_cases hj : j < 2 ^ 31
          · rw [e] at h0
            exact absurd h0 (nI_pos hj)
          · omega
        · obtain ⟨j, j1, rfl⟩ := nI_of h0
          rw [if_neg h0, if_pos (i16 ht), cl (i := t) (by omega), hD 20 t (by decide) (by decide), h20]
          by_cases hj : cn D t ≤ j
          · rw [if_pos (nI_le hj j1)]
            refine ⟨0, rfl, Or.inr ⟨rfl, fun j' e => ?_⟩⟩
            by_cases hj' : j' < 2 ^ 31
            · have := (nI_eq j1 hj').mp e
              omega
            · omega
          · rw [if_neg (nI_ge (by omega) (by omega))]
            exact ⟨1, rfl, Or.inl ⟨rfl, j, rfl, by omega⟩⟩
      obtain ⟨b, b1, b2⟩ := hrq
      rw [b1, Option.bind_some]
      dsimp only
      rcases b2 with ⟨rfl, j, rfl, hj⟩ | ⟨rfl, b3⟩
      · have hm := ln100 hST ht hj
        have h23 : D 23 (6 * t + j) = nI (ln D t j) := (hST.2.1 t j ht hj).2.2.1.1
        rw [if_neg (by decide)]
        simp only [nI_6, i96 (show 6 * t + j < 96 by omega), ↓reduceIte, cl (i := 6 * t + j) (show 6 * t + j < 96 by omega), hD 24 (6 * t + j) (show 15 ≤ 24 by decide) (show 24 ≤ 24 by decide), hD 23 (6 * t + j) (show 15 ≤ 23 by decide) (show 23 ≤ 24 by decide)]
        by_cases e : D 24 (6 * t + j) = -1
        · have ho : ou D t j = true := decide_eq_true e
          rw [if_pos e]
          have fin : ∀ (hc : ¬ a + l ≤ ln D t j), ¬ PP D t l (nI a) (nI j) := fun hc => by
            rintro (w | ⟨j', a', e1, hj', _, e2, hc'⟩)
            · exact hno1 w
            · have ej : j = j' := nI_inj (by omega) (by omega) e1
              subst ej
              have : a = a' := (nI_eq a9 (by omega)).mp e2
              subst this
              exact hc hc'
          by_cases h100 : (100 : Int32) < nI a
          · rw [if_pos h100]
            have : 100 < a := (nI_ltI (a := 100) (b := a) (by decide) a9).mp h100
            exact ⟨0, rfl, Or.inr ⟨rfl, fin (by omega)⟩⟩
          · have ha : ¬ 100 < a := fun q => h100 (nI_lt (a := 100) q a9)
            rw [if_neg h100, h23, nI_add]
            by_cases hc : a + l ≤ ln D t j
            · rw [if_neg (nI_nlt hc (by omega))]
              exact ⟨1, rfl, Or.inl ⟨rfl, Or.inr ⟨j, a, rfl, hj, ho, rfl, hc⟩⟩⟩
            · rw [if_pos (nI_lt (by omega) (by omega))]
              exact ⟨0, rfl, Or.inr ⟨rfl, fin hc⟩⟩
        · rw [if_neg e]
          refine ⟨0, rfl, Or.inr ⟨rfl, ?_⟩⟩
          rintro (w | ⟨j', a', e1, hj', ho, _⟩)
          · exact hno1 w
          · have ej : j = j' := nI_inj (by omega) (by omega) e1
            subst ej
            rw [ou_f e] at ho
            exact absurd ho (by decide)
      · rw [if_pos rfl]
        refine ⟨0, rfl, Or.inr ⟨rfl, ?_⟩⟩
        rintro (w | ⟨j', a', e1, hj', ho, _⟩)
        · exact hno1 w
        · have := b3 j' e1
          omega
  · rw [if_neg hx]
    have hx0 : x2 < 0 := by rw [← Int32.not_le]; exact hx
    refine ⟨0, rfl, Or.inr ⟨rfl, ?_⟩⟩
    rintro (⟨_, a, rfl, _, _⟩ | ⟨j, a, _, hj, _, rfl, _⟩)
    · exact nI_pos (by omega) hx0
    · have := ln100 hST ht hj
      exact nI_pos (by omega) hx0
