/-! PURE: the class measures, all of it. -/
def wg (D : Nat → Nat → Int32) (σ : ks_S) : Nat → Nat → Int32 := fun k s => if k = 25 ∧ s < 8 then σ 3 0 0 s else D k s
theorem wg_row {D : Nat → Nat → Int32} {σ : ks_S} {k : Nat} (h : k ≠ 25) : wg D σ k = D k := by
  funext s
  unfold wg
  rw [if_neg (fun q => h q.1)]
theorem ST_same {D D' : Nat → Nat → Int32} (h : ∀ k, k ≠ 25 → D' k = D k) (hST : ST D) : ST D' := by
  have e15 := h 15 (by decide)
  have e16 := h 16 (by decide)
  have e17 := h 17 (by decide)
  have e18 := h 18 (by decide)
  have e19 := h 19 (by decide)
  have e20 := h 20 (by decide)
  have e21 := h 21 (by decide)
  have e22 := h 22 (by decide)
  have e23 := h 23 (by decide)
  have e24 := h 24 (by decide)
  unfold ST STt STr cn ou ln af ok nn at *
  rw [e15, e16, e17, e18, e19, e20, e21, e22, e23, e24]
  exact hST
theorem CSt_same {D D' : Nat → Nat → Int32} {σ : ks_S} (h : ∀ k, k ≠ 25 → D' k = D k) (hC : CSt D σ) : CSt D' σ := by
  have e15 := h 15 (by decide)
  have e16 := h 16 (by decide)
  have e17 := h 17 (by decide)
  have e18 := h 18 (by decide)
  have e19 := h 19 (by decide)
  have e20 := h 20 (by decide)
  have e21 := h 21 (by decide)
  have e22 := h 22 (by decide)
  have e23 := h 23 (by decide)
  have e24 := h 24 (by decide)
  unfold CSt cn nn at *
  rw [e15, e16, e17, e18, e19, e20, e21, e22, e23, e24]
  exact hC
theorem cn_same {D D' : Nat → Nat → Int32} {t : Nat} (h : ∀ k, k ≠ 25 → D' k = D k) : cn D' t = cn D t := by
  unfold cn nn
  rw [h 20 (by decide)]
theorem ou_same {D D' : Nat → Nat → Int32} {t r : Nat} (h : ∀ k, k ≠ 25 → D' k = D k) : ou D' t r = ou D t r := by
  unfold ou
  rw [h 24 (by decide)]
theorem spn400 {D : Nat → Nat → Int32} {t r : Nat} (hST : ST D) : spn D t r ≤ 400 := by
  have := sm_le (f := fun c => if D 15 t = nI c then 0 else lng D c (gr D t r)) (b := 100) (n := 4) (fun c _ => by
    split
    · omega
    · exact lng100 hST)
  unfold spn
  omega
def qZ (D : Nat → Nat → Int32) (t : Nat) : Nat → Nat := fun r => if 0 ≤ r ∧ ou D t r = true then ln D t r + spn D t r else 0
theorem qZ500 {D : Nat → Nat → Int32} {t r : Nat} (hST : ST D) (ht : t < 16) (hr : r ≤ cn D t) : sm (qZ D t) r ≤ 3000 := by
  have h6 : cn D t ≤ 6 := (cn6 hST ht).2
  have := sm_le (f := qZ D t) (b := 500) (n := r) (fun i hi => by
    unfold qZ
    have := ln100 hST ht (show i < cn D t by omega)
    have := spn400 (t := t) (r := i) hST
    split <;> omega)
  omega
theorem infl_qZ (D : Nat → Nat → Int32) (t : Nat) : infl D t = nn D 19 t + sm (qZ D t) (cn D t) := rfl
theorem cls_else {N : Nat} {D : Nat → Nat → Int32} {σ : ks_S} {t r c0 : Nat} (hST : ST D) (h5 : ∀ c g, c < 4 → g < 8 → σ 5 c 0 g = nI (lng D c g)) (hg : gr D t r < 8) (hc0 : D 15 t = nI c0) (h0 : c0 < 4) : ∀ m n c, c + m = 4 → m < n → f_X4_longestElsewhere_5 N n σ (nI c0) (nI (gr D t r)) (nI (sm (fun c => if D 15 t = nI c then 0 else lng D c (gr D t r)) c)) (nI c) = some (nI (spn D t r), σ) := by
  intro m
  induction m with
  | zero =>
    intro n c hc hn
    obtain ⟨n, rfl⟩ : ∃ n', n = n' + 1 := ⟨n - 1, by omega⟩
    obtain rfl : c = 4 := by omega
    rw [f_X4_longestElsewhere_5, if_pos e4]
    rfl
  | succ m ih =>
    intro n c hc hn
    obtain ⟨n, rfl⟩ : ∃ n', n = n' + 1 := ⟨n - 1, by omega⟩
    have hc4 : c < 4 := by omega
    have hk := ih n (c + 1) (by omega) (by omega)
    rw [sm] at hk
    rw [f_X4_longestElsewhere_5, if_neg (z4 hc4), nI_1]
    by_cases e : c = c0
    · subst e
      rw [if_pos rfl]
      rw [if_pos hc0, Nat.add_zero] at hk
      exact hk
    · have e2 : ¬ D 15 t = nI c := fun q => e (nI_inj (by omega) (by omega) (q.symm.trans hc0))
      rw [if_neg (fun q => e (nI_inj (by omega) (by omega) q)), if_pos (i4 hc4), if_pos (i8 hg), cl (i := c) (by omega), cl (i := gr D t r) (by omega), h5 c _ hc4 hg, nI_add]
      rw [if_neg e2] at hk
      exact hk
def FI (t : Nat) (σ σ' : ks_S) : Prop := ∀ k i j z, ¬ (k = 8 ∧ i = t ∧ j = 0 ∧ z = 6) → ¬ (k = 11 ∧ i = t ∧ z = 4) → σ' k i j z = σ k i j z
theorem CSt_FI {D : Nat → Nat → Int32} {σ σ' : ks_S} {t : Nat} (hF : FI t σ σ') (h : CSt D σ) : CSt D σ' := by
  intro v hv
  have e8 : ∀ z, z ≠ 6 → σ' 8 v 0 z = σ 8 v 0 z := fun z hz => hF 8 v 0 z (by omega) (by omega)
  have e11 : ∀ r z, z ≠ 4 → σ' 11 v r z = σ 11 v r z := fun r z hz => hF 11 v r z (by omega) (by omega)
  rw [e8 0 (by decide), e8 1 (by decide), e8 2 (by decide), e8 3 (by decide), e8 4 (by decide), e8 5 (by decide), e8 7 (by decide)]
  rcases h v hv with q | ⟨a0, a1, a2, a3, a4, a5, a6, a7, a8⟩
  · exact Or.inl q
  · refine Or.inr ⟨a0, a1, a2, a3, a4, a5, a6, a7, fun r hr => ?_⟩
    rw [e11 r 0 (by decide), e11 r 1 (by decide), e11 r 2 (by decide), e11 r 3 (by decide)]
    exact a8 r hr
def IP (D : Nat → Nat → Int32) (σ0 σ : ks_S) (t r : Nat) : Prop := FI t σ0 σ ∧ σ 8 t 0 6 = nI (nn D 19 t + sm (qZ D t) r) ∧ ∀ q, σ 11 t q 4 = if q < r ∧ ou D t q = true then nI (spn D t q) else σ0 11 t q 4
theorem infl1 {N : Nat} (hN : 16 < N) {D : Nat → Nat → Int32} {σ0 : ks_S} {t : Nat} (hST : ST D) (hSG : SG D) (hC : CSt D σ0) (hG : CGr D σ0) (h5 : ∀ c g, c < 4 → g < 8 → σ0 5 c 0 g = nI (lng D c g)) (ht : t < 16) (hth : D 15 t ≠ -1) : ∀ m n r σ, r + m = cn D t → m < n → IP D σ0 σ t r → ∃ σ', f_X4_inflate_10 N n σ t (nI r) = some σ' ∧ IP D σ0 σ' t (cn D t) := by
  have hcn6 : cn D t ≤ 6 := (cn6 hST ht).2
  have h20 : D 20 t = nI (cn D t) := (cn6 hST ht).1
  intro m
  induction m with
  | zero =>
    intro n r σ hr hn h
    obtain ⟨n, rfl⟩ : ∃ n', n = n' + 1 := ⟨n - 1, by omega⟩
    obtain rfl : r = cn D t := by omega
    rcases CSt_FI h.1 hC t ht with ⟨q1, q2⟩ | ⟨a0, a1, a2, a3, a4, a5, a6, a7, a8⟩
    · exact absurd q2 hth
    · exact ⟨σ, by rw [f_X4_inflate_10, a7, h20, if_pos (nI_le (by omega) (by omega))], h⟩
  | succ m ih =>
    intro n r σ hr hn h
    obtain ⟨n, rfl⟩ : ∃ n', n = n' + 1 := ⟨n - 1, by omega⟩
    rcases CSt_FI h.1 hC t ht with ⟨q1, q2⟩ | ⟨a0, a1, a2, a3, a4, a5, a6, a7, a8⟩
    · exact absurd q2 hth
    · have hlt : r < cn D t := by omega
      obtain ⟨u1, u2, u3, u4, u5⟩ := hST.2.1 t r ht hlt
      have hl7 := u2.2
      obtain ⟨c0, c1, c2, c3, _⟩ := core_of hST ht a1
      have hg0 := grp_lt hST hSG ht hlt
      rw [f_X4_inflate_10, a7, h20, if_neg (nI_ge hlt (by omega)), if_pos (i6 (by omega)), cl (i := r) (by omega), f_X1_isOuter, (a8 r hlt).2.2.2]
      by_cases e : D 24 (6 * t + r) = -1
      · have ho : ou D t r = true := decide_eq_true e
        have e3 : σ 3 0 0 (nn D 22 (6 * t + r)) = nI (gr D t r) := by
          rw [h.1 3 _ _ _ (by omega) (by omega), hG _ (by omega)]
          exact (hSG _ (by omega)).1
        have hel : f_X4_longestElsewhere N σ (nI c0) (nI (gr D t r)) = some (nI (spn D t r), σ) := cls_else (N := N) (D := D) (σ := σ) (t := t) (r := r) (c0 := c0) hST (fun c g hc hg => by rw [h.1 5 _ _ _ (by omega) (by omega)]; exact h5 c g hc hg) hg0 c2 c1 4 N 0 rfl (by omega)
        rw [if_pos e, Option.bind_some]
        dsimp only
        rw [if_neg (by decide), (a8 r hlt).2.1, u2.1, if_pos (i8 (by omega)), cl (i := nn D 22 (6 * t + r)) (by omega), e3, a2, c2, hel, Option.bind_some]
        dsimp only
        have b1 : ks_up σ 11 t r 4 (nI (spn D t r)) 8 t 0 6 = nI (nn D 19 t + sm (qZ D t) r) := by
          rw [ks_up_at, if_neg (by omega)]
          exact h.2.1
        have b2 : ks_up σ 11 t r 4 (nI (spn D t r)) 11 t r 2 = nI (ln D t r) := by
          rw [ks_up_at, if_neg (by omega), (a8 r hlt).2.2.1]
          exact u3.1
        rw [b1, b2, ks_up_hit, nI_add, nI_add, nI_1]
        refine ih n (r + 1) _ (by omega) (by omega) ⟨fun k i j z h1 h2 => ?_, ?_, fun q => ?_⟩
        · rw [ks_up_at, if_neg (fun w => h1 w), ks_up_at, if_neg (fun w => h2 ⟨w.1, w.2.1, w.2.2.2⟩)]
          exact h.1 k i j z h1 h2
        · rw [ks_up_hit, sm]
          have : qZ D t r = ln D t r + spn D t r := by
            unfold qZ
            rw [if_pos ⟨by omega, ho⟩]
          rw [this, Nat.add_assoc]
        · rw [ks_up_at, if_neg (by omega), ks_up_at]
          by_cases eq : q = r
          · subst eq
            rw [if_pos ⟨rfl, rfl, rfl, rfl⟩, if_pos ⟨by omega, ho⟩]
          · rw [if_neg (fun w => eq w.2.2.1), h.2.2 q]
            by_cases w : q < r ∧ ou D t q = true
            · rw [if_pos w, if_pos ⟨by omega, w.2⟩]
            · rw [if_neg w, if_neg (fun w2 => w ⟨by omega, w2.2⟩)]
      · have ho := ou_f e
        rw [if_neg e, Option.bind_some]
        dsimp only
        rw [if_pos rfl, nI_1]
        refine ih n (r + 1) σ (by omega) (by omega) ⟨h.1, ?_, fun q => ?_⟩
        · rw [sm]
          have : qZ D t r = 0 := by
            unfold qZ
            rw [if_neg (fun w => by rw [ho] at w; exact absurd w.2 (by decide))]
          rw [this, Nat.add_zero]
          exact h.2.1
        · rw [h.2.2 q]
          by_cases eq : q = r
          · subst eq
            rw [if_neg (by omega), if_neg (fun w => by rw [ho] at w; exact absurd w.2 (by decide))]
          · by_cases w : q < r ∧ ou D t q = true
            · rw [if_pos w, if_pos ⟨by omega, w.2⟩]
            · rw [if_neg w, if_neg (fun w2 => w ⟨by omega, w2.2⟩)]
def FU (σ σ' : ks_S) : Prop := ∀ k i j z, ¬ (k = 8 ∧ z = 6) → ¬ (k = 11 ∧ z = 4) → σ' k i j z = σ k i j z
theorem FU_FI {a b c : ks_S} {t : Nat} (h1 : FU a b) (h2 : FI t b c) : FU a c := fun k i j z q1 q2 => (h2 k i j z (by omega) (by omega)).trans (h1 k i j z q1 q2)
theorem CSt_FU {D : Nat → Nat → Int32} {σ σ' : ks_S} (hF : FU σ σ') (h : CSt D σ) : CSt D σ' := by
  intro v hv
  have e8 : ∀ z, z ≠ 6 → σ' 8 v 0 z = σ 8 v 0 z := fun z hz => hF 8 v 0 z (by omega) (by omega)
  have e11 : ∀ r z, z ≠ 4 → σ' 11 v r z = σ 11 v r z := fun r z hz => hF 11 v r z (by omega) (by omega)
  rw [e8 0 (by decide), e8 1 (by decide), e8 2 (by decide), e8 3 (by decide), e8 4 (by decide), e8 5 (by decide), e8 7 (by decide)]
  rcases h v hv with q | ⟨a0, a1, a2, a3, a4, a5, a6, a7, a8⟩
  · exact Or.inl q
  · refine Or.inr ⟨a0, a1, a2, a3, a4, a5, a6, a7, fun r hr => ?_⟩
    rw [e11 r 0 (by decide), e11 r 1 (by decide), e11 r 2 (by decide), e11 r 3 (by decide)]
    exact a8 r hr
def MP (D : Nat → Nat → Int32) (σ0 σ : ks_S) (t : Nat) : Prop := FU σ0 σ ∧ (∀ v, v < t → D 15 v ≠ -1 → σ 8 v 0 6 = nI (infl D v) ∧ ∀ r, σ 11 v r 4 = if r < cn D v ∧ ou D v r = true then nI (spn D v r) else σ0 11 v r 4) ∧ ∀ v r, t ≤ v → σ 11 v r 4 = σ0 11 v r 4
theorem meas2 {N : Nat} (hN : 16 < N) {D : Nat → Nat → Int32} {σ0 : ks_S} (hST : ST D) (hSG : SG D) (hC : CSt D σ0) (hG : CGr D σ0) (h5 : ∀ c g, c < 4 → g < 8 → σ0 5 c 0 g = nI (lng D c g)) : ∀ m n t σ, t + m = 16 → m < n → MP D σ0 σ t → ∃ σ', f_X4_measure_18 N n σ 16 (nI t) = some σ' ∧ MP D σ0 σ' 16 := by
  intro m
  induction m with
  | zero =>
    intro n t σ ht hn h
    obtain ⟨n, rfl⟩ : ∃ n', n = n' + 1 := ⟨n - 1, by omega⟩
    obtain rfl : t = 16 := by omega
    exact ⟨σ, by rw [f_X4_measure_18, if_pos e16], h⟩
  | succ m ih =>
    intro n t σ ht hn h
    obtain ⟨n, rfl⟩ : ∃ n', n = n' + 1 := ⟨n - 1, by omega⟩
    have ht16 : t < 16 := by omega
    rw [f_X4_measure_18, if_neg (z16 ht16), if_pos (i16 ht16), cl (i := t) (by omega), nI_1]
    have hCs := CSt_FU h.1 hC
    rcases hCs t ht16 with ⟨q1, q2⟩ | ⟨a0, a1, a2, a3, a4, a5, a6, a7, a8⟩
    · rw [if_pos q1]
      refine ih n (t + 1) σ (by omega) (by omega) ⟨h.1, fun v hv hv2 => ?_, fun v r hv => h.2.2 v r (by omega)⟩
      by_cases e : v = t
      · subst e; exact absurd q2 hv2
      · exact h.2.1 v (by omega) hv2
    · rw [if_neg a0]
      have hcn6 : cn D t ≤ 6 := (cn6 hST ht16).2
      obtain ⟨c0, c1, c2, c3, k1, k2, k3, k4, k5, k6, k7, k8, k9⟩ := core_of hST ht16 a1
      have hG' : CGr D σ := fun l hl => by rw [h.1 3 _ _ _ (by omega) (by omega)]; exact hG l hl
      have h5' : ∀ c g, c < 4 → g < 8 → σ 5 c 0 g = nI (lng D c g) := fun c g hc hg => by rw [h.1 5 _ _ _ (by omega) (by omega)]; exact h5 c g hc hg
      have hI0 : IP D σ (ks_up σ 8 t 0 6 (σ 8 t 0 5)) t 0 := by
        refine ⟨fun k i j z w1 w2 => ?_, ?_, fun q => ?_⟩
        · rw [ks_up_at, if_neg (fun w => w1 w)]
        · rw [ks_up_hit, a6]
          exact k7.1
        · rw [if_neg (by omega), ks_up_at, if_neg (by omega)]
      obtain ⟨σ1, b1, b2⟩ := infl1 hN hST hSG hCs hG' h5' ht16 a1 (cn D t) N 0 _ (by omega) (by omega) hI0
      have b1 : f_X4_inflate N σ t = some σ1 := b1
      rw [b1, Option.bind_some]
      refine ih n (t + 1) σ1 (by omega) (by omega) ⟨FU_FI h.1 b2.1, fun v hv hv2 => ?_, fun v r hv => ?_⟩
      · by_cases e : v = t
        · subst e
          refine ⟨b2.2.1, fun r => ?_⟩
          rw [b2.2.2 r, h.2.2 v r (Nat.le_refl _)]
        · rw [b2.1 8 v 0 6 (by omega) (by omega)]
          obtain ⟨d1, d2⟩ := h.2.1 v (by omega) hv2
          refine ⟨d1, fun r => ?_⟩
          rw [b2.1 11 v r 4 (by omega) (by omega)]
          exact d2 r
      · rw [b2.1 11 v r 4 (by omega) (by omega)]
        exact h.2.2 v r (by omega)
def CM (D : Nat → Nat → Int32) (σ : ks_S) : Prop := GL D (fun x => σ 3 0 0 x) ∧ ∀ t, t < 16 → D 15 t ≠ -1 → σ 8 t 0 6 = nI (infl (wg D σ) t) ∧ ∀ r, r < cn D t → σ 11 t r 4 = if ou D t r = true then nI (spn (wg D σ) t r) else 0
/-- what measuring leaves alone -/
def FM (σ σ' : ks_S) : Prop := ∀ k i j z, ¬ (k = 3 ∧ i = 0 ∧ j = 0 ∧ z < 8) → k ≠ 5 → ¬ (k = 8 ∧ z = 6) → ¬ (k = 11 ∧ z = 4) → σ' k i j z = σ k i j z
theorem GL_SG {D : Nat → Nat → Int32} {σ : ks_S} (h : GL D (fun x => σ 3 0 0 x)) : SG (wg D σ) := fun l hl => by
  obtain ⟨y, y1, y2⟩ := h.2.1 l hl
  refine (ok_nI (n := y) ?_ (by omega) (by decide)).1
  unfold wg
  rw [if_pos ⟨rfl, hl⟩]
  exact y2
theorem cls_measure {N : Nat} (hN : 16 < N) {D : Nat → Nat → Int32} {σ : ks_S} (hST : ST D) (hC : CSt D σ) (h0 : ∀ t r, t < 16 → D 15 t ≠ -1 → r < cn D t → ou D t r = false → σ 11 t r 4 = 0) : ∃ σ', f_X4_measure N σ = some σ' ∧ FM σ σ' ∧ CSt D σ' ∧ CM D σ' := by
  obtain ⟨σ1, a1, a2, a3⟩ := cls_groups hN hST hC
  have hw : ∀ k, k ≠ 25 → wg D σ1 k = D k := fun k hk => wg_row hk
  have hST' := ST_same hw hST
  have hC1 := CSt_same hw (CSt_F3 a2 hC)
  have hG1 : CGr (wg D σ1) σ1 := fun l hl => by
    unfold wg
    rw [if_pos ⟨rfl, hl⟩]
  have hSG := GL_SG a3
  obtain ⟨σ2, b1, b2, b3⟩ := cls_longest hN hST' hSG hC1 hG1
  have hC2 := CSt_F5 b2 hC1
  have hG2 := CGr_F5 b2 hG1
  obtain ⟨σ3, c1, c2⟩ := meas2 hN hST' hSG hC2 hG2 b3 16 N 0 σ2 rfl (by omega) ⟨fun _ _ _ _ _ _ => rfl, fun v hv => by omega, fun _ _ _ => rfl⟩
  have e3 : ∀ z, σ3 3 0 0 z = σ1 3 0 0 z := fun z => by rw [c2.1 3 _ _ _ (by omega) (by omega), b2 3 _ _ _ (by decide)]
  have ew : wg D σ3 = wg D σ1 := by
    funext k s
    unfold wg
    rw [e3]
  refine ⟨σ3, ?_, fun k i j z w1 w2 w3 w4 => ?_, ?_, ?_, fun t ht hth => ?_⟩
  · unfold f_X4_measure
    rw [a1, Option.bind_some, b1, Option.bind_some]
    exact c1
  · rw [c2.1 k i j z w3 w4, b2 k i j z w2, a2 k i j z w1]
  · exact CSt_same (fun k hk => (hw k hk).symm) (CSt_FU c2.1 hC2)
  · have : (fun x => σ3 3 0 0 x) = (fun x => σ1 3 0 0 x) := by
      funext z
      exact e3 z
    rw [this]
    exact a3
  · rw [ew]
    obtain ⟨d1, d2⟩ := c2.2.1 t ht (by rw [hw 15 (by decide)]; exact hth)
    refine ⟨d1, fun r hr => ?_⟩
    rw [d2 r, cn_same hw, ou_same hw]
    by_cases e : ou D t r = true
    · rw [if_pos ⟨hr, e⟩, if_pos e]
    · rw [if_neg (fun w => e w.2), if_neg e, b2 11 _ _ _ (by decide), a2 11 _ _ _ (by omega)]
      refine h0 t r ht hth hr ?_
      cases q : ou D t r
      · rfl
      · exact absurd q e
