/-! PURE: the class measures. -/
theorem nI_max {a b : Nat} (ha : a < 2 ^ 31) (hb : b < 2 ^ 31) : (if nI a < nI b then nI b else nI a) = nI (if a < b then b else a) := by
  by_cases h : a < b
  · rw [if_pos (nI_lt h hb), if_pos h]
  · rw [if_neg (nI_nlt (by omega) ha), if_neg h]
def lQ (D : Nat → Nat → Int32) (t g : Nat) : Nat → Nat := fun r => if ou D t r = true ∧ gr D t r = g then ln D t r else 0
def lF (D : Nat → Nat → Int32) (c g : Nat) : Nat → Nat := fun t => if D 15 t = nI c then mx (lQ D t g) (cn D t) else 0
theorem lng_lF (D : Nat → Nat → Int32) (c g : Nat) : lng D c g = mx (lF D c g) 16 := rfl
def lP (D : Nat → Nat → Int32) (c g t r : Nat) : Nat := if mx (lF D c g) t < (if D 15 t = nI c then mx (lQ D t g) r else 0) then (if D 15 t = nI c then mx (lQ D t g) r else 0) else mx (lF D c g) t
theorem lP_next (D : Nat → Nat → Int32) (c g t : Nat) : lP D c g (t + 1) 0 = lP D c g t (cn D t) := by
  have h1 : lP D c g (t + 1) 0 = mx (lF D c g) (t + 1) := by
    unfold lP
    have : (if D 15 (t + 1) = nI c then mx (lQ D (t + 1) g) 0 else 0) = 0 := by
      split <;> rfl
    rw [this, if_neg (by omega)]
  rw [h1, mx]
  rfl
theorem ln100 {D : Nat → Nat → Int32} {t r : Nat} (hST : ST D) (ht : t < 16) (hr : r < cn D t) : ln D t r ≤ 100 := (hST.2.1 t r ht hr).2.2.1.2
theorem lQ100 {D : Nat → Nat → Int32} {t g r : Nat} (hST : ST D) (ht : t < 16) (hr : r ≤ cn D t) : mx (lQ D t g) r ≤ 100 := mx_le (fun i hi => by
  unfold lQ
  split
  · exact ln100 hST ht (by omega)
  · omega)
theorem lF100 {D : Nat → Nat → Int32} {c g t : Nat} (hST : ST D) (ht : t ≤ 16) : mx (lF D c g) t ≤ 100 := mx_le (fun i hi => by
  unfold lF
  split
  · exact lQ100 hST (by omega) (Nat.le_refl _)
  · omega)
theorem lng100 {D : Nat → Nat → Int32} {c g : Nat} (hST : ST D) : lng D c g ≤ 100 := lF100 hST (Nat.le_refl _)
theorem lP100 {D : Nat → Nat → Int32} {c g t r : Nat} (hST : ST D) (ht : t < 16) (hr : r ≤ cn D t) : lP D c g t r ≤ 100 := by
  have h1 := lF100 (c := c) (g := g) hST (show t ≤ 16 by omega)
  have h2 := lQ100 (g := g) hST ht hr
  unfold lP
  split
  · split
    · exact h2
    · omega
  · exact h1
def F5 (σ σ' : ks_S) : Prop := ∀ k i j z, k ≠ 5 → σ' k i j z = σ k i j z
theorem CSt_F5 {D : Nat → Nat → Int32} {σ σ' : ks_S} (hF : F5 σ σ') (h : CSt D σ) : CSt D σ' := by
  intro t ht
  have e8 : ∀ z, σ' 8 t 0 z = σ 8 t 0 z := fun z => hF 8 t 0 z (by omega)
  have e11 : ∀ r z, σ' 11 t r z = σ 11 t r z := fun r z => hF 11 t r z (by omega)
  simp only [e8, e11]
  exact h t ht
theorem CGr_F5 {D : Nat → Nat → Int32} {σ σ' : ks_S} (hF : F5 σ σ') (h : CGr D σ) : CGr D σ' := fun l hl => by
  rw [hF 3 0 0 l (by decide)]
  exact h l hl
theorem F5_trans {a b c : ks_S} (h1 : F5 a b) (h2 : F5 b c) : F5 a c := fun k i j z h => (h2 k i j z h).trans (h1 k i j z h)
theorem F5_up (σ : ks_S) (i j z : Nat) (v : Int32) : F5 σ (ks_up σ 5 i j z v) := fun k i' j' z' h => by
  rw [ks_up_at, if_neg (fun q => h q.1)]
theorem fill5 {N : Nat} {a : Nat} {x : Int32} : ∀ m n i σ, i + m = 8 → m < n → ∃ σ', f_fill_5_5 N n σ a x (nI i) 8 = some σ' ∧ F5 σ σ' ∧ (∀ z, i ≤ z → z < 8 → σ' 5 a 0 z = x) ∧ ∀ b z, b ≠ a ∨ z < i → σ' 5 b 0 z = σ 5 b 0 z := by
  intro m
  induction m with
  | zero =>
    intro n i σ hi hn
    obtain ⟨n, rfl⟩ : ∃ n', n = n' + 1 := ⟨n - 1, by omega⟩
    obtain rfl : i = 8 := by omega
    exact ⟨σ, by rw [f_fill_5_5, if_pos e8], fun _ _ _ _ _ => rfl, fun z h1 h2 => by omega, fun _ _ _ => rfl⟩
  | succ m ih =>
    intro n i σ hi hn
    obtain ⟨n, rfl⟩ : ∃ n', n = n' + 1 := ⟨n - 1, by omega⟩
    have hi8 : i < 8 := by omega
    rw [f_fill_5_5, if_neg (z8 hi8), if_pos (i8 hi8), cl (i := i) (by omega), nI_1]
    obtain ⟨σ', a1, a2, a3, a4⟩ := ih n (i + 1) (ks_up σ 5 a 0 i x) (by omega) (by omega)
    refine ⟨σ', a1, F5_trans (F5_up σ a 0 i x) a2, fun z h1 h2 => ?_, fun b z h => ?_⟩
    · by_cases e : z = i
      · subst e
        rw [a4 a z (Or.inr (by omega)), ks_up_hit]
      · exact a3 z (by omega) h2
    · rw [a4 b z (by omega), ks_up_at, if_neg (by omega)]
def LPo (D : Nat → Nat → Int32) (σ0 σ : ks_S) (t r : Nat) : Prop := F5 σ0 σ ∧ ∀ c g, c < 4 → g < 8 → σ 5 c 0 g = nI (lP D c g t r)
theorem long1 {N : Nat} {D : Nat → Nat → Int32} {σ0 : ks_S} {t : Nat} (hST : ST D) (hSG : SG D) (hC : CSt D σ0) (hG : CGr D σ0) (ht : t < 16) {k2 : ks_S → Int32 → Option ks_S} {k33 : ks_S → Int32 → Int32 → Option ks_S} : ∀ m n r σ, r + m = cn D t → m < n → LPo D σ0 σ t r → ∃ σ', f_X4_findLongest_46 N k2 k33 n σ 16 (nI t) t (nI r) = k33 σ' 16 (nI (t + 1)) ∧ LPo D σ0 σ' (t + 1) 0 := by
  have hend : ∀ σ, LPo D σ0 σ t (cn D t) → LPo D σ0 σ (t + 1) 0 := fun σ h => ⟨h.1, fun c g hc hg => by rw [lP_next]; exact h.2 c g hc hg⟩
  have hcn6 : cn D t ≤ 6 := (cn6 hST ht).2
  have h20 : D 20 t = nI (cn D t) := (cn6 hST ht).1
  intro m
  induction m with
  | zero =>
    intro n r σ hr hn h
    obtain ⟨n, rfl⟩ : ∃ n', n = n' + 1 := ⟨n - 1, by omega⟩
    obtain rfl : r = cn D t := by omega
    rw [f_X4_findLongest_46, nI_1]
    rcases CSt_F5 h.1 hC t ht with ⟨q1, q2⟩ | ⟨a0, a1, a2, a3, a4, a5, a6, a7, a8⟩
    · rw [if_pos q1]
      exact ⟨σ, rfl, hend σ h⟩
    · rw [if_neg a0, a7, h20, if_pos (nI_le (by omega) (by omega))]
      exact ⟨σ, rfl, hend σ h⟩
  | succ m ih =>
    intro n r σ hr hn h
    obtain ⟨n, rfl⟩ : ∃ n', n = n' + 1 := ⟨n - 1, by omega⟩
    rw [f_X4_findLongest_46, nI_1]
    rcases CSt_F5 h.1 hC t ht with ⟨q1, q2⟩ | ⟨a0, a1, a2, a3, a4, a5, a6, a7, a8⟩
    · have := cn0 hST ht q2
      omega
    · have hlt : r < cn D t := by omega
      obtain ⟨u1, u2, u3, u4, u5⟩ := hST.2.1 t r ht hlt
      have hl7 := u2.2
      obtain ⟨c0, c1, c2, c3, _⟩ := core_of hST ht a1
      have hg0 := grp_lt hST hSG ht hlt
      rw [if_neg a0, a7, h20, if_neg (nI_ge hlt (by omega)), if_pos (i6 (by omega)), cl (i := r) (by omega), (a8 r hlt).2.1, u2.1, if_pos (i8 (by omega)), f_X1_isOuter, (a8 r hlt).2.2.2]
      by_cases e : D 24 (6 * t + r) = -1
      · have ho : ou D t r = true := decide_eq_true e
        have e3 : σ 3 0 0 (nn D 22 (6 * t + r)) = nI (gr D t r) := by
          rw [CGr_F5 h.1 hG _ (by omega)]
          exact (hSG _ (by omega)).1
        rw [if_pos e, Option.bind_some]
        dsimp only
        rw [if_neg (by decide), a2, c2, if_pos (i4 c1), if_pos (i4 c1), cl (i := nn D 22 (6 * t + r)) (by omega), e3, if_pos (i8 hg0), if_pos (i8 hg0), cl (i := c0) (by omega), cl (i := gr D t r) (by omega), h.2 c0 _ c1 hg0, (a8 r hlt).2.2.1, show D 23 (6 * t + r) = nI (ln D t r) from u3.1, nI_max (by have := lP100 (c := c0) (g := gr D t r) hST ht (show r ≤ cn D t by omega); omega) (by have := ln100 hST ht hlt; omega), nI_1]
        refine ih n (r + 1) _ (by omega) (by omega) ⟨F5_trans h.1 (F5_up σ _ _ _ _), fun c g hc hg => ?_⟩
        rw [ks_up_at]
        by_cases q : c = c0 ∧ g = gr D t r
        · obtain ⟨rfl, rfl⟩ := q
          rw [if_pos ⟨rfl, rfl, rfl, rfl⟩]
          congr 1
          have hQ : lQ D t (gr D t r) r = ln D t r := by unfold lQ; rw [if_pos ⟨ho, rfl⟩]
          unfold lP
          rw [if_pos c2, if_pos c2, mx, hQ]
          generalize mx (lF D c (gr D t r)) t = a
          generalize mx (lQ D t (gr D t r)) r = b
          generalize ln D t r = l
          repeat' split
          all_goals omega
        · rw [if_neg (fun w => q ⟨w.2.1, w.2.2.2⟩), h.2 c g hc hg]
          congr 1
          unfold lP
          by_cases e2 : D 15 t = nI c
          · have ec : c = c0 := nI_inj (by omega) (by omega) (e2.symm.trans c2)
            have hQ : lQ D t g r = 0 := by
              unfold lQ
              rw [if_neg (fun w => q ⟨ec, w.2.symm⟩)]
            rw [if_pos e2, if_pos e2, mx, hQ, if_neg (show ¬ mx (lQ D t g) r < 0 by omega)]
          · rw [if_neg e2, if_neg e2]
      · rw [if_neg e, Option.bind_some]
        dsimp only
        rw [if_pos rfl, nI_1]
        refine ih n (r + 1) σ (by omega) (by omega) ⟨h.1, fun c g hc hg => ?_⟩
        rw [h.2 c g hc hg]
        congr 1
        have hQ : lQ D t g r = 0 := by
          unfold lQ
          rw [if_neg]
          intro w
          have := ou_f e
          rw [w.1] at this
          exact absurd this (by decide)
        unfold lP
        rw [mx, hQ, if_neg (show ¬ mx (lQ D t g) r < 0 by omega)]
theorem long2 {N : Nat} (hN : 16 < N) {D : Nat → Nat → Int32} {σ0 : ks_S} (hST : ST D) (hSG : SG D) (hC : CSt D σ0) (hG : CGr D σ0) {k2 : ks_S → Int32 → Option ks_S} : ∀ m n t σ, t + m = 16 → m < n → LPo D σ0 σ t 0 → ∃ σ', f_X4_findLongest_33 N k2 n σ 16 (nI t) = some σ' ∧ LPo D σ0 σ' 16 0 := by
  intro m
  induction m with
  | zero =>
    intro n t σ ht hn h
    obtain ⟨n, rfl⟩ : ∃ n', n = n' + 1 := ⟨n - 1, by omega⟩
    obtain rfl : t = 16 := by omega
    exact ⟨σ, by rw [f_X4_findLongest_33, if_pos e16], h⟩
  | succ m ih =>
    intro n t σ ht hn h
    obtain ⟨n, rfl⟩ : ∃ n', n = n' + 1 := ⟨n - 1, by omega⟩
    have ht16 : t < 16 := by omega
    rw [f_X4_findLongest_33, if_neg (z16 ht16), if_pos (i16 ht16), cl (i := t) (by omega)]
    have hcn6 : cn D t ≤ 6 := (cn6 hST ht16).2
    obtain ⟨σ1, a1, a2⟩ := long1 (N := N) hST hSG hC hG ht16 (k2 := k2) (k33 := f_X4_findLongest_33 N k2 n) (cn D t) N 0 σ (by omega) (by omega) h
    obtain ⟨σ2, b1, b2⟩ := ih n (t + 1) σ1 (by omega) (by omega) a2
    exact ⟨σ2, a1.trans b1, b2⟩
theorem long0 {N : Nat} (hN : 16 < N) : ∀ m n c σ, c + m = 4 → m < n → ∃ k σ', f_X4_findLongest_2 N n σ (nI c) = f_X4_findLongest_33 N k N σ' 16 (nI 0) ∧ F5 σ σ' ∧ (∀ b z, c ≤ b → b < 4 → z < 8 → σ' 5 b 0 z = 0) ∧ ∀ b z, b < c → σ' 5 b 0 z = σ 5 b 0 z := by
  intro m
  induction m with
  | zero =>
    intro n c σ hc hn
    obtain ⟨n, rfl⟩ : ∃ n', n = n' + 1 := ⟨n - 1, by omega⟩
    obtain rfl : c = 4 := by omega
    exact ⟨_, σ, by rw [f_X4_findLongest_2, if_pos e4]; rfl, fun _ _ _ _ _ => rfl, fun b z h1 h2 => by omega, fun _ _ _ => rfl⟩
  | succ m ih =>
    intro n c σ hc hn
    obtain ⟨n, rfl⟩ : ∃ n', n = n' + 1 := ⟨n - 1, by omega⟩
    have hc4 : c < 4 := by omega
    obtain ⟨σ1, a1, a2, a3, a4⟩ := fill5 (N := N) (a := c) (x := 0) 8 N 0 σ rfl (by omega)
    have a1 : f_fill_5 N σ c 0 = some σ1 := a1
    rw [f_X4_findLongest_2, if_neg (z4 hc4), if_pos (i4 hc4), cl (i := c) (by omega), a1, Option.bind_some, nI_1]
    obtain ⟨k, σ', b1, b2, b3, b4⟩ := ih n (c + 1) σ1 (by omega) (by omega)
    refine ⟨k, σ', b1, F5_trans a2 b2, fun b z h1 h2 h3 => ?_, fun b z h => ?_⟩
    · by_cases e : b = c
      · subst e
        rw [b4 b z (by omega)]
        exact a3 z (by omega) h3
      · exact b3 b z (by omega) h2 h3
    · rw [b4 b z (by omega)]
      exact a4 b z (Or.inl (by omega))
theorem cls_longest {N : Nat} (hN : 16 < N) {D : Nat → Nat → Int32} {σ : ks_S} (hST : ST D) (hSG : SG D) (hC : CSt D σ) (hG : CGr D σ) : ∃ σ', f_X4_findLongest N σ = some σ' ∧ F5 σ σ' ∧ ∀ c g, c < 4 → g < 8 → σ' 5 c 0 g = nI (lng D c g) := by
  obtain ⟨k, σ1, a1, a2, a3, _⟩ := long0 hN 4 N 0 σ rfl (by omega)
  have h0 : LPo D σ σ1 0 0 := ⟨a2, fun c g hc hg => by
    rw [a3 c g (by omega) hc hg]
    have : lP D c g 0 0 = 0 := by
      unfold lP
      have : (if D 15 0 = nI c then mx (lQ D 0 g) 0 else 0) = 0 := by
        split <;> rfl
      rw [this, if_neg (by omega)]
      rfl
    rw [this]
    rfl⟩
  obtain ⟨σ', b1, b2⟩ := long2 hN hST hSG hC hG (k2 := k) 16 N 0 σ1 rfl (by omega) h0
  refine ⟨σ', ?_, b2.1, fun c g hc hg => ?_⟩
  · have : f_X4_findLongest N σ = f_X4_findLongest_2 N N σ (nI 0) := rfl
    rw [this, a1, b1]
  · rw [b2.2 c g hc hg, lng_lF]
    congr 1
    unfold lP
    have h1 : mx (lF D c g) 16 ≤ 100 := lF100 hST (Nat.le_refl _)
    have : (if D 15 16 = nI c then mx (lQ D 16 g) 0 else 0) = 0 := by
      split <;> rfl
    rw [this, if_neg (by omega)]
