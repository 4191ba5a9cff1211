/-! PURE: the class works. -/
def R4 (Y : Nat → Nat → Int32) : Prop := ∀ g, g < 8 → ok Y 44 g 4
def CK (D Y : Nat → Nat → Int32) (c k : Nat) : Prop := (Y 39 c = -1 ∧ Y 40 c = 0) ∨ ∃ t, t < 16 ∧ Y 39 c = nI t ∧ D 15 t = nI c ∧ (Y 40 c = 1 ∨ (Y 40 c = 2 ∧ ok Y 30 t (cn D t) ∧ nn Y 30 t < cn D t) ∨ (Y 40 c = 3 ∧ ok Y 30 t (cn D t) ∧ nn Y 30 t < cn D t ∧ ok Y 31 t 100 ∧ k ≤ nn Y 31 t ∧ Y 43 (4 * gr D t (nn Y 30 t)) = nI c ∧ 1 ≤ nn Y 44 (gr D t (nn Y 30 t))))
def shS (σ : ks_S) (g i : Nat) : ks_S := fun k a b z => if k = 13 ∧ a = g ∧ b = 0 ∧ z + 1 < i then σ 13 g 0 (z + 1) else σ k a b z
theorem cls_drop {N : Nat} {σ : ks_S} {g m : Nat} (hm : m ≤ 4) (h12 : σ 12 g 0 1 = nI m) : ∀ d n i, i + d = m → d < n → 1 ≤ i → f_X2_dropFirst_2 N n (shS σ g i) g (nI i) = some (ks_up (shS σ g m) 12 g 0 1 (nI (m - 1))) := by
  intro d
  induction d with
  | zero =>
    intro n i hi hn h1
    obtain ⟨n, rfl⟩ : ∃ n', n = n' + 1 := ⟨n - 1, by omega⟩
    obtain rfl : i = m := by omega
    have e12 : shS σ g i 12 g 0 1 = nI i := by unfold shS; rw [if_neg (by omega)]; exact h12
    rw [f_X2_dropFirst_2, e12, if_pos (nI_le (Nat.le_refl _) (by omega))]
    obtain ⟨y, rfl⟩ : ∃ y, i = y + 1 := ⟨i - 1, by omega⟩
    rw [nI_pred, Nat.add_sub_cancel]
    by_cases hy : y = 0
    · subst hy
      rw [if_neg (by decide)]
      rfl
    · rw [if_pos (show (0 : Int32) < nI y from nI_lt (a := 0) (by omega) (by omega))]
  | succ d ih =>
    intro n i hi hn h1
    obtain ⟨n, rfl⟩ : ∃ n', n = n' + 1 := ⟨n - 1, by omega⟩
    have e12 : shS σ g i 12 g 0 1 = nI m := by unfold shS; rw [if_neg (by omega)]; exact h12
    obtain ⟨y, hy⟩ : ∃ y, i = y + 1 := ⟨i - 1, by omega⟩
    have e1 : nI i - 1 = nI y := by rw [hy, nI_pred]
    rw [f_X2_dropFirst_2, e12, if_neg (nI_ge (by omega) (by omega)), if_pos (i4 (by omega)), e1, if_pos (i4 (by omega)), cl (i := i) (by omega), cl (i := y) (by omega), nI_1]
    have e : ks_up (shS σ g i) 13 g 0 y (shS σ g i 13 g 0 i) = shS σ g (i + 1) := by
      funext k a b z
      rw [ks_up_at]
      unfold shS
      by_cases q : k = 13 ∧ a = g ∧ b = 0 ∧ z = y
      · obtain ⟨rfl, rfl, rfl, rfl⟩ := q
        rw [if_pos ⟨rfl, rfl, rfl, rfl⟩, if_neg (by omega), if_pos (by omega), hy]
      · rw [if_neg q]
        by_cases q2 : k = 13 ∧ a = g ∧ b = 0 ∧ z + 1 < i
        · rw [if_pos q2, if_pos (by omega)]
        · rw [if_neg q2, if_neg (by omega)]
    rw [e]
    exact ih n (i + 1) (by omega) (by omega) (by omega)
theorem shS_1 (σ : ks_S) (g : Nat) : shS σ g 1 = σ := by
  funext k a b z
  unfold shS
  rw [if_neg (by omega)]
theorem cls_outer {N : Nat} {D : Nat → Nat → Int32} {σ : ks_S} {t : Nat} (ht : t < 16) (hcn : ok D 20 t 6) (hc7 : σ 8 t 0 7 = D 20 t) (h3 : ∀ r, r < cn D t → σ 11 t r 3 = D 24 (6 * t + r)) : ∀ m n r, m < n → cn D t < r + (m + 1) → r ≤ cn D t → f_X3_outerFrom_2 N n σ t (nI r) = some (nI (nxo D t (m + 1) r), σ) := by
  have hcn6 : cn D t ≤ 6 := hcn.2
  have h20 : D 20 t = nI (cn D t) := hcn.1
  intro m
  induction m with
  | zero =>
    intro n r hn h1 h2
    obtain ⟨n, rfl⟩ : ∃ n', n = n' + 1 := ⟨n - 1, by omega⟩
    rw [f_X3_outerFrom_2, hc7, h20, if_pos (nI_le (by omega) (by omega)), nxo, if_pos (by omega)]
  | succ m ih =>
    intro n r hn h1 h2
    obtain ⟨n, rfl⟩ : ∃ n', n = n' + 1 := ⟨n - 1, by omega⟩
    rw [f_X3_outerFrom_2, hc7, h20, nxo]
    by_cases e : cn D t ≤ r
    · rw [if_pos (nI_le e (by omega)), if_pos e]
    · rw [if_neg (nI_ge (by omega) (by omega)), if_neg e, if_pos (i6 (by omega)), cl (by omega), f_X1_isOuter, h3 r (by omega)]
      by_cases e2 : ou D t r = true
      · have : D 24 (6 * t + r) = -1 := of_decide_eq_true e2
        rw [if_pos this, Option.bind_some, if_pos e2]
        dsimp only
        rw [if_neg (by decide)]
      · have : ¬ D 24 (6 * t + r) = -1 := fun q => e2 (decide_eq_true q)
        rw [if_neg this, Option.bind_some, if_neg e2]
        dsimp only
        rw [if_pos rfl, nI_1]
        exact ih n (r + 1) (by omega) (by omega) (by omega)
/-- the end of a job -/
theorem cls_fin {D B : Nat → Nat → Int32} {s : ks_S} {c t : Nat} (hc : c < 4) (ht : t < 16) (hd : D 15 t = nI c) (hC : CSt D s) (hR : RC D s B) (h39 : B 39 c = nI t) (hnow : s 0 0 0 7 = B 14 13 + 1) : ∃ s', ((f_X3_isAllDone s t).bind fun (r15, s14) => (if r15 = 0 then some ((0 : Int32), s14) else ((f_X3_endJob s14 t ((s14 0 0 0 7))).bind fun s18 => some (1, s18)))) = some (if aEnds D B c t = true then 1 else 0, s') ∧ RC D s' (aFin D B c t) ∧ FC s s' := by
  obtain ⟨hT, hQ, hK, hS, hW, hB, hZ⟩ := hR
  have hst : s 9 t 0 3 = B 40 c := by
    rcases hS.1 c hc with w | ⟨v, v1, v2, v3, _⟩
    · rw [h39] at w
      exact absurd w.1 (nI_n1 (by omega))
    · rw [nI_inj (by omega) (by omega) (h39.symm.trans v2)]
      exact v3
  have hE : aEnds D B c t = true ↔ (¬ 1 < B 40 c ∧ ¬ B 29 t < D 19 t ∧ D 20 t ≤ B 30 t) := by
    unfold aEnds
    rw [decide_eq_true_eq]
  have h40 : B 40 c = 1 ∨ B 40 c = 2 ∨ B 40 c = 3 := by
    rw [← hst]
    rcases hS.2 t ht with z | ⟨z, _⟩
    · exact Or.inl z
    · exact Or.inr z
  rcases hC t ht with ⟨_, w⟩ | ⟨a0, a1, a2, a3, a4, a5, a6, a7, a8⟩
  · rw [hd] at w
    exact absurd w (nI_n1 (by omega))
  · unfold f_X3_isAllDone aFin
    rw [hst, (hT t ht).2.2.2.1, (hT t ht).2.2.2.2.1, a6, a7]
    have hno : ¬ aEnds D B c t = true → ∃ s', some ((0 : Int32), s) = some (if aEnds D B c t = true then 1 else 0, s') ∧ RC D s' (if aEnds D B c t = true then aEnd D B t else B) ∧ FC s s' := fun q => by
      rw [if_neg q, if_neg q]
      exact ⟨s, rfl, ⟨hT, hQ, hK, hS, hW, hB, hZ⟩, FC_refl s⟩
    by_cases h1 : B 40 c = 1
    · rw [if_pos h1]
      by_cases h2 : B 29 t < D 19 t
      · rw [if_pos h2, Option.bind_some]
        dsimp only
        rw [if_pos rfl]
        exact hno (fun q => (hE.mp q).2.1 h2)
      · rw [if_neg h2]
        by_cases h3 : B 30 t < D 20 t
        · rw [if_pos h3, Option.bind_some]
          dsimp only
          rw [if_pos rfl]
          exact hno (fun q => by have := (hE.mp q).2.2; rw [← Int32.not_lt] at this; exact this h3)
        · rw [if_neg h3, Option.bind_some]
          dsimp only
          have hends : aEnds D B c t = true := hE.mpr ⟨by rw [h1]; decide, h2, by rw [← Int32.not_lt]; exact h3⟩
          rw [if_neg (by decide), if_pos hends, if_pos hends]
          have hend : f_X3_endJob s t (s 0 0 0 7) = some (ks_up (ks_up (ks_up (ks_up (ks_up s 9 t 0 1 0) 9 t 0 8 (B 35 t + 1)) 9 t 0 11 (aLat B t)) 9 t 0 10 (if B 36 t < aLat B t then aLat B t else B 36 t)) 9 t 0 9 (if aLat B t ≤ D 18 t then s 9 t 0 9 else s 9 t 0 9 + 1)) := by
            unfold f_X3_endJob f_X0_end
            have b1 : ks_up s 9 t 0 1 0 9 t 0 8 = B 35 t := by rw [ks_up_at, if_neg (by omega)]; exact (hT t ht).2.2.2.2.2.2.2.1
            have b2 : ∀ v, ks_up (ks_up s 9 t 0 1 0) 9 t 0 8 v 9 t 0 2 = B 28 t := fun v => by rw [ks_up_at, if_neg (by omega), ks_up_at, if_neg (by omega)]; exact (hT t ht).2.2.1
            rw [b1, b2, hnow, a5, show B 14 13 + 1 - B 28 t = aLat B t from rfl]
            have b3 : ks_up (ks_up (ks_up s 9 t 0 1 0) 9 t 0 8 (B 35 t + 1)) 9 t 0 11 (aLat B t) 9 t 0 10 = B 36 t := by rw [ks_up_at, if_neg (by omega), ks_up_at, if_neg (by omega), ks_up_at, if_neg (by omega)]; exact (hT t ht).2.2.2.2.2.2.2.2.1
            have b4 : ks_up (ks_up (ks_up s 9 t 0 1 0) 9 t 0 8 (B 35 t + 1)) 9 t 0 11 (aLat B t) 9 t 0 11 = aLat B t := ks_up_hit _ _ _ _ _ _
            rw [b3, b4]
            have b5 : ∀ v, ks_up (ks_up (ks_up (ks_up s 9 t 0 1 0) 9 t 0 8 (B 35 t + 1)) 9 t 0 11 (aLat B t)) 9 t 0 10 v 9 t 0 11 = aLat B t := fun v => by rw [ks_up_at, if_neg (by omega), b4]
            have b6 : ∀ v, ks_up (ks_up (ks_up (ks_up s 9 t 0 1 0) 9 t 0 8 (B 35 t + 1)) 9 t 0 11 (aLat B t)) 9 t 0 10 v 9 t 0 9 = s 9 t 0 9 := fun v => by rw [ks_up_at, if_neg (by omega), ks_up_at, if_neg (by omega), ks_up_at, if_neg (by omega), ks_up_at, if_neg (by omega)]
            rw [b5]
            by_cases q : aLat B t ≤ D 18 t
            · rw [if_pos q, if_pos q, Option.bind_some]
              congr 1
              exact (ks_up_same (b6 _)).symm
            · rw [if_neg q, if_neg q, Option.bind_some, b6]
          rw [hend, Option.bind_some]
          refine ⟨_, rfl, ?_, FC_up (by omega) (FC_up (by omega) (FC_up (by omega) (FC_up (by omega) (FC_up (by omega) (FC_refl s)))))⟩
          unfold aEnd
          generalize aLat B t = L at *
          generalize hx1 : (if B 36 t < L then L else B 36 t) = x1 at *
          refine ⟨fun v hv => ?_, fun v r hv hr => ?_, fun z hz => ?_, ⟨fun z hz => ?_, fun v hv => ?_⟩, fun g' hg' => ?_, ?_, fun v r hv hr hr2 => ?_⟩
          · have := hT v hv
            by_cases e : v = t
            · subst e
              simp [ks_up_at, au] at this ⊢
              exact ⟨this.2.1, this.2.2.1, this.2.2.2.1, this.2.2.2.2.1, this.2.2.2.2.2.1, this.2.2.2.2.2.2.1⟩
            · simp [ks_up_at, au, e] at this ⊢
              exact this
          · have := hQ v r hv hr
            by_cases e : v = t
            · subst e
              simp [ks_up_at, au] at this ⊢
              exact this.2
            · simp [ks_up_at, au, e] at this ⊢
              exact this
          · have := hK z hz
            simp [ks_up_at, au] at this ⊢
            exact this
          · have := hS.1 z hz
            simp [ks_up_at, au] at this ⊢
            exact this
          · have := hS.2 v hv
            rw [nn_e (A := B) (k := 30) (s := v) (by simp [au])]
            simp [ks_up_at, au] at this ⊢
            exact this
          · have := hW g' hg'
            rw [nn_e (A := B) (k := 44) (s := g') (by simp [au])]
            simp [ks_up_at, au] at this ⊢
            exact this
          · unfold RB at *
            rw [au_hit, ← hB]
            have hj : ∀ j, j < 16 → j ≠ t → ks_up (ks_up (ks_up (ks_up (ks_up s 9 t 0 1 0) 9 t 0 8 (B 35 t + 1)) 9 t 0 11 L) 9 t 0 10 x1) 9 t 0 9 (if L ≤ D 18 t then s 9 t 0 9 else s 9 t 0 9 + 1) 9 j 0 9 = s 9 j 0 9 := fun j _ hj => by
              simp [ks_up_at, hj]
            by_cases q : L ≤ D 18 t
            · rw [if_pos q] at hj ⊢
              rw [if_pos q]
              refine sI_congr (fun j hj2 => ?_)
              by_cases e : j = t
              · subst e
                exact ks_up_hit _ _ _ _ _ _
              · exact hj j hj2 e
            · rw [if_neg q] at hj ⊢
              rw [if_neg q]
              exact sI_one ht hj (ks_up_hit _ _ _ _ _ _)
          · have := hZ v r hv hr hr2
            simp [ks_up_at] at this ⊢
            exact this
    · rw [if_neg h1, Option.bind_some]
      dsimp only
      rw [if_pos rfl]
      refine hno (fun q => (hE.mp q).1 ?_)
      rcases h40 with z | z | z
      · exact absurd z h1
      · rw [z]; decide
      · rw [z]; decide
