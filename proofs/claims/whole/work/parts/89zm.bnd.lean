/-! PURE: bounds. -/
theorem ref_outer' {μ : ks_S} {t r : Nat} (hi : 6 * t + r < 96) : f_X5_isOuter μ (nI t) (nI r) = some (if ou (sD μ) t r = true then 1 else 0, μ) := ref_outer (RR_refl μ) hi
theorem sp27 {N : Nat} {μ : ks_S} {t c t1 r1 : Nat} {x3 : Int32} {k5 : ks_S → Int32 → Int32 → Int32 → Int32 → Option (Int32 × ks_S)} {k17 : ks_S → Int32 → Int32 → Int32 → Int32 → Int32 → Int32 → Option (Int32 × ks_S)} (hST : ST (sD μ)) (hSG : SG (sD μ)) (ht : t < 16) (hc : c < 4) (ht1 : t1 < 16) (hr1 : r1 < cn (sD μ) t1) (h15 : sD μ 15 t = nI c) (hne : ¬ sD μ 15 t1 = nI c) : ∀ m n r a, r + m = cn (sD μ) t → m < n → a ≤ 100 → f_X5_spinOf_27 N k5 k17 n μ (nI t1) (nI r1) x3 (nI c) (nI (if a < mx (lQ (sD μ) t (gr (sD μ) t1 r1)) r then mx (lQ (sD μ) t (gr (sD μ) t1 r1)) r else a)) (nI t) (nI r) = k17 μ (nI t1) (nI r1) x3 (nI c) (nI (if a < mx (lQ (sD μ) t (gr (sD μ) t1 r1)) (cn (sD μ) t) then mx (lQ (sD μ) t (gr (sD μ) t1 r1)) (cn (sD μ) t) else a)) (nI (t + 1)) := by
  have hcn6 : cn (sD μ) t ≤ 6 := (cn6 hST ht).2
  have h20 : sD μ 20 t = nI (cn (sD μ) t) := (cn6 hST ht).1
  have hcn61 : cn (sD μ) t1 ≤ 6 := (cn6 hST ht1).2
  obtain ⟨_, v2, _⟩ := hST.2.1 t1 r1 ht1 hr1
  have hl1 := v2.2
  intro m
  induction m with
  | zero =>
    intro n r a hr hn ha
    obtain ⟨n, rfl⟩ : ∃ n', n = n' + 1 := ⟨n - 1, by omega⟩
    obtain rfl : r = cn (sD μ) t := by omega
    rw [f_X5_spinOf_27, if_pos (i16 ht), cl (i := t) (by omega), rs (μ := μ) (k := 20) (by decide) (by decide), h20, if_pos (nI_le (Nat.le_refl _) (by omega)), nI_1]
  | succ m ih =>
    intro n r a hr hn ha
    obtain ⟨n, rfl⟩ : ∃ n', n = n' + 1 := ⟨n - 1, by omega⟩
    have hlt : r < cn (sD μ) t := by omega
    obtain ⟨u1, u2, u3, u4, u5⟩ := hST.2.1 t r ht hlt
    have hl := u2.2
    have hk := ih n (r + 1) a (by omega) (by omega) ha
    have hb := lQ100 (g := gr (sD μ) t1 r1) hST ht (show r ≤ cn (sD μ) t by omega)
    have hln := ln100 hST ht hlt
    rw [f_X5_spinOf_27, if_pos (i16 ht), cl (i := t) (by omega), rs (μ := μ) (k := 20) (by decide) (by decide), h20, if_neg (nI_ge hlt (by omega)), if_pos (i16 ht), rs (μ := μ) (k := 15) (by decide) (by decide), if_pos h15, if_pos (i16 ht1), cl (i := t1) (by omega), rs (μ := μ) (k := 15) (by decide) (by decide), if_neg (fun q => hne q.symm), ref_outer' (by omega), Option.bind_some]
    dsimp only
    have e25 : ∀ l, l ≤ 7 → μ 25 0 0 l = nI (nn (sD μ) 25 l) := fun l hl => by
      rw [rs (μ := μ) (k := 25) (by decide) (by decide)]
      exact (hSG l (by omega)).1
    have g1 := grp_lt hST hSG ht hlt
    have g2 := grp_lt hST hSG ht1 hr1
    by_cases ho : ou (sD μ) t r = true
    · rw [if_pos ho, if_neg (by decide), nI_6, if_pos (i96 (by omega)), cl (i := 6 * t + r) (by omega), rs (μ := μ) (k := 22) (by decide) (by decide), u2.1, if_pos (i8 (by omega)), nI_6, if_pos (i96 (by omega)), cl (i := 6 * t1 + r1) (by omega), rs (μ := μ) (k := 22) (by decide) (by decide), v2.1, if_pos (i8 (by omega)), cl (i := nn (sD μ) 22 (6 * t + r)) (by omega), cl (i := nn (sD μ) 22 (6 * t1 + r1)) (by omega), e25 _ hl, e25 _ hl1]
      by_cases hg : gr (sD μ) t r = gr (sD μ) t1 r1
      · have hQ : lQ (sD μ) t (gr (sD μ) t1 r1) r = ln (sD μ) t r := by unfold lQ; rw [if_pos ⟨ho, hg⟩]
        rw [mx, hQ] at hk
        rw [if_pos (show nI (nn (sD μ) 25 (nn (sD μ) 22 (6 * t + r))) = nI (nn (sD μ) 25 (nn (sD μ) 22 (6 * t1 + r1))) from congrArg nI hg), f_X5_spinOf_115, if_neg (by decide), nI_6, if_pos (i96 (by omega)), cl (i := 6 * t + r) (by omega), rs (μ := μ) (k := 23) (by decide) (by decide), show sD μ 23 (6 * t + r) = nI (ln (sD μ) t r) from u3.1, nI_1, if_pos (i96 (by omega))]
        rw [← hk]
        generalize mx (lQ (sD μ) t (gr (sD μ) t1 r1)) r = y at *
        generalize ln (sD μ) t r = l at *
        by_cases q : l ≤ (if a < y then y else a)
        · rw [if_pos (nI_le q (by split <;> omega))]
          congr 2
          repeat' split
          all_goals (repeat' split at *)
          all_goals omega
        · rw [if_neg (nI_ge (by omega) (by omega))]
          congr 2
          repeat' split
          all_goals (repeat' split at *)
          all_goals omega
      · have hQ : lQ (sD μ) t (gr (sD μ) t1 r1) r = 0 := by unfold lQ; rw [if_neg (fun w => hg w.2)]
        rw [mx, hQ, if_neg (show ¬ mx (lQ (sD μ) t (gr (sD μ) t1 r1)) r < 0 by omega)] at hk
        have hng : ¬ nI (nn (sD μ) 25 (nn (sD μ) 22 (6 * t + r))) = nI (nn (sD μ) 25 (nn (sD μ) 22 (6 * t1 + r1))) := fun q => hg (nI_inj (by have : gr (sD μ) t r = nn (sD μ) 25 (nn (sD μ) 22 (6 * t + r)) := rfl; omega) (by have : gr (sD μ) t1 r1 = nn (sD μ) 25 (nn (sD μ) 22 (6 * t1 + r1)) := rfl; omega) q)
        rw [if_neg hng, f_X5_spinOf_114, f_X5_spinOf_115, if_pos rfl, nI_1]
        exact hk
    · have hQ : lQ (sD μ) t (gr (sD μ) t1 r1) r = 0 := by unfold lQ; rw [if_neg (fun w => ho w.1)]
      rw [mx, hQ, if_neg (show ¬ mx (lQ (sD μ) t (gr (sD μ) t1 r1)) r < 0 by omega)] at hk
      rw [if_neg ho, if_pos rfl, f_X5_spinOf_114, f_X5_spinOf_115, if_pos rfl, nI_1]
      exact hk
def fc (D : Nat → Nat → Int32) (t1 g c : Nat) : Nat → Nat := fun t => if D 15 t = nI c ∧ ¬ D 15 t1 = nI c then mx (lQ D t g) (cn D t) else 0
theorem sp17 {N : Nat} (hN : 16 < N) {μ : ks_S} {c t1 r1 : Nat} {x3 : Int32} {k5 : ks_S → Int32 → Int32 → Int32 → Int32 → Option (Int32 × ks_S)} (hST : ST (sD μ)) (hSG : SG (sD μ)) (hc : c < 4) (ht1 : t1 < 16) (hr1 : r1 < cn (sD μ) t1) : ∀ m n t, t + m = 16 → m < n → f_X5_spinOf_17 N k5 n μ (nI t1) (nI r1) x3 (nI c) (nI (mx (fc (sD μ) t1 (gr (sD μ) t1 r1) c) t)) (nI t) = k5 μ (nI t1) (nI r1) (x3 + nI (mx (fc (sD μ) t1 (gr (sD μ) t1 r1) c) 16)) (nI (c + 1)) := by
  intro m
  induction m with
  | zero =>
    intro n t ht hn
    obtain ⟨n, rfl⟩ : ∃ n', n = n' + 1 := ⟨n - 1, by omega⟩
    obtain rfl : t = 16 := by omega
    rw [f_X5_spinOf_17, if_pos e16, nI_1]
  | succ m ih =>
    intro n t ht hn
    obtain ⟨n, rfl⟩ : ∃ n', n = n' + 1 := ⟨n - 1, by omega⟩
    have ht16 : t < 16 := by omega
    have hcn6 : cn (sD μ) t ≤ 6 := (cn6 hST ht16).2
    have h20 : sD μ 20 t = nI (cn (sD μ) t) := (cn6 hST ht16).1
    have hk := ih n (t + 1) (by omega) (by omega)
    rw [mx] at hk
    rw [f_X5_spinOf_17, if_neg (z16 ht16)]
    have h100 : mx (fc (sD μ) t1 (gr (sD μ) t1 r1) c) t ≤ 100 := mx_le (fun i hi => by
      unfold fc
      split
      · exact lQ100 hST (by omega) (Nat.le_refl _)
      · omega)
    by_cases hq : sD μ 15 t = nI c ∧ ¬ sD μ 15 t1 = nI c
    · have hf : fc (sD μ) t1 (gr (sD μ) t1 r1) c t = mx (lQ (sD μ) t (gr (sD μ) t1 r1)) (cn (sD μ) t) := by unfold fc; rw [if_pos hq]
      have := sp27 (N := N) (x3 := x3) (k5 := k5) (k17 := f_X5_spinOf_17 N k5 n) hST hSG ht16 hc ht1 hr1 hq.1 hq.2 (cn (sD μ) t) N 0 (mx (fc (sD μ) t1 (gr (sD μ) t1 r1) c) t) (by omega) (by omega) h100
      rw [show mx (lQ (sD μ) t (gr (sD μ) t1 r1)) 0 = 0 from rfl, if_neg (show ¬ mx (fc (sD μ) t1 (gr (sD μ) t1 r1) c) t < 0 by omega)] at this
      rw [show (0 : Int32) = nI 0 from rfl, this, ← hf]
      exact hk
    · have hf : fc (sD μ) t1 (gr (sD μ) t1 r1) c t = 0 := by unfold fc; rw [if_neg hq]
      rw [hf, if_neg (by omega)] at hk
      rw [← hk]
      obtain ⟨n0, hn0⟩ : ∃ n0, N = n0 + 1 := ⟨N - 1, by omega⟩
      have e : f_X5_spinOf_27 N k5 (f_X5_spinOf_17 N k5 n) N = f_X5_spinOf_27 N k5 (f_X5_spinOf_17 N k5 n) (n0 + 1) := by rw [← hn0]
      rw [e, f_X5_spinOf_27, if_pos (i16 ht16), cl (i := t) (by omega), rs (μ := μ) (k := 20) (by decide) (by decide), h20, nI_1]
      by_cases h0 : cn (sD μ) t = 0
      · rw [if_pos (by rw [h0]; decide)]
      · rw [if_neg (show ¬ nI (cn (sD μ) t) ≤ 0 from nI_ge (b := cn (sD μ) t) (a := 0) (by omega) (by omega)), if_pos (i16 ht16), rs (μ := μ) (k := 15) (by decide) (by decide)]
        by_cases h15 : sD μ 15 t = nI c
        · rw [if_pos h15, if_pos (i16 ht1), cl (i := t1) (by omega), rs (μ := μ) (k := 15) (by decide) (by decide)]
          have : sD μ 15 t1 = nI c := by
            cases Decidable.em (sD μ 15 t1 = nI c) with
            | inl w => exact w
            | inr w => exact absurd ⟨h15, w⟩ hq
          rw [if_pos this.symm]
        · rw [if_neg h15]
theorem ref_spin {N : Nat} (hN : 16 < N) {μ : ks_S} {t r : Nat} (hST : ST (sD μ)) (hSG : SG (sD μ)) (ht : t < 16) (hr : r < cn (sD μ) t) : f_X5_spinOf N μ (nI t) (nI r) = some (nI (spn (sD μ) t r), μ) := by
  have loop : ∀ m n c, c + m = 4 → m < n → f_X5_spinOf_5 N n μ (nI t) (nI r) (nI (sm (fun c => if sD μ 15 t = nI c then 0 else lng (sD μ) c (gr (sD μ) t r)) c)) (nI c) = some (nI (spn (sD μ) t r), μ) := by
    intro m
    induction m with
    | zero =>
      intro n c hc hn
      obtain ⟨n, rfl⟩ : ∃ n', n = n' + 1 := ⟨n - 1, by omega⟩
      obtain rfl : c = 4 := by omega
      rw [f_X5_spinOf_5, if_pos e4]
      rfl
    | succ m ih =>
      intro n c hc hn
      obtain ⟨n, rfl⟩ : ∃ n', n = n' + 1 := ⟨n - 1, by omega⟩
      have hc4 : c < 4 := by omega
      have hk := ih n (c + 1) (by omega) (by omega)
      rw [sm] at hk
      have h17 := sp17 hN (x3 := nI (sm (fun c => if sD μ 15 t = nI c then 0 else lng (sD μ) c (gr (sD μ) t r)) c)) (k5 := f_X5_spinOf_5 N n) hST hSG hc4 ht hr 16 N 0 rfl hN
      rw [f_X5_spinOf_5, if_neg (z4 hc4)]
      have h17 : f_X5_spinOf_17 N (f_X5_spinOf_5 N n) N μ (nI t) (nI r) (nI (sm (fun c => if sD μ 15 t = nI c then 0 else lng (sD μ) c (gr (sD μ) t r)) c)) (nI c) 0 0 = _ := h17
      rw [h17, nI_add]
      have e : mx (fc (sD μ) t (gr (sD μ) t r) c) 16 = if sD μ 15 t = nI c then 0 else lng (sD μ) c (gr (sD μ) t r) := by
        by_cases q : sD μ 15 t = nI c
        · rw [if_pos q]
          have : mx (fc (sD μ) t (gr (sD μ) t r) c) 16 ≤ 0 := mx_le (fun i _ => by unfold fc; rw [if_neg (fun w => w.2 q)]; omega)
          omega
        · rw [if_neg q, lng_lF]
          refine mx_congr (fun i _ => ?_)
          unfold fc lF
          by_cases w : sD μ 15 i = nI c
          · rw [if_pos ⟨w, q⟩, if_pos w]
          · rw [if_neg (fun z => w z.1), if_neg w]
      rw [e]
      exact hk
  exact loop 4 N 0 rfl (by omega)
theorem ref_infl {N : Nat} (hN : 16 < N) {μ : ks_S} {t : Nat} (hST : ST (sD μ)) (hSG : SG (sD μ)) (ht : t < 16) (hth : sD μ 15 t ≠ -1) : f_X5_inflated N μ (nI t) = some (nI (infl (sD μ) t), μ) := by
  have hcn6 : cn (sD μ) t ≤ 6 := (cn6 hST ht).2
  have h20 : sD μ 20 t = nI (cn (sD μ) t) := (cn6 hST ht).1
  obtain ⟨_, _, _, _, _, _, _, _, _, _, k7, _⟩ := core_of hST ht hth
  have loop : ∀ m n r, r + m = cn (sD μ) t → m < n → f_X5_inflated_9 N n μ (nI t) (nI (nn (sD μ) 19 t + sm (qZ (sD μ) t) r)) (nI r) = some (nI (infl (sD μ) t), μ) := by
    intro m
    induction m with
    | zero =>
      intro n r hr hn
      obtain ⟨n, rfl⟩ : ∃ n', n = n' + 1 := ⟨n - 1, by omega⟩
      obtain rfl : r = cn (sD μ) t := by omega
      rw [f_X5_inflated_9, if_pos (i16 ht), cl (i := t) (by omega), rs (μ := μ) (k := 20) (by decide) (by decide), h20, if_pos (nI_le (Nat.le_refl _) (by omega)), infl_qZ]
    | succ m ih =>
      intro n r hr hn
      obtain ⟨n, rfl⟩ : ∃ n', n = n' + 1 := ⟨n - 1, by omega⟩
      have hlt : r < cn (sD μ) t := by omega
      obtain ⟨u1, u2, u3, u4, u5⟩ := hST.2.1 t r ht hlt
      have hk := ih n (r + 1) (by omega) (by omega)
      rw [sm] at hk
      rw [f_X5_inflated_9, if_pos (i16 ht), cl (i := t) (by omega), rs (μ := μ) (k := 20) (by decide) (by decide), h20, if_neg (nI_ge hlt (by omega)), ref_outer' (by omega), Option.bind_some]
      dsimp only
      by_cases ho : ou (sD μ) t r = true
      · have hz : qZ (sD μ) t r = ln (sD μ) t r + spn (sD μ) t r := by unfold qZ; rw [if_pos ⟨by omega, ho⟩]
        rw [hz, ← Nat.add_assoc, ← Nat.add_assoc] at hk
        rw [if_pos ho, if_neg (by decide), nI_6, if_pos (i96 (by omega)), ref_spin hN hST hSG ht hlt, Option.bind_some]
        dsimp only
        rw [cl (i := 6 * t + r) (by omega), rs (μ := μ) (k := 23) (by decide) (by decide), show sD μ 23 (6 * t + r) = nI (ln (sD μ) t r) from u3.1, nI_add, nI_add, nI_1]
        exact hk
      · have hz : qZ (sD μ) t r = 0 := by unfold qZ; rw [if_neg (fun w => ho w.2)]
        rw [hz, Nat.add_zero] at hk
        rw [if_neg ho, if_pos rfl, nI_1]
        exact hk
  unfold f_X5_inflated
  rw [if_pos (i16 ht), cl (i := t) (by omega), rs (μ := μ) (k := 19) (by decide) (by decide), k7.1]
  exact loop (cn (sD μ) t) N 0 (by omega) (by omega)
