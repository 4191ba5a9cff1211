/-! PURE: the reference holds, works. -/
theorem ref_hold {μ : ks_S} (hrow : ∀ g, g < 8 → ¬ dA μ 44 g ≤ 0 → ∃ c, c < 4 ∧ dA μ 43 (4 * g) = nI c) : ∀ n, n ≤ 8 → RR μ (pHoldL μ n) (aHoldL (dA μ) n) := by
  intro n
  induction n with
  | zero => intro _; exact RR_refl μ
  | succ n ih =>
    intro hn
    have hR := ih (by omega)
    rw [pHoldL, aHoldL]
    have e44 : pHoldL μ n 44 0 0 n = dA μ 44 n := by
      rw [pHoldL_k (by decide)]
      exact rd (inr44 (by omega)) (by decide)
    have f44 : aHoldL (dA μ) n 44 n = dA μ 44 n := by rw [aHoldL_row (by decide)]
    have e43 : pHoldL μ n 43 0 0 (4 * n) = dA μ 43 (4 * n) := by
      rw [pHoldL_k (by decide)]
      exact rd (inr43 (by omega)) (by decide)
    have f43 : nn (aHoldL (dA μ) n) 43 (4 * n) = nn (dA μ) 43 (4 * n) := by unfold nn; rw [aHoldL_row (by decide)]
    rw [e44, f44]
    by_cases h0 : dA μ 44 n ≤ 0
    · rw [if_pos h0, if_pos h0]
      exact hR
    · rw [if_neg h0, if_neg h0, e43, f43]
      obtain ⟨c, c1, c2⟩ := hrow n (by omega) h0
      have c3 : nn (dA μ) 43 (4 * n) = c := nn_nI c2 (by omega)
      rw [c3, c2, cl (by omega)]
      exact RR_up 3 (by decide) (by decide) (inr4 (by decide) (by decide) c1) hR
/-- reading behind a row of writes -/
theorem rdR {μ μ' : ks_S} {B : Nat → Nat → Int32} {k s : Nat} (h : RR μ μ' B) (hin : inr (sD μ) k s = true) (hk : k ≠ 45) : μ' k 0 0 s = B k s := by
  rw [← h.1, dA_in (by rw [h.2.1]; exact hin) hk]
theorem rsR {μ μ' : ks_S} {B : Nat → Nat → Int32} {k s : Nat} (h : RR μ μ' B) (h1 : 15 ≤ k) (h2 : k ≤ 25) : μ' k 0 0 s = sD μ k s := by
  rw [← h.2.1]
  exact rs h1 h2
theorem ref_outer {μ μ' : ks_S} {B : Nat → Nat → Int32} {t r : Nat} (h : RR μ μ' B) (hi : 6 * t + r < 96) : f_X5_isOuter μ' (nI t) (nI r) = some (if ou (sD μ) t r = true then 1 else 0, μ') := by
  unfold f_X5_isOuter
  rw [nI_6, if_pos (i96 hi), cl hi, rsR h (by decide) (by decide)]
  unfold ou
  by_cases e : sD μ 24 (6 * t + r) = -1
  · rw [if_pos e, if_pos (decide_eq_true e)]
  · rw [if_neg e, if_neg (fun q => e (of_decide_eq_true q))]
theorem ref_next {N : Nat} {μ μ' : ks_S} {B : Nat → Nat → Int32} {t : Nat} (h : RR μ μ' B) (ht : t < 16) (hcn : ok (sD μ) 20 t 6) : ∀ m n r, m < n → cn (sD μ) t < r + (m + 1) → r ≤ cn (sD μ) t → f_X5_goToNext_9 N n μ' (nI t) (nI r) = some (ks_up μ' 30 0 0 t (nI (nxo (sD μ) t (m + 1) r))) := by
  have hcn6 : cn (sD μ) t ≤ 6 := hcn.2
  have h20 : sD μ 20 t = nI (cn (sD μ) t) := hcn.1
  intro m
  induction m with
  | zero =>
    intro n r hn h1 h2
    obtain ⟨n, rfl⟩ : ∃ n', n = n' + 1 := ⟨n - 1, by omega⟩
    rw [f_X5_goToNext_9, if_pos (i16 ht), cl (i := t) (by omega), rsR h (by decide) (by decide), h20, if_pos (nI_le (by omega) (by omega)), if_pos (i16 ht), nxo, if_pos (by omega)]
  | succ m ih =>
    intro n r hn h1 h2
    obtain ⟨n, rfl⟩ : ∃ n', n = n' + 1 := ⟨n - 1, by omega⟩
    rw [f_X5_goToNext_9, if_pos (i16 ht), cl (i := t) (by omega), rsR h (by decide) (by decide), h20, nxo]
    by_cases e : cn (sD μ) t ≤ r
    · rw [if_pos (nI_le e (by omega)), if_pos e, if_pos (i16 ht)]
    · rw [if_neg (nI_ge (by omega) (by omega)), if_neg e, ref_outer h (by omega), Option.bind_some]
      by_cases e2 : ou (sD μ) t r = true
      · rw [if_pos e2]
        dsimp only
        rw [if_pos e2, if_neg (by decide), if_pos (i16 ht)]
      · rw [if_neg e2]
        dsimp only
        rw [if_neg e2, if_pos rfl, nI_1]
        exact ih n (r + 1) (by omega) (by omega) (by omega)
theorem ref_goToNext {N : Nat} (hN : 7 < N) {μ μ' : ks_S} {B : Nat → Nat → Int32} {t r : Nat} (h : RR μ μ' B) (ht : t < 16) (hcn : ok (sD μ) 20 t 6) (hr : μ' 30 0 0 t + 1 = nI r) (hrc : r ≤ cn (sD μ) t) : f_X5_goToNext N μ' (nI t) = some (ks_up μ' 30 0 0 t (nI (aNx (sD μ) t r))) := by
  unfold f_X5_goToNext
  rw [if_pos (i16 ht), cl (by omega), hr]
  have hcn6 : cn (sD μ) t ≤ 6 := hcn.2
  exact ref_next h ht hcn 6 N r (by omega) (by omega) hrc
/-- the row of group g, without its first -/
theorem ref_leave {N : Nat} {μ : ks_S} {c g m : Nat} (hc : c < 4) (hg : g < 8) (hm4 : m ≤ 4) : ∀ d n i μ' B, i + d = m → d < n → RR μ μ' B → 1 ≤ i → B 44 g = nI m → (∀ s, 4 * g + i ≤ s → B 43 s = dA μ 43 s) → ∃ μ'', f_X5_leave_2 N n μ' (nI c) (nI g) (nI i) = some μ'' ∧ RR μ μ'' (au (au (fun k s => if k = 43 ∧ 4 * g + i ≤ s + 1 ∧ s + 1 < 4 * g + m then dA μ 43 (s + 1) else B k s) 44 g (nI m - 1)) 40 c 1) := by
  intro d
  induction d with
  | zero =>
    intro n i μ' B hi hn hR h1 h44 h43
    obtain ⟨n, rfl⟩ : ∃ n', n = n' + 1 := ⟨n - 1, by omega⟩
    rw [f_X5_leave_2, if_pos (i8 hg), cl (i := g) (by omega), rdR hR (inr44 hg) (by decide), h44, if_pos (nI_le (by omega) (by omega)), if_pos (i8 hg), if_pos (i8 hg), if_pos (i4 hc), cl (i := c) (by omega)]
    refine ⟨_, rfl, ?_⟩
    have e : (fun k s => if k = 43 ∧ 4 * g + i ≤ s + 1 ∧ s + 1 < 4 * g + m then dA μ 43 (s + 1) else B k s) = B := by
      funext k s
      rw [if_neg (by omega)]
    rw [e]
    exact RR_up _ (by decide) (by decide) (inr4 (by decide) (by decide) hc) (RR_up _ (by decide) (by decide) (inr44 hg) hR)
  | succ d ih =>
    intro n i μ' B hi hn hR h1 h44 h43
    obtain ⟨n, rfl⟩ : ∃ n', n = n' + 1 := ⟨n - 1, by omega⟩
    rw [f_X5_leave_2, if_pos (i8 hg), cl (i := g) (by omega), rdR hR (inr44 hg) (by decide), h44, if_neg (nI_ge (by omega) (by omega)), nI_4, nI_add, if_pos (i32 (by omega))]
    have e1 : nI (4 * g + i) - 1 = nI (4 * g + i - 1) := by
      obtain ⟨q, hq⟩ : ∃ q, 4 * g + i = q + 1 := ⟨4 * g + i - 1, by omega⟩
      rw [hq, nI_pred, Nat.add_sub_cancel]
    rw [e1, if_pos (i32 (by omega)), cl (i := 4 * g + i) (by omega), cl (i := 4 * g + i - 1) (by omega), rdR hR (inr43 (by omega)) (by decide), h43 _ (by omega), nI_1]
    obtain ⟨μ'', a1, a2⟩ := ih n (i + 1) (ks_up μ' 43 0 0 (4 * g + i - 1) (dA μ 43 (4 * g + i))) (au B 43 (4 * g + i - 1) (dA μ 43 (4 * g + i))) (by omega) (by omega) (RR_up _ (by decide) (by decide) (inr43 (by omega)) hR) (by omega) (by rw [au_k _ _ _ _ (by decide)]; exact h44) (fun s hs => by rw [au_s _ _ _ _ (by omega)]; exact h43 s (by omega))
    refine ⟨μ'', a1, ?_⟩
    have e : (fun k s => if k = 43 ∧ 4 * g + (i + 1) ≤ s + 1 ∧ s + 1 < 4 * g + m then dA μ 43 (s + 1) else au B 43 (4 * g + i - 1) (dA μ 43 (4 * g + i)) k s) = (fun k s => if k = 43 ∧ 4 * g + i ≤ s + 1 ∧ s + 1 < 4 * g + m then dA μ 43 (s + 1) else B k s) := by
      funext k s
      by_cases q : k = 43 ∧ 4 * g + (i + 1) ≤ s + 1 ∧ s + 1 < 4 * g + m
      · rw [if_pos q, if_pos (by omega)]
      · rw [if_neg q]
        by_cases q2 : k = 43 ∧ s = 4 * g + i - 1
        · rw [if_pos (by omega), q2.1, q2.2, au_hit]
          congr 1
          omega
        · rw [if_neg (by omega)]
          unfold au
          rw [if_neg q2]
    rw [e] at a2
    exact a2
