/-! PURE: what holds between calls. -/
def UN (σ : ks_S) : Prop := (σ 0 0 0 7 = 0 ∧ σ 14 0 0 13 = 0 ∧ σ 14 0 0 27 = 0) ∧ (∀ t, t < 16 → σ 9 t 0 0 = 0 ∧ σ 9 t 0 1 = 0 ∧ σ 9 t 0 3 = 1 ∧ σ 9 t 0 8 = 0 ∧ σ 9 t 0 9 = 0 ∧ σ 9 t 0 10 = 0 ∧ σ 9 t 0 11 = 0 ∧ σ 26 0 0 t = 0 ∧ σ 27 0 0 t = 0 ∧ σ 35 0 0 t = 0 ∧ σ 36 0 0 t = 0 ∧ σ 37 0 0 t = 0 ∧ σ 9 t 0 2 = σ 28 0 0 t ∧ σ 9 t 0 4 = σ 29 0 0 t ∧ σ 9 t 0 5 = σ 30 0 0 t ∧ σ 9 t 0 6 = σ 31 0 0 t ∧ σ 9 t 0 7 = σ 32 0 0 t) ∧ (∀ c, c < 4 → σ 6 0 0 c = -1 ∧ σ 7 0 0 c = 0 ∧ σ 39 0 0 c = -1 ∧ σ 40 0 0 c = 0 ∧ σ 41 0 0 c = -1 ∧ σ 42 0 0 c = 0) ∧ (∀ g, g < 8 → σ 12 g 0 1 = 0 ∧ σ 44 0 0 g = 0) ∧ (∀ t r, t < 16 → r < 6 → σ 11 t r 5 = 0 ∧ σ 11 t r 7 = 0) ∧ ∀ s, s < 96 → σ 38 0 0 s = 0
def SE (w : Nat) (σ : ks_S) : Prop := CGr (sD σ) σ ∧ SR (sD σ) ∧ LV (sD σ) (dA σ) ∧ RC (sD σ) σ (dA σ) ∧ σ 0 0 0 7 = dA σ 14 13 ∧ (∀ c, c < 4 → dA σ 41 c = dA σ 39 c) ∧ SP (dA σ) (4 * nn (dA σ) 14 13) ∧ nn (dA σ) 14 13 ≤ 100000 * w ∧ ∀ t r, t < 16 → r < cn (sD σ) t → ok (dA σ) 34 (6 * t + r) (ln (sD σ) t r) ∧ 1 ≤ nn (dA σ) 34 (6 * t + r)
def INV (w : Nat) (σ : ks_S) : Prop := ST (sD σ) ∧ CSt (sD σ) σ ∧ CM (sD σ) σ ∧ ((σ 0 0 0 6 = 0 ∧ σ 14 0 0 12 = 0 ∧ UN σ) ∨ (σ 0 0 0 6 = 1 ∧ σ 14 0 0 12 = 1 ∧ SE w σ)) ∧ ∀ t, t < 16 → σ 8 t 0 7 ≤ 6
theorem SE_mono {w v : Nat} {σ : ks_S} (h : w ≤ v) (hS : SE w σ) : SE v σ := by
  obtain ⟨a1, a2, a3, a4, a5, a6, a7, a8, a9⟩ := hS
  exact ⟨a1, a2, a3, a4, a5, a6, a7, Nat.le_trans a8 (Nat.mul_le_mul_left _ h), a9⟩
theorem INV_mono {w v : Nat} {σ : ks_S} (h : w ≤ v) (hI : INV w σ) : INV v σ := by
  obtain ⟨a1, a2, a3, a4, a5⟩ := hI
  refine ⟨a1, a2, a3, ?_, a5⟩
  rcases a4 with q | ⟨q1, q2, q3⟩
  · exact Or.inl q
  · exact Or.inr ⟨q1, q2, SE_mono h q3⟩
/-- the reference tells what it throws: nothing else of it changes -/
theorem sD_thr (σ : ks_S) (v : Int32) : sD (ks_up σ 14 0 0 0 v) = sD σ := sD_up (by omega)
theorem dA_thr (σ : ks_S) (v : Int32) : dA (ks_up σ 14 0 0 0 v) = dA σ := by
  funext k s
  unfold dA
  rw [sD_thr]
  by_cases q : inr (sD σ) k s = true
  · have e27 : ks_up σ 14 0 0 0 v 14 0 0 27 = σ 14 0 0 27 := by rw [ks_up_at, if_neg (by omega)]
    rw [if_pos q, if_pos q, e27]
    by_cases q2 : k = 45
    · rw [if_pos q2, if_pos q2]
    · rw [if_neg q2, if_neg q2, ks_up_at, if_neg]
      rintro ⟨rfl, _, _, rfl⟩
      simp [inr] at q
  · rw [if_neg q, if_neg q]
theorem thr_k (σ : ks_S) (v : Int32) {k : Nat} (h : k ≠ 14) : ks_up σ 14 0 0 0 v k = σ k := by
  funext i j z
  rw [ks_up_at, if_neg (fun q => h q.1)]
theorem thr_14 (σ : ks_S) (v : Int32) {z : Nat} (h : z ≠ 0) : ks_up σ 14 0 0 0 v 14 0 0 z = σ 14 0 0 z := by
  rw [ks_up_at, if_neg (fun q => h q.2.2.2)]
theorem INV_thr {w : Nat} {σ : ks_S} (v : Int32) (h : INV w σ) : INV w (ks_up σ 14 0 0 0 v) := by
  unfold INV UN SE CSt CM CGr RC RT RQ RK RS RW RB RZ wg at *
  rw [sD_thr, dA_thr]
  simp only [thr_k σ v (show (0 : Nat) ≠ 14 by decide), thr_k σ v (show (3 : Nat) ≠ 14 by decide), thr_k σ v (show (6 : Nat) ≠ 14 by decide), thr_k σ v (show (7 : Nat) ≠ 14 by decide), thr_k σ v (show (8 : Nat) ≠ 14 by decide), thr_k σ v (show (9 : Nat) ≠ 14 by decide), thr_k σ v (show (11 : Nat) ≠ 14 by decide), thr_k σ v (show (12 : Nat) ≠ 14 by decide), thr_k σ v (show (13 : Nat) ≠ 14 by decide), thr_k σ v (show (26 : Nat) ≠ 14 by decide), thr_k σ v (show (27 : Nat) ≠ 14 by decide), thr_k σ v (show (28 : Nat) ≠ 14 by decide), thr_k σ v (show (29 : Nat) ≠ 14 by decide), thr_k σ v (show (30 : Nat) ≠ 14 by decide), thr_k σ v (show (31 : Nat) ≠ 14 by decide), thr_k σ v (show (32 : Nat) ≠ 14 by decide), thr_k σ v (show (35 : Nat) ≠ 14 by decide), thr_k σ v (show (36 : Nat) ≠ 14 by decide), thr_k σ v (show (37 : Nat) ≠ 14 by decide), thr_k σ v (show (38 : Nat) ≠ 14 by decide), thr_k σ v (show (39 : Nat) ≠ 14 by decide), thr_k σ v (show (40 : Nat) ≠ 14 by decide), thr_k σ v (show (41 : Nat) ≠ 14 by decide), thr_k σ v (show (42 : Nat) ≠ 14 by decide), thr_k σ v (show (44 : Nat) ≠ 14 by decide), thr_14 σ v (show (12 : Nat) ≠ 0 by decide), thr_14 σ v (show (13 : Nat) ≠ 0 by decide), thr_14 σ v (show (27 : Nat) ≠ 0 by decide)]
  exact h
def wi (x lo hi : Int32) : Int32 := if x < lo then 0 else if hi < x then 0 else 1
theorem cls_wi (σ : ks_S) (x lo hi : Int32) : f_X4_isWithin σ x lo hi = some (wi x lo hi, σ) := by
  unfold f_X4_isWithin wi
  split
  · rfl
  · split <;> rfl
theorem ref_wi (σ : ks_S) (x lo hi : Int32) : f_X5_within σ x lo hi = some (wi x lo hi, σ) := by
  unfold f_X5_within wi
  split
  · rfl
  · split <;> rfl
theorem wi_cases (x : Int32) {n : Nat} (hn : n < 2 ^ 31 - 1) : (wi x 0 (nI n) = 0) ∨ (wi x 0 (nI n) = 1 ∧ ∃ j, j ≤ n ∧ x = nI j) := by
  unfold wi
  by_cases h1 : x < 0
  · exact Or.inl (if_pos h1)
  · rw [if_neg h1]
    by_cases h2 : nI n < x
    · exact Or.inl (if_pos h2)
    · rw [if_neg h2]
      obtain ⟨j, j1, j2⟩ := nI_of h1
      refine Or.inr ⟨rfl, j, ?_, j2⟩
      rw [j2, nI_ltI (by omega) j1] at h2
      omega
theorem wi_in {j n : Nat} (h : j ≤ n) (hn : n < 2 ^ 31) : wi (nI j) 0 (nI n) = 1 := by
  unfold wi
  rw [if_neg (nI_pos (by omega)), if_neg (nI_nlt h hn)]
def rf (a b c : Int32) : Int32 := if a = 0 then (if b = 0 then (if c = 0 then 0 else 3) else 2) else 1
theorem ref_rf (σ : ks_S) (a b c : Int32) : f_X5_refused σ a b c = some (if rf a b c = 0 then 0 else 1, ks_up σ 14 0 0 0 (rf a b c)) := by
  unfold f_X5_refused rf
  by_cases ha : a = 0
  · rw [if_pos ha]
    by_cases hb : b = 0
    · rw [if_pos hb]
      by_cases hc : c = 0
      · rw [if_pos hc, ks_up_hit, if_pos (by decide), if_pos ha, if_pos hb, if_pos hc, if_pos rfl]
      · rw [if_neg hc, ks_up_hit, if_neg (by decide), if_pos ha, if_pos hb, if_neg hc, if_neg (by decide)]
    · rw [if_neg hb, ks_up_hit, if_neg (by decide), if_pos ha, if_neg hb, if_neg (by decide)]
  · rw [if_neg ha, ks_up_hit, if_neg (by decide), if_neg ha, if_neg (by decide)]
/-- is it a task -/
theorem task_dec {D : Nat → Nat → Int32} {σ σ' : ks_S} (hST : ST D) (hC : CSt D σ) (hD : RD D σ') (x : Int32) : (∃ t, t < 16 ∧ x = nI t ∧ D 15 t ≠ -1 ∧ f_X4_taskAt σ x = some (.inr (t, 0), σ) ∧ f_X5_isTask σ' x = some (1, σ')) ∨ (f_X4_taskAt σ x = some (.inl 0, σ) ∧ f_X5_isTask σ' x = some (0, σ') ∧ ∀ t, t < 16 → x = nI t → D 15 t = -1) := by
  unfold f_X4_taskAt f_X5_isTask
  rw [cls_wi, Option.bind_some]
  dsimp only
  rcases pk_ix x (n := 16) (by decide) with h | h | ⟨t, ht, rfl⟩
  · refine Or.inr ⟨?_, by rw [if_pos h], fun t ht e => by rw [e] at h; exact absurd h (nI_pos (by omega))⟩
    rw [if_pos (by unfold wi; rw [if_pos h])]
  · refine Or.inr ⟨?_, ?_, fun t ht e => by rw [e] at h; exact absurd h (nI_ge ht (by decide))⟩
    · rw [if_pos]
      unfold wi
      split
      · rfl
      · rw [if_pos]
        exact Int32.lt_of_lt_of_le (show (15 : Int32) < nI 16 by decide) h
    · by_cases h0 : x < 0
      · rw [if_pos h0]
      · rw [if_neg h0, if_pos (show (16 : Int32) ≤ x from h)]
  · have hw : wi (nI t) 0 15 = 1 := wi_in (n := 15) (by omega) (by decide)
    have e1 : (if wi (nI t) 0 15 = 0 then some (Sum.inl 0, σ) else if ks_in (nI t) 16 = true then (if σ 8 (nI t).toNatClampNeg 0 0 = 0 then some (Sum.inl 0, σ) else if ks_in (nI t) 16 = true then some (Sum.inr ((nI t).toNatClampNeg, 0), σ) else none) else none) = (if σ 8 t 0 0 = 0 then some (Sum.inl 0, σ) else some (Sum.inr (t, 0), σ) : Option ((Nat ⊕ (Nat × Nat)) × ks_S)) := by
      rw [hw, if_neg (by decide), if_pos (i16 ht), cl (by omega), if_pos (i16 ht)]
    have e2 : (if nI t < 0 then some (0, σ') else if 16 ≤ nI t then some (0, σ') else if ks_in (nI t) 16 = true then (if σ' 15 0 0 (nI t).toNatClampNeg < 0 then some (0, σ') else some (1, σ')) else none) = (if D 15 t < 0 then some (0, σ') else some (1, σ') : Option (Int32 × ks_S)) := by
      rw [if_neg (nI_pos (by omega)), if_neg (z16 ht), if_pos (i16 ht), cl (by omega), hD 15 t (by decide) (by decide)]
    rw [e1, e2]
    rcases hC t ht with ⟨q1, q2⟩ | ⟨a0, a1, _⟩
    · refine Or.inr ⟨by rw [if_pos q1], by rw [if_pos (by rw [q2]; decide)], fun u hu e => by rw [← nI_inj (by omega) (by omega) e]; exact q2⟩
    · obtain ⟨c, c1, c2, _⟩ := core_of hST ht a1
      exact Or.inl ⟨t, ht, rfl, a1, by rw [if_neg a0], by rw [if_neg (by rw [c2]; exact nI_pos (by omega))]⟩
theorem req_dec {D : Nat → Nat → Int32} {σ σ' : ks_S} {t : Nat} (hST : ST D) (hC : CSt D σ) (hD : RD D σ') (ht : t < 16) (hth : D 15 t ≠ -1) (hT : f_X5_isTask σ' (nI t) = some (1, σ')) (y : Int32) : (∃ r, r < cn D t ∧ y = nI r ∧ f_X4_requestAt σ t y = some (.inr (t, r), σ) ∧ f_X5_isRequest σ' (nI t) y = some (1, σ')) ∨ (f_X4_requestAt σ t y = some (.inl 0, σ) ∧ f_X5_isRequest σ' (nI t) y = some (0, σ')) := by
  have hcn6 : cn D t ≤ 6 := (cn6 hST ht).2
  have h20 : D 20 t = nI (cn D t) := (cn6 hST ht).1
  rcases hC t ht with ⟨_, w⟩ | ⟨a0, a1, a2, a3, a4, a5, a6, a7, a8⟩
  · exact absurd w hth
  · unfold f_X4_requestAt f_X5_isRequest
    rw [cls_wi, Option.bind_some, hT, Option.bind_some]
    dsimp only
    rw [if_neg (show ¬ (1 : Int32) = 0 by decide), if_pos (i16 ht), cl (by omega), hD 20 t (by decide) (by decide), a7, h20]
    by_cases hy : y < 0
    · refine Or.inr ⟨?_, by rw [if_pos hy]⟩
      rw [if_pos (by unfold wi; rw [if_pos hy])]
    · obtain ⟨j, j1, rfl⟩ := nI_of hy
      rw [if_neg hy]
      by_cases hj : cn D t ≤ j
      · refine Or.inr ⟨?_, by rw [if_pos (nI_le hj j1)]⟩
        rw [if_pos]
        unfold wi
        rw [if_neg hy, if_pos]
        by_cases h0 : cn D t = 0
        · rw [h0, show nI 0 - 1 = -1 from rfl]
          exact Int32.lt_of_lt_of_le (show (-1 : Int32) < 0 by decide) (nI_pos' j1)
        · obtain ⟨z, hz⟩ : ∃ z, cn D t = z + 1 := ⟨cn D t - 1, by omega⟩
          rw [hz, nI_pred]
          exact nI_lt (by omega) j1
      · obtain ⟨z, hz⟩ : ∃ z, cn D t = z + 1 := ⟨cn D t - 1, by omega⟩
        refine Or.inl ⟨j, by omega, rfl, ?_, by rw [if_neg (nI_ge (by omega) (by omega))]⟩
        rw [hz, nI_pred, wi_in (by omega) (by omega), if_neg (by decide), if_pos (i6 (by omega)), cl (by omega)]
theorem RD_sD (σ : ks_S) : RD (sD σ) σ := fun k s h1 h2 => rs h1 (by omega)
theorem RD_thr {D : Nat → Nat → Int32} {σ : ks_S} (v : Int32) (h : RD D σ) : RD D (ks_up σ 14 0 0 0 v) := fun k s h1 h2 => by
  rw [ks_up_at, if_neg (by omega)]
  exact h k s h1 h2
/-- the reference finds the groups of the class -/
theorem Edg_same {D D' : Nat → Nat → Int32} {f : Nat → Int32} (h : ∀ k, k ≠ 25 → D' k = D k) : Edg D' f ↔ Edg D f := by
  unfold Edg cn ou nn
  rw [h 20 (by decide), h 22 (by decide), h 24 (by decide)]
theorem GL_same {D D' : Nat → Nat → Int32} {l : Nat → Int32} (h : ∀ k, k ≠ 25 → D' k = D k) (hG : GL D l) : GL D' l := by
  obtain ⟨a, b, c⟩ := hG
  exact ⟨(Edg_same h).mpr a, b, fun f hf => c f ((Edg_same h).mp hf)⟩
theorem ref_fg {N : Nat} (hN : 100 < N) {w : Nat} {σ : ks_S} (h : INV w σ) : ∃ σ', f_X5_findGroups N σ = some σ' ∧ INV w σ' ∧ F25 σ σ' ∧ sD σ' = wg (sD σ) σ := by
  obtain ⟨h1, h2, h3, h4, h5⟩ := h
  obtain ⟨σ', a1, a2, a3⟩ := ref_groups hN h1 (RD_sD σ)
  have hu := GL_uniq a3 h3.1
  have eD : sD σ' = wg (sD σ) σ := by
    funext k s
    unfold wg
    by_cases q : k = 25 ∧ s < 8
    · rw [if_pos q, q.1]
      unfold sD
      rw [if_pos (by omega)]
      exact hu s q.2
    · rw [if_neg q]
      unfold sD
      rw [a2 k 0 0 s (by omega)]
  have hw : ∀ k, k ≠ 25 → wg (sD σ) σ k = sD σ k := fun k hk => wg_row hk
  have e3 : σ' 3 = σ 3 := by
    funext i j z
    exact a2 3 i j z (by omega)
  have ek : ∀ k, k ≠ 25 → σ' k = σ k := fun k hk => by
    funext i j z
    exact a2 k i j z (by omega)
  have eww : wg (sD σ') σ' = wg (sD σ) σ := by
    rw [eD]
    funext k s
    unfold wg
    rw [e3]
    by_cases q : k = 25 ∧ s < 8
    · rw [if_pos q, if_pos q]
    · rw [if_neg q, if_neg q]
  refine ⟨σ', a1, ?_, a2, eD⟩
  have i1 : ST (sD σ') := by rw [eD]; exact ST_same hw h1
  have i2 : CSt (sD σ') σ' := by
    rw [eD]
    refine CSt_same hw ?_
    unfold CSt at *
    rw [ek 8 (by decide), ek 11 (by decide)]
    exact h2
  have i3 : CM (sD σ') σ' := by
    refine ⟨?_, fun t ht hth => ?_⟩
    · rw [eD, e3]
      exact GL_same hw h3.1
    · rw [eww, ek 8 (by decide), ek 11 (by decide)]
      rw [eD] at hth ⊢
      rw [hw 15 (by decide)] at hth
      rw [cn_same hw]
      obtain ⟨d1, d2⟩ := h3.2 t ht hth
      refine ⟨d1, fun r hr => ?_⟩
      rw [ou_same hw]
      exact d2 r hr
  refine ⟨i1, i2, i3, ?_, by rw [ek 8 (by decide)]; exact h5⟩
  rw [ek 0 (by decide), ek 14 (by decide)]
  rcases h4 with ⟨q1, q2, q3⟩ | ⟨q1, q2, q3⟩
  · refine Or.inl ⟨q1, q2, ?_⟩
    unfold UN at *
    rw [ek 0 (by decide), ek 14 (by decide), ek 9 (by decide), ek 26 (by decide), ek 27 (by decide), ek 35 (by decide), ek 36 (by decide), ek 37 (by decide), ek 28 (by decide), ek 29 (by decide), ek 30 (by decide), ek 31 (by decide), ek 32 (by decide), ek 6 (by decide), ek 7 (by decide), ek 39 (by decide), ek 40 (by decide), ek 41 (by decide), ek 42 (by decide), ek 12 (by decide), ek 44 (by decide), ek 11 (by decide), ek 38 (by decide)]
    exact q3
  · refine Or.inr ⟨q1, q2, ?_⟩
    have e : σ' = σ := by
      funext k i j z
      by_cases q : k = 25 ∧ i = 0 ∧ j = 0 ∧ z < 8
      · obtain ⟨rfl, rfl, rfl, hz⟩ := q
        have u1 := hu z hz
        have u2 := q3.1 z hz
        unfold sD at u2
        rw [if_pos (by omega)] at u2
        exact u1.trans u2
      · exact a2 k i j z q
    rw [e]
    exact q3
theorem CM_CI {D : Nat → Nat → Int32} {σ : ks_S} (h : CM D σ) : CI (wg D σ) σ := fun t ht hth => by
  have hw : ∀ k, k ≠ 25 → wg D σ k = D k := fun k hk => wg_row hk
  rw [hw 15 (by decide)] at hth
  rw [cn_same hw]
  obtain ⟨d1, d2⟩ := h.2 t ht hth
  refine ⟨d1, fun r hr => ?_⟩
  rw [ou_same hw]
  exact d2 r hr
