/-! PURE: late; laying down. -/
theorem sI_add {f g : Nat → Int32} : ∀ n, sI (fun i => f i + g i) n = sI f n + sI g n := by
  intro n
  induction n with
  | zero => rfl
  | succ n ih =>
    rw [sI, sI, sI, ih, Int32.add_assoc, Int32.add_assoc, ← Int32.add_assoc (sI g n), Int32.add_comm (sI g n) (f n), Int32.add_assoc]
theorem op_late {N w : Nat} (hN : 16 < N) {σ : ks_S} (h : INV w σ) : ∃ v, f_X4_late N σ = some (v, σ) ∧ f_X5_late N σ = some (v, ks_up σ 14 0 0 0 0) := by
  obtain ⟨h1, h2, h3, h4, _⟩ := id h
  obtain ⟨_, hj, _, ⟨hn, hs⟩, _⟩ := INV_read h
  have hopen : ∀ t, t < 16 → σ 26 0 0 t ≠ 0 → σ 8 t 0 4 = σ 18 0 0 t := fun t ht ho => by
    have hth : sD σ 15 t ≠ -1 := by
      rcases h4 with ⟨_, _, _, v1, _⟩ | ⟨_, _, s1, s2, s3, s4, _⟩
      · exact absurd (v1 t ht).2.2.2.2.2.2.2.1 ho
      · obtain ⟨_, _, ⟨F, hBT⟩, _⟩ := s3
        exact (hBT.1.1 t ht (by rw [← rd (μ := σ) (k := 26) (inr16 (by decide) (by decide) (by decide) (by decide) ht) (by decide)]; exact ho)).1
    rcases h2 t ht with ⟨_, w⟩ | ⟨a0, a1, a2, a3, a4, a5, _⟩
    · exact absurd w hth
    · rw [a5]
      exact (rs (by decide) (by decide)).symm
  let lt : Nat → Int32 := fun t => if σ 26 0 0 t = 0 then 0 else if σ 14 0 0 13 - σ 28 0 0 t ≤ σ 18 0 0 t then 0 else 1
  have c : ∀ m n t, t + m = 16 → m < n → f_X4_late_13 N n σ (sI (fun i => σ 9 i 0 9 + lt i) t) 16 (nI t) = some (sI (fun i => σ 9 i 0 9 + lt i) 16, σ) := by
    intro m
    induction m with
    | zero =>
      intro n t ht hn2
      obtain ⟨n, rfl⟩ : ∃ n', n = n' + 1 := ⟨n - 1, by omega⟩
      obtain rfl : t = 16 := by omega
      rw [f_X4_late_13, if_pos e16]
    | succ m ih =>
      intro n t ht hn2
      obtain ⟨n, rfl⟩ : ∃ n', n = n' + 1 := ⟨n - 1, by omega⟩
      have ht16 : t < 16 := by omega
      have hk := ih n (t + 1) (by omega) (by omega)
      rw [sI] at hk
      obtain ⟨_, _, _, b4, b5⟩ := hj t ht16
      rw [f_X4_late_13, if_neg (z16 ht16), if_pos (i16 ht16), cl (by omega), b4, b5, hn, nI_1]
      by_cases ho : σ 26 0 0 t = 0
      · have e : lt t = 0 := by
          show (if σ 26 0 0 t = 0 then (0 : Int32) else _) = 0
          rw [if_pos ho]
        rw [e, Int32.add_zero] at hk
        rw [if_pos ho]
        exact hk
      · rw [if_neg ho, hopen t ht16 ho]
        by_cases hl : σ 14 0 0 13 - σ 28 0 0 t ≤ σ 18 0 0 t
        · have e : lt t = 0 := by
            show (if σ 26 0 0 t = 0 then (0 : Int32) else if _ then 0 else 1) = 0
            rw [if_neg ho, if_pos hl]
          rw [e, Int32.add_zero] at hk
          rw [if_pos hl]
          exact hk
        · have e : lt t = 1 := by
            show (if σ 26 0 0 t = 0 then (0 : Int32) else if _ then 0 else 1) = 1
            rw [if_neg ho, if_neg hl]
          rw [e, ← Int32.add_assoc] at hk
          rw [if_neg hl]
          exact hk
  have r : ∀ m n t, t + m = 16 → m < n → f_X5_late_12 N n (ks_up σ 14 0 0 0 0) (σ 14 0 0 27 + sI lt t) (nI t) = some (σ 14 0 0 27 + sI lt 16, ks_up σ 14 0 0 0 0) := by
    intro m
    induction m with
    | zero =>
      intro n t ht hn2
      obtain ⟨n, rfl⟩ : ∃ n', n = n' + 1 := ⟨n - 1, by omega⟩
      obtain rfl : t = 16 := by omega
      rw [f_X5_late_12, if_pos e16]
    | succ m ih =>
      intro n t ht hn2
      obtain ⟨n, rfl⟩ : ∃ n', n = n' + 1 := ⟨n - 1, by omega⟩
      have ht16 : t < 16 := by omega
      have hk := ih n (t + 1) (by omega) (by omega)
      rw [sI] at hk
      rw [f_X5_late_12, if_neg (z16 ht16), if_pos (i16 ht16), cl (by omega), thr_k σ 0 (show (26 : Nat) ≠ 14 by decide), thr_14 σ 0 (show (13 : Nat) ≠ 0 by decide), thr_k σ 0 (show (28 : Nat) ≠ 14 by decide), thr_k σ 0 (show (18 : Nat) ≠ 14 by decide), nI_1]
      by_cases ho : σ 26 0 0 t = 0
      · have e : lt t = 0 := by
          show (if σ 26 0 0 t = 0 then (0 : Int32) else _) = 0
          rw [if_pos ho]
        rw [e, Int32.add_zero] at hk
        rw [if_pos ho]
        exact hk
      · rw [if_neg ho, if_pos (i16 ht16), if_pos (i16 ht16)]
        by_cases hl : σ 14 0 0 13 - σ 28 0 0 t ≤ σ 18 0 0 t
        · have e : lt t = 0 := by
            show (if σ 26 0 0 t = 0 then (0 : Int32) else if _ then 0 else 1) = 0
            rw [if_neg ho, if_pos hl]
          rw [e, Int32.add_zero] at hk
          rw [if_pos hl]
          exact hk
        · have e : lt t = 1 := by
            show (if σ 26 0 0 t = 0 then (0 : Int32) else if _ then 0 else 1) = 1
            rw [if_neg ho, if_neg hl]
          rw [e, ← Int32.add_assoc] at hk
          rw [if_neg hl]
          exact hk
  have c' := c 16 N 0 rfl hN
  have r' := r 16 N 0 rfl hN
  have e : sI (fun i => σ 9 i 0 9 + lt i) 16 = σ 14 0 0 27 + sI lt 16 := by rw [sI_add, hs]
  rw [e] at c'
  refine ⟨σ 14 0 0 27 + sI lt 16, c', ?_⟩
  unfold f_X5_late
  rw [thr_14 σ 0 (show (27 : Nat) ≠ 0 by decide)]
  rw [show sI lt 0 = 0 from rfl, Int32.add_zero] at r'
  exact r'
/-- one task is laid down anew -/
theorem ST_upd {D D' : Nat → Nat → Int32} {id : Nat} (hid : id < 16) (hST : ST D) (e1 : ∀ k s, 15 ≤ k → k ≤ 20 → s ≠ id → D' k s = D k s) (e2 : ∀ k t r, 21 ≤ k → k ≤ 24 → t ≠ id → r < 6 → D' k (6 * t + r) = D k (6 * t + r)) (ht : STt D' id) (hr : ∀ r, r < cn D' id → STr D' id r) (hp : ∀ u, u < 16 → u ≠ id → D' 15 u = D' 15 id → D' 15 u ≠ -1 → nn D' 16 u ≠ nn D' 16 id) : ST D' := by
  have n1 : ∀ k s, 15 ≤ k → k ≤ 20 → s ≠ id → nn D' k s = nn D k s := fun k s a b c => nn_e (e1 k s a b c)
  refine ⟨fun t ht2 => ?_, fun t r ht2 hr2 => ?_, fun t u ht2 hu hne he hm => ?_⟩
  · by_cases e : t = id
    · subst e; exact ht
    · have := hST.1 t ht2
      unfold STt ok at *
      rw [e1 15 t (by decide) (by decide) e, e1 16 t (by decide) (by decide) e, e1 17 t (by decide) (by decide) e, e1 18 t (by decide) (by decide) e, e1 19 t (by decide) (by decide) e, e1 20 t (by decide) (by decide) e, n1 16 t (by decide) (by decide) e, n1 17 t (by decide) (by decide) e, n1 18 t (by decide) (by decide) e, n1 19 t (by decide) (by decide) e, n1 20 t (by decide) (by decide) e]
      exact this
  · by_cases e : t = id
    · subst e; exact hr r hr2
    · have hc : cn D' t = cn D t := n1 20 t (by decide) (by decide) e
      rw [hc] at hr2
      have hcn6 : cn D t ≤ 6 := (cn6 hST ht2).2
      have := hST.2.1 t r ht2 hr2
      have ee : ∀ k q, 21 ≤ k → k ≤ 24 → q < 6 → D' k (6 * t + q) = D k (6 * t + q) := fun k q a b c => e2 k t q a b e c
      have en : ∀ k q, 21 ≤ k → k ≤ 24 → q < 6 → nn D' k (6 * t + q) = nn D k (6 * t + q) := fun k q a b c => nn_e (ee k q a b c)
      obtain ⟨u1, u2, u3, u4, u5⟩ := this
      have eo : ∀ q, q < 6 → ou D' t q = ou D t q := fun q hq => by unfold ou; rw [ee 24 q (by decide) (by decide) hq]
      have ea : ∀ q, q < 6 → af D' t q = af D t q := fun q hq => en 21 q (by decide) (by decide) hq
      have r6 : r < 6 := by omega
      refine ⟨?_, ?_, ?_, ?_, ?_⟩
      · unfold ok; rw [en 21 r (by decide) (by decide) r6, ee 21 r (by decide) (by decide) r6]; exact u1
      · unfold ok; rw [en 22 r (by decide) (by decide) r6, ee 22 r (by decide) (by decide) r6]; exact u2
      · unfold ok; rw [en 23 r (by decide) (by decide) r6, ee 23 r (by decide) (by decide) r6]; exact u3
      · unfold ln; rw [en 23 r (by decide) (by decide) r6]; exact u4
      · rcases u5 with ⟨v1, v2, v3⟩ | ⟨v1, v2, v3, v4⟩
        · refine Or.inl ⟨by rw [eo r r6]; exact v1, by rw [ea r r6, n1 19 t (by decide) (by decide) e]; exact v2, fun q hq ho => ?_⟩
          rw [eo q (by omega)] at ho
          rw [ea q (by omega), ea r r6]
          exact v3 q hq ho
        · refine Or.inr ⟨by rw [eo r r6]; exact v1, ?_, ?_, ?_⟩
          · unfold ok; rw [en 24 r (by decide) (by decide) r6, ee 24 r (by decide) (by decide) r6]; exact v2
          · rw [en 24 r (by decide) (by decide) r6]; exact v3
          · rw [en 24 r (by decide) (by decide) r6, eo _ (by omega)]; exact v4
  · by_cases e : t = id
    · subst e
      have hu' : u ≠ t := fun w => hne w.symm
      exact fun w => hp u hu hu' he.symm (by rw [← he]; exact hm) w.symm
    · by_cases e3 : u = id
      · subst e3
        exact hp t ht2 e he hm
      · rw [e1 15 t (by decide) (by decide) e] at he hm
        rw [e1 15 u (by decide) (by decide) e3] at he
        rw [n1 16 t (by decide) (by decide) e, n1 16 u (by decide) (by decide) e3]
        exact hST.2.2 t u ht2 hu hne he hm
theorem CSt_upd {D D' : Nat → Nat → Int32} {σ σ' : ks_S} {id : Nat} (hST : ST D) (h : CSt D σ) (e1 : ∀ k s, 15 ≤ k → k ≤ 20 → s ≠ id → D' k s = D k s) (e2 : ∀ k t r, 21 ≤ k → k ≤ 24 → t ≠ id → r < 6 → D' k (6 * t + r) = D k (6 * t + r)) (c1 : ∀ t z, t ≠ id → σ' 8 t 0 z = σ 8 t 0 z) (c2 : ∀ t r z, t ≠ id → z < 4 → σ' 11 t r z = σ 11 t r z) (hid : (σ' 8 id 0 0 = 0 ∧ D' 15 id = -1) ∨ (σ' 8 id 0 0 ≠ 0 ∧ D' 15 id ≠ -1 ∧ σ' 8 id 0 1 = D' 15 id ∧ σ' 8 id 0 2 = D' 16 id ∧ σ' 8 id 0 3 = D' 17 id ∧ σ' 8 id 0 4 = D' 18 id ∧ σ' 8 id 0 5 = D' 19 id ∧ σ' 8 id 0 7 = D' 20 id ∧ ∀ r, r < cn D' id → σ' 11 id r 0 = D' 21 (6 * id + r) ∧ σ' 11 id r 1 = D' 22 (6 * id + r) ∧ σ' 11 id r 2 = D' 23 (6 * id + r) ∧ σ' 11 id r 3 = D' 24 (6 * id + r))) : CSt D' σ' := by
  intro t ht
  by_cases e : t = id
  · subst e; exact hid
  · have hc : cn D' t = cn D t := nn_e (e1 20 t (by decide) (by decide) e)
    have hcn6 : cn D t ≤ 6 := (cn6 hST ht).2
    simp only [c1 t _ e]
    rw [hc, e1 15 t (by decide) (by decide) e, e1 16 t (by decide) (by decide) e, e1 17 t (by decide) (by decide) e, e1 18 t (by decide) (by decide) e, e1 19 t (by decide) (by decide) e, e1 20 t (by decide) (by decide) e]
    rcases h t ht with q | ⟨a0, a1, a2, a3, a4, a5, a6, a7, a8⟩
    · exact Or.inl q
    · refine Or.inr ⟨a0, a1, a2, a3, a4, a5, a6, a7, fun r hr => ?_⟩
      rw [c2 t r 0 e (by decide), c2 t r 1 e (by decide), c2 t r 2 e (by decide), c2 t r 3 e (by decide), e2 21 t r (by decide) (by decide) e (by omega), e2 22 t r (by decide) (by decide) e (by omega), e2 23 t r (by decide) (by decide) e (by omega), e2 24 t r (by decide) (by decide) e (by omega)]
      exact a8 r hr
/-- when nothing is sealed, what goes on is empty -/
def FUN (σ σ' : ks_S) : Prop := (∀ k, k ∈ [6, 7, 9, 12, 26, 27, 28, 29, 30, 31, 32, 35, 36, 37, 38, 39, 40, 41, 42, 44] → σ' k = σ k) ∧ σ' 0 = σ 0 ∧ (∀ z, z ≠ 0 → σ' 14 0 0 z = σ 14 0 0 z) ∧ ∀ t r z, 5 ≤ z → σ' 11 t r z = σ 11 t r z
theorem FUN_trans {a b c : ks_S} (h1 : FUN a b) (h2 : FUN b c) : FUN a c := ⟨fun k hk => (h2.1 k hk).trans (h1.1 k hk), h2.2.1.trans h1.2.1, fun z hz => (h2.2.2.1 z hz).trans (h1.2.2.1 z hz), fun t r z hz => (h2.2.2.2 t r z hz).trans (h1.2.2.2 t r z hz)⟩
theorem UN_FUN {σ σ' : ks_S} (hF : FUN σ σ') (h : UN σ) : UN σ' := by
  obtain ⟨e, e0, e14, e11⟩ := hF
  unfold UN at *
  rw [e0, e14 13 (by decide), e14 27 (by decide), e 9 (by decide), e 26 (by decide), e 27 (by decide), e 35 (by decide), e 36 (by decide), e 37 (by decide), e 28 (by decide), e 29 (by decide), e 30 (by decide), e 31 (by decide), e 32 (by decide), e 6 (by decide), e 7 (by decide), e 39 (by decide), e 40 (by decide), e 41 (by decide), e 42 (by decide), e 12 (by decide), e 44 (by decide), e 38 (by decide)]
  obtain ⟨h1, h2, h3, h4, h5, h6⟩ := h
  exact ⟨h1, h2, h3, h4, fun t r ht hr => by rw [e11 t r 5 (by decide), e11 t r 7 (by decide)]; exact h5 t r ht hr, h6⟩
theorem FUN_FM {σ σ' : ks_S} (h : FM σ σ') : FUN σ σ' := by
  refine ⟨fun k hk => ?_, ?_, fun z hz => ?_, fun t r z hz => ?_⟩
  · simp only [List.mem_cons, List.not_mem_nil, or_false] at hk
    funext i j z
    exact h k i j z (by omega) (by omega) (by omega) (by omega)
  · funext i j z
    exact h 0 i j z (by omega) (by omega) (by omega) (by omega)
  · exact h 14 0 0 z (by omega) (by omega) (by omega) (by omega)
  · exact h 11 t r z (by omega) (by omega) (by omega) (by omega)
/-- the reference after it has laid down: D' -/
theorem lay_end {w : Nat} {D' : Nat → Nat → Int32} {σ1 σ2 s3 : ks_S} (hST : ST D') (hC : CSt D' σ2) (hM : CM D' σ2) (hD : sD s3 = D') (hk : ∀ k, k < 14 → s3 k = σ2 k) (hF : FUN σ1 σ2) (hF2 : ∀ k, 26 ≤ k → k ≠ 33 → k ≠ 34 → k ≤ 44 → s3 k = σ2 k) (h14 : ∀ z, z ≠ 0 → s3 14 0 0 z = σ2 14 0 0 z) (hU : UN σ1) (h6 : σ1 0 0 0 6 = 0) (h12 : σ1 14 0 0 12 = 0) (h87 : ∀ t, t < 16 → σ2 8 t 0 7 ≤ 6) : INV w s3 := by
  have hF3 : FUN σ2 s3 := by
    refine ⟨fun k hk2 => ?_, hk 0 (by decide), h14, fun t r z hz => by rw [hk 11 (by decide)]⟩
    simp only [List.mem_cons, List.not_mem_nil, or_false] at hk2
    by_cases q : k < 14
    · exact hk k q
    · exact hF2 k (by omega) (by omega) (by omega) (by omega)
  have hFF := FUN_trans hF hF3
  refine ⟨by rw [hD]; exact hST, ?_, ?_, Or.inl ⟨?_, ?_, UN_FUN hFF hU⟩, by rw [hk 8 (by decide)]; exact h87⟩
  · rw [hD]
    unfold CSt at *
    rw [hk 8 (by decide), hk 11 (by decide)]
    exact hC
  · rw [hD]
    unfold CM wg at *
    rw [hk 3 (by decide), hk 8 (by decide), hk 11 (by decide)]
    exact hM
  · rw [hFF.2.1]; exact h6
  · rw [hFF.2.2.1 12 (by decide)]; exact h12
