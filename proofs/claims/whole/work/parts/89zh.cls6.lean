/-! PURE: the class's ticks are the machine's. -/
theorem aIt_add (D : Nat → Nat → Int32) : ∀ k m (A : Nat → Nat → Int32) x, aIt D A (k + m) = aIt D (aIt D A k) m ∧ aItR D A x (k + m) = aItR D (aIt D A k) (aItR D A x k) m := by
  intro k
  induction k with
  | zero => intro m A x; rw [Nat.zero_add]; exact ⟨rfl, rfl⟩
  | succ k ih =>
    intro m A x
    rw [Nat.succ_add, aIt, aItR, aIt, aItR]
    exact ih m _ _
theorem LV_it {D : Nat → Nat → Int32} : ∀ k (A : Nat → Nat → Int32) w, LV D A → SP A w → nn A 14 13 + k < 2 ^ 31 → LV D (aIt D A k) ∧ nn (aIt D A k) 14 13 = nn A 14 13 + k ∧ SP (aIt D A k) (w + 4 * k) := by
  intro k
  induction k with
  | zero => intro A w h hs hn; exact ⟨h, rfl, hs⟩
  | succ k ih =>
    intro A w h hs hn
    obtain ⟨h1, h2⟩ := LV_tick h (by omega)
    obtain ⟨i1, i2, i3⟩ := ih (aTick D A) (w + 4) h1 (SP_tick hs) (by omega)
    rw [aIt]
    refine ⟨i1, by omega, ?_⟩
    rw [show w + 4 * (k + 1) = w + 4 + 4 * k by omega]
    exact i3
theorem gR_x (D : Nat → Nat → Int32) (k : Nat) (Y : Nat → Nat → Int32) (x : Int32) : x + gR D k Y 0 = gR D k Y x := by
  unfold gR
  simp only [Int32.add_assoc, Int32.zero_add]
/-- only what goes on, and the clock -/
def FN (σ σ' : ks_S) : Prop := (∀ k, k ≠ 0 → k ≠ 6 → k ≠ 7 → k ≠ 9 → k ≠ 11 → k ≠ 12 → k ≠ 13 → σ' k = σ k) ∧ (∀ t r z, z < 5 → σ' 11 t r z = σ 11 t r z) ∧ σ' 0 0 0 6 = σ 0 0 0 6
theorem FN_of {σ σ' : ks_S} (h : FC σ σ') : FN σ σ' := ⟨fun k q0 a b c d e f => h.1 k a b c d e f, h.2, by rw [h.1 0 (by decide) (by decide) (by decide) (by decide) (by decide) (by decide)]⟩
theorem FN_refl (σ : ks_S) : FN σ σ := FN_of (FC_refl σ)
theorem FN_trans {σ σ1 σ2 : ks_S} (h1 : FN σ σ1) (h2 : FN σ1 σ2) : FN σ σ2 := ⟨fun k q0 a b c d e f => (h2.1 k q0 a b c d e f).trans (h1.1 k q0 a b c d e f), fun t r z hz => (h2.2.1 t r z hz).trans (h1.2.1 t r z hz), h2.2.2.trans h1.2.2⟩
theorem FN_now (σ : ks_S) (v : Int32) : FN σ (ks_up σ 0 0 0 7 v) := by
  refine ⟨fun k q0 _ _ _ _ _ _ => ?_, fun t r z _ => ?_, ?_⟩
  · funext a b z
    rw [ks_up_at, if_neg (by omega)]
  · rw [ks_up_at, if_neg (by omega)]
  · rw [ks_up_at, if_neg (by omega)]
theorem CSt_FN {D : Nat → Nat → Int32} {σ σ' : ks_S} (hF : FN σ σ') (h : CSt D σ) : CSt D σ' := by
  have e8 : σ' 8 = σ 8 := hF.1 8 (by decide) (by decide) (by decide) (by decide) (by decide) (by decide) (by decide)
  intro t ht
  rw [e8]
  rcases h t ht with q | ⟨a0, a1, a2, a3, a4, a5, a6, a7, a8⟩
  · exact Or.inl q
  · refine Or.inr ⟨a0, a1, a2, a3, a4, a5, a6, a7, fun r hr => ?_⟩
    rw [hF.2.1 t r 0 (by omega), hF.2.1 t r 1 (by omega), hF.2.1 t r 2 (by omega), hF.2.1 t r 3 (by omega)]
    exact a8 r hr
theorem CGr_FN {D : Nat → Nat → Int32} {σ σ' : ks_S} (hF : FN σ σ') (h : CGr D σ) : CGr D σ' := by
  have e3 : σ' 3 = σ 3 := hF.1 3 (by decide) (by decide) (by decide) (by decide) (by decide) (by decide) (by decide)
  intro l hl
  rw [e3]
  exact h l hl
/-- the clock stands apart -/
theorem RC_now {D A : Nat → Nat → Int32} {σ : ks_S} (v w : Int32) (h : RC D σ A) : RC D (ks_up σ 0 0 0 7 v) (au A 14 13 w) := by
  obtain ⟨hT, hQ, hK, hS, hW, hB, hZ⟩ := h
  have n30 : ∀ t, nn (au A 14 13 w) 30 t = nn A 30 t := fun t => nn_e (au_k _ _ _ _ (by decide))
  have n44 : ∀ t, nn (au A 14 13 w) 44 t = nn A 44 t := fun t => nn_e (au_k _ _ _ _ (by decide))
  refine ⟨fun t ht => ?_, fun t r ht hr => ?_, fun c hc => ?_, ⟨fun c hc => ?_, fun t ht => ?_⟩, fun g hg => ?_, ?_, fun v r hv hr hr2 => ?_⟩
  · have := hT t ht
    simp [ks_up_at, au] at this ⊢
    exact this
  · have := hQ t r ht hr
    simp [ks_up_at, au] at this ⊢
    exact this
  · have := hK c hc
    simp [ks_up_at, au] at this ⊢
    exact this
  · have := hS.1 c hc
    simp [ks_up_at, au] at this ⊢
    exact this
  · have := hS.2 t ht
    rw [n30]
    simp [ks_up_at, au] at this ⊢
    exact this
  · have := hW g hg
    rw [n44]
    simp [ks_up_at, au] at this ⊢
    exact this
  · unfold RB at *
    simp [ks_up_at, au] at hB ⊢
    exact hB
  · have := hZ v r hv hr hr2
    simp [ks_up_at] at this ⊢
    exact this
theorem cls_take {N : Nat} (hN : 16 < N) {D A : Nat → Nat → Int32} {σ : ks_S} (hC : CSt D σ) (hG : CGr D σ) (hR : RC D σ A) (h : LV D A) : ∃ σ' F, f_X4_takeJobs N σ = some σ' ∧ RC D σ' (aCho D A) ∧ FC σ σ' ∧ CH D (aCho D A) F 4 := by
  obtain ⟨h1, h2, ⟨F, h3⟩, h4, h5⟩ := h
  obtain ⟨n0, hn0⟩ : ∃ n0, N = n0 + 5 := ⟨N - 5, by omega⟩
  have e : f_X4_takeJobs N σ = f_X4_takeJobs_2 N (n0 + 5) σ (nI 0) := by
    rw [← hn0]
    rfl
  have st : ∀ n c σ, c < 4 → f_X4_takeJobs_2 N (n + 1) σ (nI c) = ((f_X4_isHeldFast σ (nI c)).bind fun (r4, s3) => (if r4 = 0 then ((f_X4_mostUrgentOn N s3 (nI c)).bind fun (r8, s7) => (if ks_in (nI c) 4 = true then ((f_X4_askIfDue ((ks_up s7 6 0 0 (nI c).toNatClampNeg r8)) (nI c)).bind fun s11 => f_X4_takeJobs_2 N n s11 (nI (c + 1))) else none)) else f_X4_takeJobs_2 N n s3 (nI (c + 1)))) := fun n c σ hc => by
    rw [f_X4_takeJobs_2, if_neg (z4 hc), nI_1]
  have c0 : CH D A F 0 := ⟨h3.1, fun c hc => absurd hc (by omega)⟩
  obtain ⟨σ1, a1, r1, f1⟩ := cls_choose hN (c := 0) (by omega) h1 h2 hC hG hR c0.1 (fun s => f_X4_takeJobs_2 N (n0 + 4) s (nI (0 + 1)))
  obtain ⟨F1, c1⟩ := CH_step h1 h2 (by omega) c0
  obtain ⟨σ2, a2, r2, f2⟩ := cls_choose hN (c := 1) (by omega) h1 h2 (CSt_FC f1 hC) (CGr_FC f1 hG) r1 c1.1 (fun s => f_X4_takeJobs_2 N (n0 + 3) s (nI (1 + 1)))
  obtain ⟨F2, c2⟩ := CH_step h1 h2 (by omega) c1
  have f12 := FC_trans f1 f2
  obtain ⟨σ3, a3, r3, f3⟩ := cls_choose hN (c := 2) (by omega) h1 h2 (CSt_FC f12 hC) (CGr_FC f12 hG) r2 c2.1 (fun s => f_X4_takeJobs_2 N (n0 + 2) s (nI (2 + 1)))
  obtain ⟨F3, c3⟩ := CH_step h1 h2 (by omega) c2
  have f123 := FC_trans f12 f3
  obtain ⟨σ4, a4, r4, f4⟩ := cls_choose hN (c := 3) (by omega) h1 h2 (CSt_FC f123 hC) (CGr_FC f123 hG) r3 c3.1 (fun s => f_X4_takeJobs_2 N (n0 + 1) s (nI (3 + 1)))
  obtain ⟨F4, c4⟩ := CH_step h1 h2 (by omega) c3
  refine ⟨σ4, F4, ?_, r4, FC_trans f123 f4, c4⟩
  rw [e, st _ 0 _ (by omega), a1, st _ 1 _ (by omega), a2, st _ 2 _ (by omega), a3, st _ 3 _ (by omega), a4, f_X4_takeJobs_2, if_pos e4]
theorem mid_CK {D M : Nat → Nat → Int32} {F u b : Nat → Nat} {k : Nat} (v : Int32) (hST : ST D) (hP : PH D M F u b) (hch : ∀ c, c < 4 → chosen D M c) (hA : AL D M k) : ∀ c, c < 4 → CK D (au M 14 13 v) c k := by
  intro c hc
  have e : ∀ a s, a ≠ 14 → au M 14 13 v a s = M a s := fun a s q => au_k _ _ _ _ q
  have n : ∀ a s, a ≠ 14 → nn (au M 14 13 v) a s = nn M a s := fun a s q => nn_e (e a s q)
  unfold CK ok
  rw [e 39 c (by decide), e 40 c (by decide)]
  rcases mid_core hST hc hP (hch c hc) with q | ⟨t, q1, q2, q3, q4, q5⟩
  · exact Or.inl q
  · refine Or.inr ⟨t, q1, q2, q3, ?_⟩
    rw [n 30 t (by decide), n 31 t (by decide), n 44 _ (by decide), e 30 t (by decide), e 31 t (by decide), e 43 _ (by decide)]
    obtain ⟨j1, j2, j3, j4, j5, _⟩ := hP.1 t q1 q4
    rcases q5 with z | ⟨z | z, zs⟩
    · exact Or.inl z
    · exact Or.inr (Or.inl ⟨z, j5, zs.2.2.2.2.1⟩)
    · have n3 : nn M 40 c = 3 := nn_nI (n := 3) z (by decide)
      have o31 := zs.2.2.2.2.2.2.1
      have hu : ln D t (nn M 30 t) ≤ 100 := (hST.2.1 t _ q1 zs.2.2.2.2.1).2.2.1.2
      obtain ⟨kk, z1, z2, z3⟩ := zs.2.2.2.2.2.2.2.2.2
      have z3 := z3 n3
      subst z3
      exact Or.inr (Or.inr ⟨z, j5, zs.2.2.2.2.1, ⟨o31.1, by have := o31.2; omega⟩, (hA c t hc q1 q2).2 n3, z2, z1⟩)
theorem cls_ticks {N : Nat} (hN : 16 < N) {D : Nat → Nat → Int32} : ∀ b left n σ x (A : Nat → Nat → Int32) w, left ≤ b → b < n → left ≤ 100000 → CSt D σ → CGr D σ → RC D σ A → LV D A → SP A w → w + 4 * left < 2 ^ 30 → nn A 14 13 + left < 2 ^ 30 → σ 0 0 0 7 = A 14 13 → ∃ σ', f_X4_tick_37 N n σ x (nI left) = some (.inr (aItR D A x left), σ') ∧ RC D σ' (aIt D A left) ∧ FN σ σ' ∧ σ' 0 0 0 7 = aIt D A left 14 13 := by
  intro b
  induction b with
  | zero =>
    intro left n σ x A w hl hn h5 hC hG hR hL hS hw hnn hnow
    obtain ⟨n, rfl⟩ : ∃ n', n = n' + 1 := ⟨n - 1, by omega⟩
    obtain rfl : left = 0 := by omega
    exact ⟨σ, by rw [f_X4_tick_37, if_pos (by decide)]; rfl, hR, FN_refl σ, hnow⟩
  | succ b ih =>
    intro left n σ x A w hl hn h5 hC hG hR hL hS hw hnn hnow
    obtain ⟨n, rfl⟩ : ∃ n', n = n' + 1 := ⟨n - 1, by omega⟩
    by_cases h0 : left = 0
    · subst h0
      exact ⟨σ, by rw [f_X4_tick_37, if_pos (by decide)]; rfl, hR, FN_refl σ, hnow⟩
    · rw [f_X4_tick_37, if_neg (show ¬ nI left ≤ 0 from nI_ge (b := left) (a := 0) (by omega) (by omega))]
      have hST := hL.1
      have hSG := hL.2.1
      obtain ⟨σ1, F, a1, r1, f1, c4⟩ := cls_take hN hC hG hR hL
      rw [a1, Option.bind_some]
      obtain ⟨σ2, a2, r2, f2⟩ := cls_hold (N := N) hST c4 8 N 0 σ1 rfl (by omega) (CSt_FC f1 hC) r1
      have a2 : f_X4_letFirstsHold N σ1 = some σ2 := a2
      rw [a2, Option.bind_some]
      have f12 := FC_trans f1 f2
      obtain ⟨⟨F', hP⟩, hch, hfi, hmn⟩ := mid_all hL
      have r2 : RC D σ2 (aMid D A) := r2
      obtain ⟨r, a3, r3a, r3b, hAL⟩ := cls_alike (N := N) hST (CSt_FC f12 hC) r2 hP hch 4 N 0 100000 rfl (by omega) (by omega) (by omega) (fun s hs => by omega)
      have a3 : f_X4_ticksAlike N σ2 = some (nI r, σ2) := a3
      rw [a3, Option.bind_some]
      dsimp only
      -- how many at once
      obtain ⟨k, hk1, hk2, hk3, hkE⟩ : ∃ k, 1 ≤ k ∧ k ≤ left ∧ k ≤ r ∧ (if 1 < (if nI r < nI left then nI r else nI left) then (if nI r < nI left then nI r else nI left) else 1) = nI k := by
        by_cases q : r < left
        · refine ⟨r, r3a, by omega, Nat.le_refl _, ?_⟩
          rw [if_pos (nI_lt q (by omega))]
          by_cases q2 : 1 < r
          · rw [if_pos (show (1 : Int32) < nI r from nI_lt (a := 1) q2 (by omega))]
          · rw [if_neg (show ¬ (1 : Int32) < nI r from nI_nlt (b := r) (a := 1) (by omega) (by omega)), show r = 1 by omega]
            rfl
        · refine ⟨left, by omega, Nat.le_refl _, by omega, ?_⟩
          rw [if_neg (nI_nlt (by omega) (by omega))]
          by_cases q2 : 1 < left
          · rw [if_pos (show (1 : Int32) < nI left from nI_lt (a := 1) q2 (by omega))]
          · rw [if_neg (show ¬ (1 : Int32) < nI left from nI_nlt (b := left) (a := 1) (by omega) (by omega)), show left = 1 by omega]
            rfl
      rw [hkE]
      obtain ⟨j, rfl⟩ : ∃ j, k = j + 1 := ⟨k - 1, by omega⟩
      have hALk : AL D (aMid D A) (j + 1) := fun c t hc ht q => AL_mono hk3 (fun t ht q => hAL c t hc ht q) t ht q
      have s7 : σ2 0 0 0 7 = A 14 13 := by rw [f12.1 0 (by decide) (by decide) (by decide) (by decide) (by decide) (by decide)]; exact hnow
      rw [s7]
      have F3 := FN_now σ2 (A 14 13 + nI (j + 1))
      have r3 := RC_now (A 14 13 + nI (j + 1)) (A 14 13 + nI j) r2
      have hck := mid_CK (A 14 13 + nI j) hST hP hch hALk
      have h4 : R4 (au (aMid D A) 14 13 (A 14 13 + nI j)) := fun g hg => by
        unfold ok
        rw [nn_e (au_k _ _ _ _ (by decide)), au_k _ _ _ _ (by decide)]
        exact (hP.2.2.1 g hg).1
      have F13 := FN_trans (FN_of f12) F3
      obtain ⟨σ4, a4, r4, f4⟩ := cls_work hN (k := j + 1) hST hSG (CSt_FN F13 hC) (CGr_FN F13 hG) r3 h4 hck (by rw [ks_up_hit, au_hit, Int32.add_assoc, nI_1])
      rw [a4, Option.bind_some]
      dsimp only
      obtain ⟨b1, b2⟩ := batch j A x w hL hS (by omega) (by omega) (by omega) hALk
      obtain ⟨L1, L2, L3⟩ := LV_it (j + 1) A w hL hS (by omega)
      have hRC : RC D σ4 (aIt D A (j + 1)) := by
        rw [b1]
        have := RC_now (σ4 0 0 0 7) (A 14 13 + nI (j + 1)) r4
        rw [ks_up_same rfl] at this
        exact this
      have h7 : σ4 0 0 0 7 = aIt D A (j + 1) 14 13 := by
        rw [f4.1 0 (by decide) (by decide) (by decide) (by decide) (by decide) (by decide), ks_up_hit, b1, au_hit]
      have F14 := FN_trans F13 (FN_of f4)
      rw [gR_x, ← b2, pk_sub hk2]
      obtain ⟨σ5, c1, c2, c3, c5⟩ := ih (left - (j + 1)) n σ4 (aItR D A x (j + 1)) (aIt D A (j + 1)) (w + 4 * (j + 1)) (by omega) (by omega) (by omega) (CSt_FN F14 hC) (CGr_FN F14 hG) hRC L1 L3 (by omega) (by omega) h7
      have ea := aIt_add D (j + 1) (left - (j + 1)) A x
      rw [show j + 1 + (left - (j + 1)) = left by omega] at ea
      refine ⟨σ5, ?_, ?_, FN_trans F14 c3, ?_⟩
      · rw [ea.2]; exact c1
      · rw [ea.1]; exact c2
      · rw [ea.1]; exact c5
