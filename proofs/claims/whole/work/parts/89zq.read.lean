/-! PURE: calls that only read. -/
theorem INV_read {w : Nat} {σ : ks_S} (h : INV w σ) : (∀ c, c < 4 → σ 6 0 0 c = σ 41 0 0 c ∧ σ 7 0 0 c = σ 42 0 0 c) ∧ (∀ t, t < 16 → σ 9 t 0 8 = σ 35 0 0 t ∧ σ 9 t 0 10 = σ 36 0 0 t ∧ σ 9 t 0 11 = σ 37 0 0 t ∧ σ 9 t 0 1 = σ 26 0 0 t ∧ σ 9 t 0 2 = σ 28 0 0 t) ∧ (∀ t r, t < 16 → r < cn (sD σ) t → σ 11 t r 7 = σ 38 0 0 (6 * t + r)) ∧ (σ 0 0 0 7 = σ 14 0 0 13 ∧ sI (fun t => σ 9 t 0 9) 16 = σ 14 0 0 27) ∧ (∀ g, g < 8 → ∃ m, m ≤ 4 ∧ σ 12 g 0 1 = nI m ∧ σ 44 0 0 g = nI m ∧ ∀ i, i < m → σ 13 g 0 i = σ 43 0 0 (4 * g + i)) := by
  obtain ⟨h1, h2, h3, h4, _⟩ := h
  rcases h4 with ⟨_, _, ⟨u1, u2, u3⟩, v1, v2, v3, v4, v5⟩ | ⟨_, _, s1, s2, s3, ⟨hT, hQ, hK, hS, hW, hB, hZ⟩, s5, s6, s7, s8⟩
  · refine ⟨fun c hc => ?_, fun t ht => ?_, fun t r ht hr => ?_, ⟨by rw [u1, u2], ?_⟩, fun g hg => ?_⟩
    · obtain ⟨a1, a2, a3, a4, a5, a6⟩ := v2 c hc
      exact ⟨by rw [a1, a5], by rw [a2, a6]⟩
    · obtain ⟨a0, a1, a2, a3, a4, a5, a6, a7, a8, a9, a10, a11, a12, _⟩ := v1 t ht
      exact ⟨by rw [a3, a9], by rw [a5, a10], by rw [a6, a11], by rw [a1, a7], a12⟩
    · have hcn6 : cn (sD σ) t ≤ 6 := (cn6 h1 ht).2
      rw [(v4 t r ht (by omega)).2, v5 _ (by omega)]
    · rw [u3]
      rw [sI_congr (g := fun _ => 0) (fun t ht => (v1 t ht).2.2.2.2.1)]
      decide
    · exact ⟨0, by omega, (v3 g hg).1, (v3 g hg).2, fun i hi => by omega⟩
  · refine ⟨fun c hc => ?_, fun t ht => ?_, fun t r ht hr => ?_, ⟨?_, ?_⟩, fun g hg => ?_⟩
    · rw [(hK c hc).1, (hK c hc).2, rd (μ := σ) (k := 41) (inr4 (by decide) (by decide) hc) (by decide), rd (μ := σ) (k := 42) (inr4 (by decide) (by decide) hc) (by decide), s6 c hc]
      exact ⟨rfl, rfl⟩
    · obtain ⟨a1, a2, a3, a4, a5, a6, a7, a8, a9, a10⟩ := hT t ht
      have n16 : ∀ {k}, 26 ≤ k → k ≤ 37 → k ≠ 33 → k ≠ 34 → inr (sD σ) k t = true := fun a b c d => inr16 a b c d ht
      rw [rd (μ := σ) (k := 35) (n16 (by decide) (by decide) (by decide) (by decide)) (by decide), rd (μ := σ) (k := 36) (n16 (by decide) (by decide) (by decide) (by decide)) (by decide), rd (μ := σ) (k := 37) (n16 (by decide) (by decide) (by decide) (by decide)) (by decide), rd (μ := σ) (k := 26) (n16 (by decide) (by decide) (by decide) (by decide)) (by decide), rd (μ := σ) (k := 28) (n16 (by decide) (by decide) (by decide) (by decide)) (by decide)]
      exact ⟨a8, a9, a10, a1, a3⟩
    · rw [rd (μ := σ) (k := 38) (inr96 (Or.inr (Or.inr rfl)) ht hr (cn6 h1 ht).2) (by decide)]
      exact (hQ t r ht hr).2.2
    · rw [s5, rd (μ := σ) (k := 14) inr14 (by decide)]
    · rw [rd45 (RR_refl σ)]
      exact hB
    · obtain ⟨_, _, ⟨F, hBT⟩, _⟩ := s3
      have o := (hBT.1.2.2.1 g hg).1
      refine ⟨nn (dA σ) 44 g, o.2, by rw [(hW g hg).1]; exact o.1, by rw [rd (μ := σ) (k := 44) (inr44 hg) (by decide)]; exact o.1, fun i hi => ?_⟩
      have := o.2
      rw [(hW g hg).2 i hi, rd (μ := σ) (k := 43) (inr43 (by omega)) (by decide)]
/-- a call that answers a number -/
def OPV (w : Nat) (L : Option (Int32 × (ks_S × Int64))) (M : ks_S → Option (Int32 × ks_S)) : Prop := ∃ code s1 o1 r s2, L = some (code, (s1, o1)) ∧ M s1 = some (r, s2) ∧ s2 14 0 0 0 = code ∧ (code = 0 → o1 = r.toInt64) ∧ INV w s2
theorem thr_hit (σ : ks_S) (v : Int32) : ks_up σ 14 0 0 0 v 14 0 0 0 = v := ks_up_hit _ _ _ _ _ _
theorem op_group {N w : Nat} (hN : 100 < N) {σ : ks_S} (o : Int64) (x : Int32) (h : INV w σ) : OPV w (f_L_group σ o x) (fun s => f_X5_group N s x) := by
  rcases wi_cases x (n := 7) (by decide) with q | ⟨q, j, j1, rfl⟩
  · have q : wi x 0 7 = 0 := q
    refine ⟨1, σ, o, 0, ks_up σ 14 0 0 0 1, ?_, ?_, thr_hit _ _, fun e => absurd e (by decide), INV_thr 1 h⟩
    · simp [f_L_group, f_X4_group, cls_wi, q]
    · simp [f_X5_group, ref_wi, ref_rf, q, rf]
  · have q : wi (nI j) 0 7 = 1 := q
    obtain ⟨σ', a1, a2, a3, a4⟩ := ref_fg hN (INV_thr 0 h)
    have e25 : σ' 25 0 0 j = σ 3 0 0 j := by
      have := congrFun (congrFun a4 25) j
      unfold sD wg at this
      rw [if_pos (by omega), if_pos ⟨rfl, by omega⟩, thr_k σ 0 (by decide)] at this
      exact this
    refine ⟨0, σ, (σ 3 0 0 j).toInt64, σ 3 0 0 j, σ', ?_, ?_, by rw [a3 14 0 0 0 (by omega), thr_hit], fun _ => rfl, a2⟩
    · simp [f_L_group, f_X4_group, cls_wi, q, i8 (show j < 8 by omega), cl (show j < 96 by omega)]
    · simp [f_X5_group, ref_wi, ref_rf, q, rf, a1, i8 (show j < 8 by omega), cl (show j < 96 by omega), e25]
theorem op_core {w : Nat} {σ : ks_S} (o : Int64) (x y : Int32) (h : INV w σ) : OPV w (f_L_core σ o x y) (fun s => f_X5_core s x y) := by
  rcases wi_cases x (n := 3) (by decide) with q | ⟨q, c, c1, rfl⟩
  · have q : wi x 0 3 = 0 := q
    refine ⟨1, σ, o, 0, ks_up σ 14 0 0 0 1, ?_, ?_, thr_hit _ _, fun e => absurd e (by decide), INV_thr 1 h⟩
    · simp [f_L_core, f_X4_core, cls_wi, q]
    · by_cases p : wi y 0 1 = 0 <;> simp [f_X5_core, f_X5_core_15, f_X5_core_29, ref_wi, ref_rf, q, rf, p]
  · have q : wi (nI c) 0 3 = 1 := q
    rcases wi_cases y (n := 1) (by decide) with p | ⟨p, d, d1, rfl⟩
    · have p : wi y 0 1 = 0 := p
      refine ⟨2, σ, o, 0, ks_up σ 14 0 0 0 2, ?_, ?_, thr_hit _ _, fun e => absurd e (by decide), INV_thr 2 h⟩
      · simp [f_L_core, f_X4_core, cls_wi, q, p]
      · simp [f_X5_core, f_X5_core_15, f_X5_core_29, ref_wi, ref_rf, q, rf, p]
    · have p : wi (nI d) 0 1 = 1 := p
      obtain ⟨hc, _⟩ := INV_read h
      obtain ⟨b1, b2⟩ := hc c (by omega)
      by_cases hd : nI d = 0
      · refine ⟨0, σ, (σ 6 0 0 c).toInt64, σ 6 0 0 c, ks_up σ 14 0 0 0 0, ?_, ?_, thr_hit _ _, fun _ => rfl, INV_thr 0 h⟩
        · simp [f_L_core, f_X4_core, cls_wi, q, show wi 0 0 1 = 1 from rfl, hd, i4 (show c < 4 by omega), cl (show c < 96 by omega)]
        · simp [f_X5_core, f_X5_core_15, f_X5_core_29, ref_wi, ref_rf, q, rf, show wi 0 0 1 = 1 from rfl, hd, i4 (show c < 4 by omega), cl (show c < 96 by omega), ks_up_at, b1]
      · refine ⟨0, σ, (σ 7 0 0 c).toInt64, σ 7 0 0 c, ks_up σ 14 0 0 0 0, ?_, ?_, thr_hit _ _, fun _ => rfl, INV_thr 0 h⟩
        · simp [f_L_core, f_X4_core, cls_wi, q, p, hd, i4 (show c < 4 by omega), cl (show c < 96 by omega)]
        · simp [f_X5_core, f_X5_core_15, f_X5_core_29, ref_wi, ref_rf, q, rf, p, hd, i4 (show c < 4 by omega), cl (show c < 96 by omega), ks_up_at, b2]
theorem op_row {N w : Nat} (hN : 100 < N) {σ : ks_S} (o : Int64) (x y : Int32) (h : INV w σ) : OPV w (f_L_row σ o x y) (fun s => f_X5_row N s x y) := by
  rcases wi_cases x (n := 7) (by decide) with q | ⟨q, j, j1, rfl⟩
  · have q : wi x 0 7 = 0 := q
    refine ⟨1, σ, o, 0, ks_up σ 14 0 0 0 1, ?_, ?_, thr_hit _ _, fun e => absurd e (by decide), INV_thr 1 h⟩
    · simp [f_L_row, f_X4_row, cls_wi, q]
    · simp [f_X5_row, f_X5_row_16, ref_wi, ref_rf, q, rf]
  · have q : wi (nI j) 0 7 = 1 := q
    have h3 := h.2.2.1.1
    obtain ⟨g, g1, g2⟩ := h3.2.1 j (by omega)
    have g2 : σ 3 0 0 j = nI g := g2
    obtain ⟨_, _, _, _, hrow⟩ := INV_read h
    obtain ⟨m, m1, m2, m3, m4⟩ := hrow g (by omega)
    have hro : f_X4_rowOf σ (nI j) = some ((g, 0), σ) := by
      unfold f_X4_rowOf
      rw [if_pos (i8 (by omega)), cl (by omega), g2, if_pos (i8 (by omega)), cl (by omega)]
    obtain ⟨σ', a1, a2, a3, a4⟩ := ref_fg hN (INV_thr 0 h)
    have e25 : σ' 25 0 0 j = nI g := by
      have := congrFun (congrFun a4 25) j
      unfold sD wg at this
      rw [if_pos (by omega), if_pos ⟨rfl, by omega⟩, thr_k σ 0 (by decide)] at this
      rw [this, g2]
    have e44 : σ' 44 0 0 g = nI m := by rw [a3 44 0 0 g (by omega), thr_k σ 0 (by decide)]; exact m3
    have e43 : ∀ i, i < m → σ' 43 0 0 (4 * g + i) = σ 13 g 0 i := fun i hi => by rw [a3 43 0 0 _ (by omega), thr_k σ 0 (by decide)]; exact (m4 i hi).symm
    have hM : ∀ v, (∃ i, i < m ∧ y = nI i ∧ v = σ 13 g 0 i) ∨ (v = -1 ∧ wi y 0 (nI m - 1) = 0) → f_X5_row N σ (nI j) y = some (v, σ') := fun v hv => by
      unfold f_X5_row f_X5_row_16
      rw [ref_wi, q, Option.bind_some]
      dsimp only
      rw [if_neg (by decide), ref_rf, show rf 0 0 0 = 0 from rfl, Option.bind_some]
      dsimp only
      rw [if_pos rfl, if_pos rfl, a1, Option.bind_some, if_pos (i8 (by omega)), cl (i := j) (by omega), e25, if_pos (i8 (by omega)), cl (i := g) (by omega), e44, ref_wi, Option.bind_some]
      dsimp only
      rcases hv with ⟨i, i1, rfl, rfl⟩ | ⟨rfl, hv⟩
      · obtain ⟨z, hz⟩ : ∃ z, m = z + 1 := ⟨m - 1, by omega⟩
        have hwi : wi (nI i) 0 (nI m - 1) = 1 := by
          rw [hz, nI_pred]
          exact wi_in (by omega) (by omega)
        rw [hwi, if_neg (by decide), nI_4, nI_add, if_pos (i32 (by omega)), cl (i := 4 * g + i) (by omega), e43 i i1]
      · rw [hv, if_pos rfl]
    have hco : ∃ v, f_X2_coreAt σ g y = some (v, σ) ∧ ((∃ i, i < m ∧ y = nI i ∧ v = σ 13 g 0 i) ∨ (v = -1 ∧ wi y 0 (nI m - 1) = 0)) := by
      unfold f_X2_coreAt
      by_cases hy : y < 0
      · rw [if_pos hy]
        exact ⟨-1, rfl, Or.inr ⟨rfl, by unfold wi; rw [if_pos hy]⟩⟩
      · obtain ⟨i, i1, rfl⟩ := nI_of hy
        rw [if_neg hy, m2]
        by_cases hi : m ≤ i
        · rw [if_pos (nI_le hi i1)]
          refine ⟨-1, rfl, Or.inr ⟨rfl, ?_⟩⟩
          unfold wi
          rw [if_neg hy, if_pos]
          by_cases h0 : m = 0
          · rw [h0, show nI 0 - 1 = -1 from rfl]
            exact Int32.lt_of_lt_of_le (show (-1 : Int32) < 0 by decide) (nI_pos' i1)
          · obtain ⟨z, hz⟩ : ∃ z, m = z + 1 := ⟨m - 1, by omega⟩
            rw [hz, nI_pred]
            exact nI_lt (by omega) i1
        · rw [if_neg (nI_ge (by omega) (by omega)), if_pos (i4 (by omega)), cl (by omega)]
          exact ⟨_, rfl, Or.inl ⟨i, by omega, rfl, rfl⟩⟩
    obtain ⟨v, v1, v2⟩ := hco
    refine ⟨0, σ, v.toInt64, v, σ', ?_, hM v v2, by rw [a3 14 0 0 0 (by omega), thr_hit], fun _ => rfl, a2⟩
    simp [f_L_row, f_X4_row, cls_wi, q, hro, v1]
theorem op_jobs {w : Nat} {σ : ks_S} (o : Int64) (x y : Int32) (h : INV w σ) : OPV w (f_L_jobs σ o x y) (fun s => f_X5_jobs s x y) := by
  obtain ⟨h1, h2, h3, h4⟩ := id h
  obtain ⟨_, hj, _⟩ := INV_read h
  rcases task_dec h1 h2 (RD_sD σ) x with ⟨t, ht, rfl, hth, t1, t2⟩ | ⟨t1, t2, _⟩
  · obtain ⟨b1, b2, b3, b4, _⟩ := hj t ht
    have c1 := i16 ht
    have c2 := cl (show t < 96 by omega)
    by_cases y0 : y = 0
    · subst y0
      refine ⟨0, σ, (σ 9 t 0 8).toInt64, σ 9 t 0 8, ks_up σ 14 0 0 0 0, ?_, ?_, thr_hit _ _, fun _ => rfl, INV_thr 0 h⟩
      · simp [f_L_jobs, f_X4_jobs, t1]
      · simp [f_X5_jobs, f_X5_jobs_14, f_X5_jobs_28, t2, ref_wi, show wi 0 0 3 = 1 from rfl, ref_rf, rf, c1, c2, ks_up_at, b1]
    · by_cases y1 : y = 1
      · subst y1
        refine ⟨0, σ, (σ 9 t 0 10).toInt64, σ 9 t 0 10, ks_up σ 14 0 0 0 0, ?_, ?_, thr_hit _ _, fun _ => rfl, INV_thr 0 h⟩
        · simp [f_L_jobs, f_X4_jobs, t1]
        · simp [f_X5_jobs, f_X5_jobs_14, f_X5_jobs_28, t2, ref_wi, show wi 1 0 3 = 1 from rfl, ref_rf, rf, c1, c2, ks_up_at, b2]
      · by_cases y2 : y = 2
        · subst y2
          refine ⟨0, σ, (σ 9 t 0 11).toInt64, σ 9 t 0 11, ks_up σ 14 0 0 0 0, ?_, ?_, thr_hit _ _, fun _ => rfl, INV_thr 0 h⟩
          · simp [f_L_jobs, f_X4_jobs, t1]
          · simp [f_X5_jobs, f_X5_jobs_14, f_X5_jobs_28, t2, ref_wi, show wi 2 0 3 = 1 from rfl, ref_rf, rf, c1, c2, ks_up_at, b3]
        · by_cases y3 : y = 3
          · subst y3
            by_cases hz : σ 26 0 0 t = 0
            · refine ⟨0, σ, (0 : Int32).toInt64, 0, ks_up σ 14 0 0 0 0, ?_, ?_, thr_hit _ _, fun _ => rfl, INV_thr 0 h⟩
              · simp [f_L_jobs, f_X4_jobs, t1, b4, hz]
              · simp [f_X5_jobs, f_X5_jobs_14, f_X5_jobs_28, t2, ref_wi, show wi 3 0 3 = 1 from rfl, ref_rf, rf, c1, c2, ks_up_at, hz]
            · refine ⟨0, σ, (1 : Int32).toInt64, 1, ks_up σ 14 0 0 0 0, ?_, ?_, thr_hit _ _, fun _ => rfl, INV_thr 0 h⟩
              · simp [f_L_jobs, f_X4_jobs, t1, b4, hz]
              · simp [f_X5_jobs, f_X5_jobs_14, f_X5_jobs_28, t2, ref_wi, show wi 3 0 3 = 1 from rfl, ref_rf, rf, c1, c2, ks_up_at, hz]
          · have hw : wi y 0 3 = 0 := by
              rcases wi_cases y (n := 3) (by decide) with q | ⟨_, j, j1, rfl⟩
              · exact q
              · exfalso
                obtain rfl | rfl | rfl | rfl : j = 0 ∨ j = 1 ∨ j = 2 ∨ j = 3 := by omega
                · exact y0 rfl
                · exact y1 rfl
                · exact y2 rfl
                · exact y3 rfl
            refine ⟨2, σ, o, 0, ks_up σ 14 0 0 0 2, ?_, ?_, thr_hit _ _, fun e => absurd e (by decide), INV_thr 2 h⟩
            · simp [f_L_jobs, f_X4_jobs, t1, y0, y1, y2, y3]
            · simp [f_X5_jobs, f_X5_jobs_14, f_X5_jobs_28, t2, ref_wi, hw, ref_rf, rf]
  · refine ⟨1, σ, o, 0, ks_up σ 14 0 0 0 1, ?_, ?_, thr_hit _ _, fun e => absurd e (by decide), INV_thr 1 h⟩
    · simp [f_L_jobs, f_X4_jobs, t1]
    · by_cases p : wi y 0 3 = 0 <;> simp [f_X5_jobs, f_X5_jobs_14, f_X5_jobs_28, t2, ref_wi, p, ref_rf, rf]
theorem op_spun {w : Nat} {σ : ks_S} (o : Int64) (x y : Int32) (h : INV w σ) : OPV w (f_L_spun σ o x y) (fun s => f_X5_spun s x y) := by
  obtain ⟨h1, h2, h3, h4⟩ := id h
  obtain ⟨_, _, hs, _⟩ := INV_read h
  rcases task_dec h1 h2 (RD_sD σ) x with ⟨t, ht, rfl, hth, t1, t2⟩ | ⟨t1, t2, _⟩
  · rcases req_dec h1 h2 (RD_sD σ) ht hth t2 y with ⟨r, hr, rfl, r1, r2⟩ | ⟨r1, r2⟩
    · have hcn6 : cn (sD σ) t ≤ 6 := (cn6 h1 ht).2
      refine ⟨0, σ, (σ 11 t r 7).toInt64, σ 11 t r 7, ks_up σ 14 0 0 0 0, ?_, ?_, thr_hit _ _, fun _ => rfl, INV_thr 0 h⟩
      · simp [f_L_spun, f_X4_spun, t1, r1]
      · simp [f_X5_spun, f_X5_spun_15, r2, ref_rf, rf, nI_6, i96 (show 6 * t + r < 96 by omega), cl (show 6 * t + r < 96 by omega), ks_up_at, hs t r ht hr]
    · refine ⟨1, σ, o, 0, ks_up σ 14 0 0 0 1, ?_, ?_, thr_hit _ _, fun e => absurd e (by decide), INV_thr 1 h⟩
      · simp [f_L_spun, f_X4_spun, t1, r1]
      · simp [f_X5_spun, f_X5_spun_15, r2, ref_rf, rf]
  · refine ⟨1, σ, o, 0, ks_up σ 14 0 0 0 1, ?_, ?_, thr_hit _ _, fun e => absurd e (by decide), INV_thr 1 h⟩
    · simp [f_L_spun, f_X4_spun, t1]
    · simp [f_X5_spun, f_X5_spun_15, f_X5_isRequest, t2, ref_rf, rf]
theorem op_spin {N w : Nat} (hN : 100 < N) {σ : ks_S} (o : Int64) (x y : Int32) (h : INV w σ) : OPV w (f_L_spin σ o x y) (fun s => f_X5_spin N s x y) := by
  obtain ⟨h1, h2, h3, h4⟩ := id h
  rcases task_dec h1 h2 (RD_sD σ) x with ⟨t, ht, rfl, hth, t1, t2⟩ | ⟨t1, t2, _⟩
  · rcases req_dec h1 h2 (RD_sD σ) ht hth t2 y with ⟨r, hr, rfl, r1, r2⟩ | ⟨r1, r2⟩
    · have hcn6 : cn (sD σ) t ≤ 6 := (cn6 h1 ht).2
      obtain ⟨σ', a1, a2, a3, a4⟩ := ref_fg hN (INV_thr 0 h)
      have hw : ∀ k, k ≠ 25 → sD σ' k = sD σ k := fun k hk => by rw [a4, wg_row hk, sD_thr]
      have eD : sD σ' = wg (sD σ) σ := by
        rw [a4, sD_thr]
        funext k s
        unfold wg
        rw [thr_k σ 0 (by decide)]
      have hSG : SG (sD σ') := by
        rw [eD]
        exact GL_SG h3.1
      have hST : ST (sD σ') := a2.1
      have hval := (h3.2 t ht hth).2 r hr
      refine ⟨0, σ, (σ 11 t r 4).toInt64, σ 11 t r 4, σ', ?_, ?_, by rw [a3 14 0 0 0 (by omega), thr_hit], fun _ => rfl, a2⟩
      · simp [f_L_spin, f_X4_spin, t1, r1]
      · have hout := ref_outer' (μ := σ') (show 6 * t + r < 96 by omega)
        rw [ou_same hw] at hout
        by_cases ho : ou (sD σ) t r = true
        · have hsp := ref_spin (N := N) (by omega) hST hSG ht (by rw [cn_same hw]; exact hr)
          rw [eD] at hsp
          rw [if_pos ho] at hout hval
          simp [f_X5_spin, f_X5_spin_15, r2, ref_rf, rf, a1, hout, hsp, hval]
        · rw [if_neg ho] at hout hval
          simp [f_X5_spin, f_X5_spin_15, r2, ref_rf, rf, a1, hout, hval]
    · refine ⟨1, σ, o, 0, ks_up σ 14 0 0 0 1, ?_, ?_, thr_hit _ _, fun e => absurd e (by decide), INV_thr 1 h⟩
      · simp [f_L_spin, f_X4_spin, t1, r1]
      · simp [f_X5_spin, f_X5_spin_15, r2, ref_rf, rf]
  · refine ⟨1, σ, o, 0, ks_up σ 14 0 0 0 1, ?_, ?_, thr_hit _ _, fun e => absurd e (by decide), INV_thr 1 h⟩
    · simp [f_L_spin, f_X4_spin, t1]
    · simp [f_X5_spin, f_X5_spin_15, f_X5_isRequest, t2, ref_rf, rf]
theorem op_bound {N w : Nat} (hN : 20000 < N) {σ : ks_S} (o : Int64) (x y : Int32) (h : INV w σ) : OPV w (f_L_bound N σ o x y) (fun s => f_X5_bound N s x y) := by
  obtain ⟨h1, h2, h3, h4⟩ := id h
  rcases task_dec h1 h2 (RD_sD σ) x with ⟨t, ht, rfl, hth, t1, t2⟩ | ⟨t1, t2, _⟩
  · obtain ⟨σ', a1, a2, a3, a4⟩ := ref_fg (N := N) (by omega) (INV_thr 0 h)
    have hw : ∀ k, k ≠ 25 → wg (sD σ) σ k = sD σ k := fun k hk => wg_row hk
    have eD : sD σ' = wg (sD σ) σ := by
      rw [a4, sD_thr]
      funext k s
      unfold wg
      rw [thr_k σ 0 (by decide)]
    have hSG : SG (sD σ') := by
      rw [eD]
      exact GL_SG h3.1
    have hST : ST (sD σ') := a2.1
    have hth' : sD σ' 15 t ≠ -1 := by rw [eD, hw 15 (by decide)]; exact hth
    have hSTw := ST_same hw h1
    have hCw := CSt_same hw h2
    have hIw := CM_CI h3
    have hthw : wg (sD σ) σ 15 t ≠ -1 := by rw [hw 15 (by decide)]; exact hth
    have thr : σ' 14 0 0 0 = 0 := by rw [a3 14 0 0 0 (by omega), thr_hit]
    by_cases y0 : y = 0
    · subst y0
      have c := (hIw t ht hthw).1
      have r := ref_infl (N := N) (by omega) hST hSG ht hth'
      rw [eD] at r
      refine ⟨0, σ, (σ 8 t 0 6).toInt64, σ 8 t 0 6, σ', ?_, ?_, thr, fun _ => rfl, a2⟩
      · simp [f_L_bound, f_X4_bound, t1]
      · simp [f_X5_bound, f_X5_bound_14, f_X5_bound_28, t2, ref_wi, show wi 0 0 2 = 1 from rfl, ref_rf, rf, a1, r, c]
    · by_cases y1 : y = 1
      · subst y1
        have c := cls_blk (N := N) (by omega) hSTw hCw hIw ht hthw
        have r := ref_blk (N := N) (by omega) hST hSG ht hth'
        rw [eD] at r
        refine ⟨0, σ, (nI (blk (wg (sD σ) σ) t)).toInt64, nI (blk (wg (sD σ) σ) t), σ', ?_, ?_, thr, fun _ => rfl, a2⟩
        · simp [f_L_bound, f_X4_bound, t1, c]
        · simp [f_X5_bound, f_X5_bound_14, f_X5_bound_28, t2, ref_wi, show wi 1 0 2 = 1 from rfl, ref_rf, rf, a1, r]
      · by_cases y2 : y = 2
        · subst y2
          obtain ⟨v, c1, c2⟩ := cls_resp hN hSTw hCw hIw ht hthw
          obtain ⟨v', r1, r2⟩ := ref_resp hN hST hSG ht hth'
          rw [eD] at r2
          have e := RV_uniq r2 c2
          subst e
          refine ⟨0, σ, v'.toInt64, v', σ', ?_, ?_, thr, fun _ => rfl, a2⟩
          · simp [f_L_bound, f_X4_bound, t1, c1]
          · simp [f_X5_bound, f_X5_bound_14, f_X5_bound_28, t2, ref_wi, show wi 2 0 2 = 1 from rfl, ref_rf, rf, a1, r1]
        · have hwi : wi y 0 2 = 0 := by
            rcases wi_cases y (n := 2) (by decide) with q | ⟨_, j, j1, rfl⟩
            · exact q
            · exfalso
              obtain rfl | rfl | rfl : j = 0 ∨ j = 1 ∨ j = 2 := by omega
              · exact y0 rfl
              · exact y1 rfl
              · exact y2 rfl
          refine ⟨2, σ, o, 0, ks_up σ 14 0 0 0 2, ?_, ?_, thr_hit _ _, fun e => absurd e (by decide), INV_thr 2 h⟩
          · simp [f_L_bound, f_X4_bound, t1, y0, y1, y2]
          · simp [f_X5_bound, f_X5_bound_14, f_X5_bound_28, t2, ref_wi, hwi, ref_rf, rf]
  · refine ⟨1, σ, o, 0, ks_up σ 14 0 0 0 1, ?_, ?_, thr_hit _ _, fun e => absurd e (by decide), INV_thr 1 h⟩
    · simp [f_L_bound, f_X4_bound, t1]
    · by_cases p : wi y 0 2 = 0 <;> simp [f_X5_bound, f_X5_bound_14, f_X5_bound_28, t2, ref_wi, p, ref_rf, rf]
