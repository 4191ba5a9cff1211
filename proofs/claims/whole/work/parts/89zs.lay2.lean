/-! PURE: take, task. -/
def OPU (w : Nat) (L : Option (Int32 × (ks_S × Int64))) (M : ks_S → Option ks_S) : Prop := ∃ code s1 o1 s2, L = some (code, (s1, o1)) ∧ M s1 = some s2 ∧ s2 14 0 0 0 = code ∧ INV w s2
theorem sD_upS {μ : ks_S} {k s : Nat} {v : Int32} (h1 : 15 ≤ k) (h2 : k ≤ 25) : sD (ks_up μ k 0 0 s v) = au (sD μ) k s v := by
  funext k' s'
  unfold sD au
  by_cases e : 15 ≤ k' ∧ k' ≤ 25
  · rw [if_pos e, ks_up_at]
    by_cases q : k' = k ∧ s' = s
    · rw [if_pos ⟨q.1, rfl, rfl, q.2⟩, if_pos q]
    · rw [if_neg (fun w => q ⟨w.1, w.2.2.2⟩), if_neg q]
      dsimp only
      rw [if_pos e]
  · rw [if_neg e, if_neg]
    · dsimp only
      rw [if_neg e]
    · rintro ⟨q, _⟩
      omega
theorem sD_cls {σ σ' : ks_S} (h : ∀ k, 14 ≤ k → σ' k = σ k) : sD σ' = sD σ := by
  funext k s
  unfold sD
  by_cases e : 15 ≤ k ∧ k ≤ 25
  · rw [if_pos e, if_pos e, h k (by omega)]
  · rw [if_neg e, if_neg e]
theorem FM_hi {σ σ' : ks_S} (h : FM σ σ') : ∀ k, 14 ≤ k → σ' k = σ k := fun k hk => by
  funext i j z
  exact h k i j z (by omega) (by omega) (by omega) (by omega)
theorem isTask_of {D : Nat → Nat → Int32} {s : ks_S} {t : Nat} (hST : ST D) (hD : RD D s) (ht : t < 16) (hth : D 15 t ≠ -1) : f_X5_isTask s (nI t) = some (1, s) := by
  obtain ⟨c, c1, c2, _⟩ := core_of hST ht hth
  unfold f_X5_isTask
  rw [if_neg (nI_pos (by omega)), if_neg (z16 ht), if_pos (i16 ht), cl (by omega), hD 15 t (by decide) (by decide), if_neg (by rw [c2]; exact nI_pos (by omega))]
theorem INV_seal {w : Nat} {σ : ks_S} (h : INV w σ) : (σ 0 0 0 6 = 0 ∧ σ 14 0 0 12 = 0 ∧ UN σ) ∨ (σ 0 0 0 6 = 1 ∧ σ 14 0 0 12 = 1 ∧ SE w σ) := h.2.2.2.1
theorem INV_87 {w : Nat} {σ : ks_S} (h : INV w σ) : ∀ t, t < 16 → σ 8 t 0 7 ≤ 6 := h.2.2.2.2
theorem op_take {N w : Nat} (hN : 16 < N) {σ : ks_S} (o : Int64) (x : Int32) (h : INV w σ) : OPU w (f_L_take N σ o x) (fun s => f_X5_take s x) := by
  obtain ⟨h1, h2, h3, h4⟩ := id h
  rcases task_dec h1 h2 (RD_sD σ) x with ⟨t, ht, rfl, hth, t1, t2⟩ | ⟨t1, t2, _⟩
  · rcases INV_seal h with ⟨q1, q2, q3⟩ | ⟨q1, q2, q3⟩
    · let D' := au (au (sD σ) 15 t (-1)) 20 t 0
      have e1 : ∀ k s, 15 ≤ k → k ≤ 20 → s ≠ t → D' k s = sD σ k s := fun k s _ _ hs => by
        show au (au (sD σ) 15 t (-1)) 20 t 0 k s = _
        rw [au_s _ _ _ _ hs, au_s _ _ _ _ hs]
      have e2 : ∀ k v r, 21 ≤ k → k ≤ 24 → v ≠ t → r < 6 → D' k (6 * v + r) = sD σ k (6 * v + r) := fun k v r a b _ _ => by
        show au (au (sD σ) 15 t (-1)) 20 t 0 k _ = _
        rw [au_k _ _ _ _ (by omega), au_k _ _ _ _ (by omega)]
      have d15 : D' 15 t = -1 := by
        show au (au (sD σ) 15 t (-1)) 20 t 0 15 t = _
        rw [au_k _ _ _ _ (by decide), au_hit]
      have d20 : D' 20 t = nI 0 := by
        show au (au (sD σ) 15 t (-1)) 20 t 0 20 t = _
        rw [au_hit]
        rfl
      have hST' : ST D' := ST_upd ht h1 e1 e2 (Or.inl ⟨d15, d20⟩) (fun r hr => by
        have : cn D' t = 0 := nn_nI d20 (by decide)
        omega) (fun u _ _ he hm => by rw [he, d15] at hm; exact absurd rfl hm)
      have hC' : CSt D' (ks_up σ 8 t 0 0 0) := CSt_upd h1 h2 e1 e2 (fun v z hv => by rw [ks_up_at, if_neg (by omega)]) (fun v r z hv hz => by rw [ks_up_at, if_neg (by omega)]) (Or.inl ⟨ks_up_hit _ _ _ _ _ _, d15⟩)
      obtain ⟨σ2, a1, a2, a3, a4⟩ := cls_measure (N := N) (by omega) hST' hC' (fun v r hv hv2 hr ho => by
        have hvt : v ≠ t := fun e => hv2 (by rw [e]; exact d15)
        rw [ks_up_at, if_neg (by omega)]
        have hcv : cn D' v = cn (sD σ) v := nn_e (e1 20 v (by decide) (by decide) hvt)
        rw [hcv] at hr
        have hcn6 : cn (sD σ) v ≤ 6 := (cn6 h1 hv).2
        rw [e1 15 v (by decide) (by decide) hvt] at hv2
        have := (h3.2 v hv hv2).2 r hr
        have ho2 : ou (sD σ) v r = false := by
          rw [← ho]
          unfold ou
          rw [e2 24 v r (by decide) (by decide) hvt (by omega)]
        rw [this, ho2, if_neg (by decide)])
      have hhi : ∀ k, 14 ≤ k → σ2 k = σ k := fun k hk => by
        rw [FM_hi a2 k hk]
        funext i j z
        rw [ks_up_at, if_neg (by omega)]
      have hs2 : σ2 14 0 0 12 = 0 := by rw [hhi 14 (by decide)]; exact q2
      have hRD : RD (sD σ) σ2 := fun k s b1 b2 => by rw [hhi k (by omega)]; exact rs b1 (by omega)
      have htk := isTask_of h1 hRD ht hth
      refine ⟨0, σ2, o, ks_up (ks_up (ks_up σ2 14 0 0 0 0) 15 0 0 t (-1)) 20 0 0 t 0, ?_, ?_, ?_, ?_⟩
      · simp [f_L_take, f_X4_take, t1, q1, a1]
      · simp [f_X5_take, f_X5_take_14, htk, hs2, ref_rf, rf, i16 ht, cl (show t < 96 by omega)]
      · rw [ks_up_at, if_neg (by omega), ks_up_at, if_neg (by omega), thr_hit]
      · refine lay_end (σ1 := σ) (σ2 := σ2) hST' a3 a4 ?_ (fun k hk => ?_) ?_ (fun k b1 b2 b3 b4 => ?_) (fun z hz => ?_) q3 q1 q2 (fun v hv => by rw [a2 8 v 0 7 (by omega) (by omega) (by omega) (by omega), ks_up_at, if_neg (by omega)]; exact INV_87 h v hv)
        · rw [sD_upS (by decide) (by decide), sD_upS (by decide) (by decide), sD_thr, sD_cls hhi]
        · funext i j z
          rw [ks_up_at, if_neg (by omega), ks_up_at, if_neg (by omega), ks_up_at, if_neg (by omega)]
        · refine FUN_trans ?_ (FUN_FM a2)
          refine ⟨fun k hk => ?_, ?_, fun z _ => ?_, fun v r z _ => ?_⟩
          · simp only [List.mem_cons, List.not_mem_nil, or_false] at hk
            funext i j z
            rw [ks_up_at, if_neg (by omega)]
          · funext i j z
            rw [ks_up_at, if_neg (by omega)]
          · rw [ks_up_at, if_neg (by omega)]
          · rw [ks_up_at, if_neg (by omega)]
        · funext i j z
          rw [ks_up_at, if_neg (by omega), ks_up_at, if_neg (by omega), ks_up_at, if_neg (by omega)]
        · rw [ks_up_at, if_neg (by omega), ks_up_at, if_neg (by omega), thr_14 _ _ hz]
    · refine ⟨2, σ, o, ks_up σ 14 0 0 0 2, ?_, ?_, thr_hit _ _, INV_thr 2 h⟩
      · simp [f_L_take, f_X4_take, t1, q1]
      · simp [f_X5_take, f_X5_take_14, t2, q2, ref_rf, rf]
  · refine ⟨1, σ, o, ks_up σ 14 0 0 0 1, ?_, ?_, thr_hit _ _, INV_thr 1 h⟩
    · simp [f_L_take, f_X4_take, t1]
    · simp [f_X5_take, f_X5_take_14, t2, ref_rf, rf]
/-- is the priority taken -/
theorem cls_taken {N : Nat} (hN : 16 < N) {D : Nat → Nat → Int32} {σ : ks_S} {c : Nat} {p : Int32} (hC : CSt D σ) (hc : c < 4) : ∃ b, f_X4_isPriorityTaken N σ (nI c) p = some (b, σ) ∧ ((b = 1 ∧ ∃ t, t < 16 ∧ D 15 t = nI c ∧ D 16 t = p) ∨ (b = 0 ∧ ∀ t, t < 16 → D 15 t = nI c → D 16 t ≠ p)) := by
  have loop : ∀ m n t, t + m = 16 → m < n → ∃ b, f_X4_isPriorityTaken_12 N n σ (nI c) p 16 (nI t) = some (b, σ) ∧ ((b = 1 ∧ ∃ v, v < 16 ∧ D 15 v = nI c ∧ D 16 v = p) ∨ (b = 0 ∧ ∀ v, t ≤ v → v < 16 → D 15 v = nI c → D 16 v ≠ p)) := by
    intro m
    induction m with
    | zero =>
      intro n t ht hn
      obtain ⟨n, rfl⟩ : ∃ n', n = n' + 1 := ⟨n - 1, by omega⟩
      obtain rfl : t = 16 := by omega
      exact ⟨0, by rw [f_X4_isPriorityTaken_12, if_pos e16], Or.inr ⟨rfl, fun v h1 h2 => by omega⟩⟩
    | succ m ih =>
      intro n t ht hn
      obtain ⟨n, rfl⟩ : ∃ n', n = n' + 1 := ⟨n - 1, by omega⟩
      have ht16 : t < 16 := by omega
      obtain ⟨b, b1, b2⟩ := ih n (t + 1) (by omega) (by omega)
      have ext : (D 15 t = nI c → D 16 t ≠ p) → ((b = 1 ∧ ∃ v, v < 16 ∧ D 15 v = nI c ∧ D 16 v = p) ∨ (b = 0 ∧ ∀ v, t ≤ v → v < 16 → D 15 v = nI c → D 16 v ≠ p)) := fun q => by
        rcases b2 with b2 | ⟨b3, b4⟩
        · exact Or.inl b2
        · refine Or.inr ⟨b3, fun v h1 h2 h3 => ?_⟩
          by_cases e : v = t
          · subst e; exact q h3
          · exact b4 v (by omega) h2 h3
      rw [f_X4_isPriorityTaken_12, if_neg (z16 ht16), if_pos (i16 ht16), cl (by omega), cls_on ht16 hc hC, Option.bind_some, nI_1]
      dsimp only
      by_cases h15 : D 15 t = nI c
      · rw [if_pos h15, if_neg (by decide)]
        rcases hC t ht16 with ⟨_, w⟩ | ⟨a0, a1, a2, a3, _⟩
        · rw [h15] at w
          exact absurd w (nI_n1 (by omega))
        · rw [a3]
          by_cases h16 : D 16 t = p
          · rw [if_pos h16]
            exact ⟨1, rfl, Or.inl ⟨rfl, t, ht16, h15, h16⟩⟩
          · rw [if_neg h16]
            exact ⟨b, b1, ext (fun _ => h16)⟩
      · rw [if_neg h15, if_pos rfl]
        exact ⟨b, b1, ext (fun q => absurd q h15)⟩
  obtain ⟨b, b1, b2⟩ := loop 16 N 0 rfl hN
  refine ⟨b, b1, ?_⟩
  rcases b2 with b2 | ⟨b3, b4⟩
  · exact Or.inl b2
  · exact Or.inr ⟨b3, fun t ht => b4 t (by omega) ht⟩
theorem ref_taken {N : Nat} (hN : 16 < N) {D : Nat → Nat → Int32} {s : ks_S} {c : Nat} {p : Int32} (hD : RD D s) (hc : c < 4) : ∃ b, f_X5_hasPriority N s (nI c) p = some (b, s) ∧ ((b = 1 ∧ ∃ t, t < 16 ∧ D 15 t = nI c ∧ D 16 t = p) ∨ (b = 0 ∧ ∀ t, t < 16 → D 15 t = nI c → D 16 t ≠ p)) := by
  have loop : ∀ m n t, t + m = 16 → m < n → ∃ b, f_X5_hasPriority_2 N n s (nI c) p (nI t) = some (b, s) ∧ ((b = 1 ∧ ∃ v, v < 16 ∧ D 15 v = nI c ∧ D 16 v = p) ∨ (b = 0 ∧ ∀ v, t ≤ v → v < 16 → D 15 v = nI c → D 16 v ≠ p)) := by
    intro m
    induction m with
    | zero =>
      intro n t ht hn
      obtain ⟨n, rfl⟩ : ∃ n', n = n' + 1 := ⟨n - 1, by omega⟩
      obtain rfl : t = 16 := by omega
      exact ⟨0, by rw [f_X5_hasPriority_2, if_pos e16], Or.inr ⟨rfl, fun v h1 h2 => by omega⟩⟩
    | succ m ih =>
      intro n t ht hn
      obtain ⟨n, rfl⟩ : ∃ n', n = n' + 1 := ⟨n - 1, by omega⟩
      have ht16 : t < 16 := by omega
      obtain ⟨b, b1, b2⟩ := ih n (t + 1) (by omega) (by omega)
      have ext : (D 15 t = nI c → D 16 t ≠ p) → ((b = 1 ∧ ∃ v, v < 16 ∧ D 15 v = nI c ∧ D 16 v = p) ∨ (b = 0 ∧ ∀ v, t ≤ v → v < 16 → D 15 v = nI c → D 16 v ≠ p)) := fun q => by
        rcases b2 with b2 | ⟨b3, b4⟩
        · exact Or.inl b2
        · refine Or.inr ⟨b3, fun v h1 h2 h3 => ?_⟩
          by_cases e : v = t
          · subst e; exact q h3
          · exact b4 v (by omega) h2 h3
      rw [f_X5_hasPriority_2, if_neg (z16 ht16), if_pos (i16 ht16), cl (by omega), hD 15 t (by decide) (by decide), nI_1]
      by_cases h15 : D 15 t = nI c
      · rw [if_pos h15, if_neg (nI_pos (by omega)), if_pos (i16 ht16), hD 16 t (by decide) (by decide)]
        by_cases h16 : D 16 t = p
        · rw [if_pos h16]
          exact ⟨1, rfl, Or.inl ⟨rfl, t, ht16, h15, h16⟩⟩
        · rw [if_neg h16]
          exact ⟨b, b1, ext (fun _ => h16)⟩
      · rw [if_neg h15]
        exact ⟨b, b1, ext (fun q => absurd q h15)⟩
  obtain ⟨b, b1, b2⟩ := loop 16 N 0 rfl hN
  refine ⟨b, b1, ?_⟩
  rcases b2 with b2 | ⟨b3, b4⟩
  · exact Or.inl b2
  · exact Or.inr ⟨b3, fun t ht => b4 t (by omega) ht⟩
theorem wi1_cases (x : Int32) {n : Nat} (hn : n < 2 ^ 31 - 1) : (wi x 1 (nI n) = 0) ∨ (wi x 1 (nI n) = 1 ∧ ∃ j, 1 ≤ j ∧ j ≤ n ∧ x = nI j) := by
  unfold wi
  by_cases h1 : x < 1
  · exact Or.inl (if_pos h1)
  · rw [if_neg h1]
    by_cases h2 : nI n < x
    · exact Or.inl (if_pos h2)
    · rw [if_neg h2]
      have h0 : ¬ x < 0 := fun q => h1 (Int32.lt_trans q (by decide))
      obtain ⟨j, j1, j2⟩ := nI_of h0
      refine Or.inr ⟨rfl, j, ?_, ?_, j2⟩
      · rw [j2, show (1 : Int32) = nI 1 from rfl, nI_ltI j1 (by decide)] at h1
        omega
      · rw [j2, nI_ltI (by omega) j1] at h2
        omega
theorem op_task {N w : Nat} (hN : 16 < N) {σ : ks_S} (o : Int64) (x1 x2 x3 x4 x5 x6 : Int32) (h : INV w σ) : OPU w (f_L_task N σ o x1 x2 x3 x4 x5 x6) (fun s => f_X5_task N s x1 x2 x3 x4 x5 x6) := by
  obtain ⟨h1, h2, h3, h4⟩ := id h
  -- what the reference says of the rest, at any state with these tasks
  have good : ∀ (s : ks_S), RD (sD σ) s → ∃ b, (b = 0 ∨ b = 1) ∧ (∀ (x7 xs0 : Int32), f_X5_task_43 N s x1 x2 x3 x4 x5 x6 x7 xs0 = f_X5_task_114 N s x1 x2 x3 x4 x5 x6 x7 xs0 b) ∧ (b = 1 → ∃ c p dd dl wk, c < 4 ∧ x2 = nI c ∧ p ≤ 1000 ∧ x3 = nI p ∧ 1 ≤ dd ∧ dd ≤ 10000 ∧ x4 = nI dd ∧ 1 ≤ dl ∧ dl ≤ dd ∧ x5 = nI dl ∧ 1 ≤ wk ∧ wk ≤ 1000 ∧ x6 = nI wk ∧ ∀ t, t < 16 → sD σ 15 t = nI c → sD σ 16 t ≠ x3) ∧ (b = 0 → (wi x2 0 3 = 0 ∨ wi x3 0 1000 = 0 ∨ wi x4 1 10000 = 0 ∨ wi x5 1 x4 = 0 ∨ wi x6 1 1000 = 0 ∨ ∃ c, c < 4 ∧ x2 = nI c ∧ ∃ t, t < 16 ∧ sD σ 15 t = nI c ∧ sD σ 16 t = x3)) := fun s hD => by
    have wn : ∀ (x lo hi : Int32), wi x lo hi = 0 ∨ wi x lo hi = 1 := fun x lo hi => by
      unfold wi
      split
      · exact Or.inl rfl
      · split
        · exact Or.inl rfl
        · exact Or.inr rfl
    rcases wi_cases x2 (n := 3) (by decide) with p2 | ⟨p2, c, c1, rfl⟩
    · have p2 : wi x2 0 3 = 0 := p2
      exact ⟨0, Or.inl rfl, fun x7 xs0 => by simp [f_X5_task_43, f_X5_task_113, ref_wi, p2], fun e => absurd e (by decide), fun _ => Or.inl p2⟩
    · have p2 : wi (nI c) 0 3 = 1 := p2
      rcases wi_cases x3 (n := 1000) (by decide) with p3 | ⟨p3, p, pp1, rfl⟩
      · have p3 : wi x3 0 1000 = 0 := p3
        exact ⟨0, Or.inl rfl, fun x7 xs0 => by simp [f_X5_task_43, f_X5_task_113, ref_wi, p2, p3], fun e => absurd e (by decide), fun _ => Or.inr (Or.inl p3)⟩
      · have p3 : wi (nI p) 0 1000 = 1 := p3
        rcases wi1_cases x4 (n := 10000) (by decide) with p4 | ⟨p4, dd, d1, d2, rfl⟩
        · have p4 : wi x4 1 10000 = 0 := p4
          exact ⟨0, Or.inl rfl, fun x7 xs0 => by simp [f_X5_task_43, f_X5_task_113, ref_wi, p2, p3, p4], fun e => absurd e (by decide), fun _ => Or.inr (Or.inr (Or.inl p4))⟩
        · have p4 : wi (nI dd) 1 10000 = 1 := p4
          rcases wi1_cases x5 (n := dd) (by omega) with p5 | ⟨p5, dl, l1, l2, rfl⟩
          · exact ⟨0, Or.inl rfl, fun x7 xs0 => by simp [f_X5_task_43, f_X5_task_113, ref_wi, p2, p3, p4, p5], fun e => absurd e (by decide), fun _ => Or.inr (Or.inr (Or.inr (Or.inl p5)))⟩
          · rcases wi1_cases x6 (n := 1000) (by decide) with p6 | ⟨p6, wk, k1, k2, rfl⟩
            · have p6 : wi x6 1 1000 = 0 := p6
              exact ⟨0, Or.inl rfl, fun x7 xs0 => by simp [f_X5_task_43, f_X5_task_113, ref_wi, p2, p3, p4, p5, p6], fun e => absurd e (by decide), fun _ => Or.inr (Or.inr (Or.inr (Or.inr (Or.inl p6))))⟩
            · have p6 : wi (nI wk) 1 1000 = 1 := p6
              obtain ⟨b, b1, b2⟩ := ref_taken hN (p := nI p) hD (show c < 4 by omega)
              rcases b2 with ⟨rfl, b3⟩ | ⟨rfl, b3⟩
              · exact ⟨0, Or.inl rfl, fun x7 xs0 => by simp [f_X5_task_43, f_X5_task_113, ref_wi, p2, p3, p4, p5, p6, b1], fun e => absurd e (by decide), fun _ => Or.inr (Or.inr (Or.inr (Or.inr (Or.inr ⟨c, by omega, rfl, b3⟩))))⟩
              · exact ⟨1, Or.inr rfl, fun x7 xs0 => by simp [f_X5_task_43, ref_wi, p2, p3, p4, p5, p6, b1], fun _ => ⟨c, p, dd, dl, wk, by omega, rfl, pp1, rfl, d1, d2, rfl, l1, l2, rfl, k1, k2, rfl, b3⟩, fun e => absurd e (by decide)⟩
  have hz : (0 : Int32) ≠ 1 := by decide
  rcases wi_cases x1 (n := 15) (by decide) with q | ⟨q, t, ht, rfl⟩
  · have q : wi x1 0 15 = 0 := q
    obtain ⟨b, b0, b1, _⟩ := good σ (RD_sD σ)
    refine ⟨1, σ, o, ks_up σ 14 0 0 0 1, ?_, ?_, thr_hit _ _, INV_thr 1 h⟩
    · simp [f_L_task, f_X4_task, cls_wi, q]
    · rcases b0 with rfl | rfl
      · simp [f_X5_task, ref_wi, q, f_X5_task_15, f_X5_task_42, b1, f_X5_task_114, f_X5_task_131, ref_rf, rf]
      · simp [f_X5_task, ref_wi, q, f_X5_task_15, f_X5_task_42, b1, f_X5_task_114, f_X5_task_131, ref_rf, rf]
  · have q : wi (nI t) 0 15 = 1 := q
    have ht : t < 16 := by omega
    have e8 := cl (show t < 96 by omega)
    have e9 := i16 ht
    have e15 : σ 15 0 0 t = sD σ 15 t := rs (by decide) (by decide)
    rcases INV_seal h with ⟨q1, q2, q3⟩ | ⟨q1, q2, q3⟩
    · rcases h2 t ht with ⟨g1, g2⟩ | ⟨a0, a1, _⟩
      · -- the place is free
        have n15 : ∀ s, RD (sD σ) s → s 15 0 0 t = -1 := fun s hs => by rw [hs 15 t (by decide) (by decide)]; exact g2
        obtain ⟨b, b0, b1, b2, b3⟩ := good σ (RD_sD σ)
        rcases b0 with rfl | rfl
        · refine ⟨3, σ, o, ks_up σ 14 0 0 0 3, ?_, ?_, thr_hit _ _, INV_thr 3 h⟩
          · have hcl : f_X4_task N σ (nI t) x2 x3 x4 x5 x6 = some (.inl 2, σ) := by
              by_cases w2 : wi x2 0 3 = 0
              · by_cases v4 : wi x4 1 10000 = 0
                · simp [f_X4_task, cls_wi, q, q1, e8, e9, g1, w2, f_X4_task_69, f_X4_task_70, f_X4_task_99, f_X4_task_100, v4]
                · by_cases v5 : wi x5 1 x4 = 0
                  · simp [f_X4_task, cls_wi, q, q1, e8, e9, g1, w2, f_X4_task_69, f_X4_task_70, f_X4_task_99, f_X4_task_100, v4, v5]
                  · simp [f_X4_task, cls_wi, q, q1, e8, e9, g1, w2, f_X4_task_69, f_X4_task_70, f_X4_task_99, f_X4_task_100, v4, v5]
              · by_cases w3 : wi x3 0 1000 = 0
                · by_cases v4 : wi x4 1 10000 = 0
                  · simp [f_X4_task, cls_wi, q, q1, e8, e9, g1, w2, w3, f_X4_task_69, f_X4_task_70, f_X4_task_99, f_X4_task_100, v4]
                  · by_cases v5 : wi x5 1 x4 = 0
                    · simp [f_X4_task, cls_wi, q, q1, e8, e9, g1, w2, w3, f_X4_task_69, f_X4_task_70, f_X4_task_99, f_X4_task_100, v4, v5]
                    · simp [f_X4_task, cls_wi, q, q1, e8, e9, g1, w2, w3, f_X4_task_69, f_X4_task_70, f_X4_task_99, f_X4_task_100, v4, v5]
                · by_cases v4 : wi x4 1 10000 = 0
                  · simp [f_X4_task, cls_wi, q, q1, e8, e9, g1, w2, w3, f_X4_task_70, f_X4_task_99, f_X4_task_100, v4]
                  · by_cases v5 : wi x5 1 x4 = 0
                    · simp [f_X4_task, cls_wi, q, q1, e8, e9, g1, w2, w3, f_X4_task_70, f_X4_task_99, f_X4_task_100, v4, v5]
                    · by_cases v6 : wi x6 1 1000 = 0
                      · simp [f_X4_task, cls_wi, q, q1, e8, e9, g1, w2, w3, f_X4_task_70, f_X4_task_100, v4, v5, v6]
                      · rcases b3 rfl with z | z | z | z | z | ⟨c, c1, rfl, z⟩
                        · exact absurd z w2
                        · exact absurd z w3
                        · exact absurd z v4
                        · exact absurd z v5
                        · exact absurd z v6
                        · obtain ⟨y, y1, y2⟩ := cls_taken hN (p := x3) h2 c1
                          rcases y2 with ⟨rfl, _⟩ | ⟨_, y3⟩
                          · simp [f_X4_task, cls_wi, q, q1, e8, e9, g1, w2, w3, f_X4_task_70, f_X4_task_100, v4, v5, v6, y1]
                          · obtain ⟨v, v1, v2, v3⟩ := z
                            exact absurd v3 (y3 v v1 v2)
            simp [f_L_task, hcl]
          · simp [f_X5_task, ref_wi, q, f_X5_task_15, q2, e8, e9, n15 σ (RD_sD σ), f_X5_task_42, b1, f_X5_task_114, f_X5_task_131, ref_rf, rf]
        · -- it is laid down
          obtain ⟨c, p, dd, dl, wk, c1, rfl, pp1, rfl, d1, d2, rfl, l1, l2, rfl, k1, k2, rfl, hnp⟩ := b2 rfl
          let D' := au (au (au (au (au (au (sD σ) 15 t (nI c)) 16 t (nI p)) 17 t (nI dd)) 18 t (nI dl)) 19 t (nI wk)) 20 t 0
          have hD' : D' = au (au (au (au (au (au (sD σ) 15 t (nI c)) 16 t (nI p)) 17 t (nI dd)) 18 t (nI dl)) 19 t (nI wk)) 20 t 0 := rfl
          have e1 : ∀ k s, 15 ≤ k → k ≤ 20 → s ≠ t → D' k s = sD σ k s := fun k s _ _ hs => by
            rw [hD', au_s _ _ _ _ hs, au_s _ _ _ _ hs, au_s _ _ _ _ hs, au_s _ _ _ _ hs, au_s _ _ _ _ hs, au_s _ _ _ _ hs]
          have e2 : ∀ k v r, 21 ≤ k → k ≤ 24 → v ≠ t → r < 6 → D' k (6 * v + r) = sD σ k (6 * v + r) := fun k v r a b _ _ => by
            rw [hD', au_k _ _ _ _ (by omega), au_k _ _ _ _ (by omega), au_k _ _ _ _ (by omega), au_k _ _ _ _ (by omega), au_k _ _ _ _ (by omega), au_k _ _ _ _ (by omega)]
          have d15 : D' 15 t = nI c := by rw [hD']; simp [au]
          have d16 : D' 16 t = nI p := by rw [hD']; simp [au]
          have d17 : D' 17 t = nI dd := by rw [hD']; simp [au]
          have d18 : D' 18 t = nI dl := by rw [hD']; simp [au]
          have d19 : D' 19 t = nI wk := by rw [hD']; simp [au]
          have d20 : D' 20 t = nI 0 := by rw [hD']; simp [au]; rfl
          have hm1 : D' 15 t ≠ -1 := by rw [d15]; exact nI_n1 (by omega)
          have hc0 : cn D' t = 0 := nn_nI d20 (by decide)
          have hST' : ST D' := by
            refine ST_upd ht h1 e1 e2 (Or.inr ⟨⟨c, c1, d15⟩, (ok_nI d16 pp1 (by decide)).1, (ok_nI d17 d2 (by decide)).1, ?_, (ok_nI d18 (show dl ≤ 10000 by omega) (by decide)).1, ?_, ?_, (ok_nI d19 k2 (by decide)).1, ?_, (ok_nI d20 (by omega) (by decide)).1⟩) (fun r hr => by omega) (fun u hu hne he hm => ?_)
            · rw [nn_nI d17 (by omega)]; exact d1
            · rw [nn_nI d18 (by omega)]; exact l1
            · rw [nn_nI d18 (by omega), nn_nI d17 (by omega)]; exact l2
            · rw [nn_nI d19 (by omega)]; exact k1
            · rw [e1 15 u (by decide) (by decide) hne, d15] at he
              rw [nn_nI d16 (by omega), nn_e (e1 16 u (by decide) (by decide) hne)]
              intro e
              obtain ⟨_, _, _, _, ku, _⟩ := core_of h1 hu (by rw [he]; exact nI_n1 (by omega))
              exact hnp u hu he (by rw [ku.1, e])
          have hC' : CSt D' (ks_up (ks_up (ks_up (ks_up (ks_up (ks_up (ks_up σ 8 t 0 0 1) 8 t 0 1 (nI c)) 8 t 0 2 (nI p)) 8 t 0 3 (nI dd)) 8 t 0 4 (nI dl)) 8 t 0 5 (nI wk)) 8 t 0 7 0) := by
            refine CSt_upd h1 h2 e1 e2 (fun v z hv => ?_) (fun v r z hv hz2 => ?_) (Or.inr ⟨?_, hm1, ?_, ?_, ?_, ?_, ?_, ?_, fun r hr => by omega⟩)
            · simp [ks_up_at, hv]
            · simp [ks_up_at]
            · simp [ks_up_at]
            · rw [d15]; simp [ks_up_at]
            · rw [d16]; simp [ks_up_at]
            · rw [d17]; simp [ks_up_at]
            · rw [d18]; simp [ks_up_at]
            · rw [d19]; simp [ks_up_at]
            · rw [d20]; simp [ks_up_at]; rfl
          have FA : FUN σ (ks_up (ks_up (ks_up (ks_up (ks_up (ks_up (ks_up σ 8 t 0 0 1) 8 t 0 1 (nI c)) 8 t 0 2 (nI p)) 8 t 0 3 (nI dd)) 8 t 0 4 (nI dl)) 8 t 0 5 (nI wk)) 8 t 0 7 0) := by
            refine ⟨fun k hk => ?_, ?_, fun z _ => ?_, fun v r z _ => ?_⟩
            · simp only [List.mem_cons, List.not_mem_nil, or_false] at hk
              funext i j z
              have : k ≠ 8 := by omega
              simp [ks_up_at, this]
            · funext i j z
              simp [ks_up_at]
            · simp [ks_up_at]
            · simp [ks_up_at]
          have hhA : ∀ k, 14 ≤ k → (ks_up (ks_up (ks_up (ks_up (ks_up (ks_up (ks_up σ 8 t 0 0 1) 8 t 0 1 (nI c)) 8 t 0 2 (nI p)) 8 t 0 3 (nI dd)) 8 t 0 4 (nI dl)) 8 t 0 5 (nI wk)) 8 t 0 7 0) k = σ k := fun k hk => by
            funext i j z
            have : k ≠ 8 := by omega
            simp [ks_up_at, this]
          have h11 : ∀ v r z, (ks_up (ks_up (ks_up (ks_up (ks_up (ks_up (ks_up σ 8 t 0 0 1) 8 t 0 1 (nI c)) 8 t 0 2 (nI p)) 8 t 0 3 (nI dd)) 8 t 0 4 (nI dl)) 8 t 0 5 (nI wk)) 8 t 0 7 0) 11 v r z = σ 11 v r z := fun v r z => by
            simp [ks_up_at]
          have h87 : ∀ v, v < 16 → (ks_up (ks_up (ks_up (ks_up (ks_up (ks_up (ks_up σ 8 t 0 0 1) 8 t 0 1 (nI c)) 8 t 0 2 (nI p)) 8 t 0 3 (nI dd)) 8 t 0 4 (nI dl)) 8 t 0 5 (nI wk)) 8 t 0 7 0) 8 v 0 7 ≤ 6 := fun v hv => by
            by_cases e : v = t
            · subst e
              rw [ks_up_hit]
              decide
            · simp [ks_up_at, e]
              exact INV_87 h v hv
          have hlay : f_X3_layDown σ t (nI c) (nI p) (nI dd) (nI dl) (nI wk) = some (ks_up (ks_up (ks_up (ks_up (ks_up (ks_up (ks_up σ 8 t 0 0 1) 8 t 0 1 (nI c)) 8 t 0 2 (nI p)) 8 t 0 3 (nI dd)) 8 t 0 4 (nI dl)) 8 t 0 5 (nI wk)) 8 t 0 7 0) := rfl
          generalize ks_up (ks_up (ks_up (ks_up (ks_up (ks_up (ks_up σ 8 t 0 0 1) 8 t 0 1 (nI c)) 8 t 0 2 (nI p)) 8 t 0 3 (nI dd)) 8 t 0 4 (nI dl)) 8 t 0 5 (nI wk)) 8 t 0 7 0 = σ1 at *
          obtain ⟨σ2, a1, a2, a3, a4⟩ := cls_measure hN hST' hC' (fun v r hv hv2 hr ho => by
            have hvt : v ≠ t := fun e => by rw [e, hc0] at hr; omega
            rw [h11]
            have hcv : cn D' v = cn (sD σ) v := nn_e (e1 20 v (by decide) (by decide) hvt)
            rw [hcv] at hr
            have hcn6 : cn (sD σ) v ≤ 6 := (cn6 h1 hv).2
            rw [e1 15 v (by decide) (by decide) hvt] at hv2
            have := (h3.2 v hv hv2).2 r hr
            have ho2 : ou (sD σ) v r = false := by
              rw [← ho]
              unfold ou
              rw [e2 24 v r (by decide) (by decide) hvt (by omega)]
            rw [this, ho2, if_neg (by decide)])
          have hhi : ∀ k, 14 ≤ k → σ2 k = σ k := fun k hk => by rw [FM_hi a2 k hk, hhA k hk]
          have hs2 : σ2 14 0 0 12 = 0 := by rw [hhi 14 (by decide)]; exact q2
          have hRD : RD (sD σ) σ2 := fun k s b1 b2 => by rw [hhi k (by omega)]; exact rs b1 (by omega)
          have hn2 := n15 σ2 hRD
          obtain ⟨y, y1, y2⟩ := cls_taken hN (p := nI p) h2 c1
          have y0 : y = 0 := by
            rcases y2 with ⟨_, v, v1, v2, v3⟩ | ⟨y3, _⟩
            · exact absurd v3 (hnp v v1 v2)
            · exact y3
          subst y0
          have w2 : wi (nI c) 0 3 = 1 := wi_in (n := 3) (by omega) (by decide)
          have w3 : wi (nI p) 0 1000 = 1 := wi_in (n := 1000) pp1 (by decide)
          have wj : ∀ j n, 1 ≤ j → j ≤ n → n < 2 ^ 31 → wi (nI j) 1 (nI n) = 1 := fun j n a b hn => by
            unfold wi
            rw [if_neg (show ¬ nI j < (1 : Int32) from nI_nlt (a := j) (b := 1) (by omega) (by omega)), if_neg (nI_nlt (by omega) hn)]
          have w4 : wi (nI dd) 1 10000 = 1 := wj dd 10000 d1 d2 (by decide)
          have w5 : wi (nI dl) 1 (nI dd) = 1 := wj dl dd l1 l2 (by omega)
          have w6 : wi (nI wk) 1 1000 = 1 := wj wk 1000 k1 k2 (by decide)
          obtain ⟨bb, bb0, bb1, bb2, bb3⟩ := good σ2 hRD
          have hbb : bb = 1 := by
            rcases bb0 with e | e
            · exfalso
              rcases bb3 e with z | z | z | z | z | ⟨c', _, z1, v, v1, v2, v3⟩
              · rw [w2] at z; exact absurd z (by decide)
              · rw [w3] at z; exact absurd z (by decide)
              · rw [w4] at z; exact absurd z (by decide)
              · rw [w5] at z; exact absurd z (by decide)
              · rw [w6] at z; exact absurd z (by decide)
              · rw [← z1] at v2
                exact hnp v v1 v2 v3
            · exact e
          subst hbb
          refine ⟨0, σ2, o, ks_up (ks_up (ks_up (ks_up (ks_up (ks_up (ks_up σ2 14 0 0 0 0) 15 0 0 t (nI c)) 16 0 0 t (nI p)) 17 0 0 t (nI dd)) 18 0 0 t (nI dl)) 19 0 0 t (nI wk)) 20 0 0 t 0, ?_, ?_, ?_, ?_⟩
          · simp [f_L_task, f_X4_task, cls_wi, q, q1, e8, e9, g1, w2, w3, f_X4_task_70, f_X4_task_100, w4, w5, w6, y1, hlay, a1]
          · simp [f_X5_task, ref_wi, q, f_X5_task_15, hs2, e8, e9, hn2, f_X5_task_42, bb1, f_X5_task_114, f_X5_task_131, ref_rf, rf]
          · simp [ks_up_at]
          · refine lay_end (σ1 := σ) (σ2 := σ2) hST' a3 a4 ?_ (fun k hk => ?_) (FUN_trans FA (FUN_FM a2)) (fun k b1 b2 b3 b4 => ?_) (fun z hz => ?_) q3 q1 q2 (fun v hv => by rw [a2 8 v 0 7 (by omega) (by omega) (by omega) (by omega)]; exact h87 v hv)
            · rw [sD_upS (by decide) (by decide), sD_upS (by decide) (by decide), sD_upS (by decide) (by decide), sD_upS (by decide) (by decide), sD_upS (by decide) (by decide), sD_upS (by decide) (by decide), sD_thr, sD_cls hhi]
            · funext i j z
              have : k ≠ 14 := by omega
              simp [ks_up_at, this, show k ≠ 15 by omega, show k ≠ 16 by omega, show k ≠ 17 by omega, show k ≠ 18 by omega, show k ≠ 19 by omega, show k ≠ 20 by omega]
            · funext i j z
              simp [ks_up_at, show k ≠ 14 by omega, show k ≠ 15 by omega, show k ≠ 16 by omega, show k ≠ 17 by omega, show k ≠ 18 by omega, show k ≠ 19 by omega, show k ≠ 20 by omega]
            · simp [ks_up_at, hz]
      · refine ⟨2, σ, o, ks_up σ 14 0 0 0 2, ?_, ?_, thr_hit _ _, INV_thr 2 h⟩
        · simp [f_L_task, f_X4_task, cls_wi, q, q1, e8, e9, a0]
        · obtain ⟨c, c1, c2, _⟩ := core_of h1 ht a1
          obtain ⟨b, b0, b1, _⟩ := good σ (RD_sD σ)
          have hn : ¬ nI c < 0 := nI_pos (by omega)
          rcases b0 with rfl | rfl
          · simp [f_X5_task, ref_wi, q, f_X5_task_15, q2, e8, e9, e15, c2, hn, f_X5_task_38, b1, f_X5_task_114, f_X5_task_131, ref_rf, rf]
          · simp [f_X5_task, ref_wi, q, f_X5_task_15, q2, e8, e9, e15, c2, hn, f_X5_task_38, b1, f_X5_task_114, f_X5_task_131, ref_rf, rf]
    · refine ⟨2, σ, o, ks_up σ 14 0 0 0 2, ?_, ?_, thr_hit _ _, INV_thr 2 h⟩
      · simp [f_L_task, f_X4_task, cls_wi, q, q1]
      · obtain ⟨b, b0, b1, _⟩ := good σ (RD_sD σ)
        rcases b0 with rfl | rfl
        · simp [f_X5_task, ref_wi, q, f_X5_task_15, q2, f_X5_task_38, b1, f_X5_task_114, f_X5_task_131, ref_rf, rf]
        · simp [f_X5_task, ref_wi, q, f_X5_task_15, q2, f_X5_task_38, b1, f_X5_task_114, f_X5_task_131, ref_rf, rf]
