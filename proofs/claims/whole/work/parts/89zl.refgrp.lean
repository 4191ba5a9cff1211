/-! PURE: the reference's groups. -/
/-- only the reference's groups differ -/
def F25 (μ μ' : ks_S) : Prop := ∀ k i j z, ¬ (k = 25 ∧ i = 0 ∧ j = 0 ∧ z < 8) → μ' k i j z = μ k i j z
theorem F25_up {μ μ' : ks_S} {z : Nat} {v : Int32} (hz : z < 8) (h : F25 μ μ') : F25 μ (ks_up μ' 25 0 0 z v) := fun k i j z' q => by
  rw [ks_up_at, if_neg (fun w => q ⟨w.1, w.2.1, w.2.2.1, by rw [w.2.2.2]; exact hz⟩)]
  exact h k i j z' q
def lb (μ : ks_S) : Nat → Int32 := fun x => μ 25 0 0 x
def ls (μ : ks_S) : Nat := sm (fun x => (μ 25 0 0 x).toNatClampNeg) 8
/-- D: what is laid down (its groups don't matter) -/
def RD (D : Nat → Nat → Int32) (μ : ks_S) : Prop := ∀ k s, 15 ≤ k → k ≤ 24 → μ k 0 0 s = D k s
theorem RD_F25 {D : Nat → Nat → Int32} {μ μ' : ks_S} (hF : F25 μ μ') (h : RD D μ) : RD D μ' := fun k s h1 h2 => by
  rw [hF k 0 0 s (by omega)]
  exact h k s h1 h2
/-- one edge -/
theorem ref_edge {N : Nat} {k2 k23 : ks_S → Int32 → Option ks_S} {k31 : ks_S → Int32 → Int32 → Option ks_S} {k39 : ks_S → Int32 → Int32 → Int32 → Option ks_S} {D : Nat → Nat → Int32} {μ0 μ : ks_S} {t r a b : Nat} {x : Int32} (ha : a < 8) (hb : b < 8) (hF : F25 μ0 μ) (hB : GB (lb μ)) (hC : GC D (lb μ)) (he : ∀ f : Nat → Int32, Edg D f → f a = f b) : ∃ μ', f_X5_findGroups_120 N k2 k23 k31 k39 μ (nI t) (nI r) (nI a) (nI b) x = k39 μ' x (nI t) (nI (r + 1)) ∧ F25 μ0 μ' ∧ GB (lb μ') ∧ GC D (lb μ') ∧ (lb μ a = lb μ b → μ' = μ) ∧ (lb μ a ≠ lb μ b → ls μ' < ls μ) := by
  obtain ⟨p, p1, p2⟩ := hB a ha
  obtain ⟨q, q1, q2⟩ := hB b hb
  have p2' : μ 25 0 0 a = nI p := p2
  have q2' : μ 25 0 0 b = nI q := q2
  have hpq : ∀ f : Nat → Int32, Edg D f → f p = f q := fun f hf => by
    have h1 := hC f hf a ha
    have h2 := hC f hf b hb
    rw [p2, cl (by omega)] at h1
    rw [q2, cl (by omega)] at h2
    rw [h1, h2]
    exact he f hf
  -- both get v, one of p and q, no greater than each
  have gen : ∀ v, v ≤ p → v ≤ q → (v = p ∨ v = q) → F25 μ0 (ks_up (ks_up μ 25 0 0 a (nI v)) 25 0 0 b (nI v)) ∧ GB (lb (ks_up (ks_up μ 25 0 0 a (nI v)) 25 0 0 b (nI v))) ∧ GC D (lb (ks_up (ks_up μ 25 0 0 a (nI v)) 25 0 0 b (nI v))) ∧ (lb μ a = lb μ b → ks_up (ks_up μ 25 0 0 a (nI v)) 25 0 0 b (nI v) = μ) ∧ (lb μ a ≠ lb μ b → ls (ks_up (ks_up μ 25 0 0 a (nI v)) 25 0 0 b (nI v)) < ls μ) := fun v v1 v2 v3 => by
    have hfv : ∀ f : Nat → Int32, Edg D f → f v = f p ∧ f v = f q := fun f hf => by
      rcases v3 with e | e
      · rw [e]; exact ⟨rfl, hpq f hf⟩
      · rw [e]; exact ⟨(hpq f hf).symm, rfl⟩
    have hl : ∀ x, lb (ks_up (ks_up μ 25 0 0 a (nI v)) 25 0 0 b (nI v)) x = if x = a ∨ x = b then nI v else lb μ x := fun x => by
      unfold lb
      rw [ks_up_at, ks_up_at]
      by_cases e1 : x = b
      · rw [if_pos ⟨rfl, rfl, rfl, e1⟩, if_pos (Or.inr e1)]
      · rw [if_neg (fun w => e1 w.2.2.2)]
        by_cases e2 : x = a
        · rw [if_pos ⟨rfl, rfl, rfl, e2⟩, if_pos (Or.inl e2)]
        · rw [if_neg (fun w => e2 w.2.2.2), if_neg (by omega)]
    refine ⟨F25_up hb (F25_up ha hF), fun x hx => ?_, fun f hf x hx => ?_, fun e => ?_, fun e => ?_⟩
    · rw [hl]
      by_cases e : x = a ∨ x = b
      · rw [if_pos e]
        exact ⟨v, by omega, rfl⟩
      · rw [if_neg e]
        exact hB x hx
    · rw [hl]
      by_cases e : x = a ∨ x = b
      · rw [if_pos e, cl (by omega)]
        rcases e with e | e
        · rw [e, (hfv f hf).1]
          have := hC f hf a ha
          rw [p2, cl (by omega)] at this
          exact this
        · rw [e, (hfv f hf).2]
          have := hC f hf b hb
          rw [q2, cl (by omega)] at this
          exact this
      · rw [if_neg e]
        exact hC f hf x hx
    · rw [p2, q2] at e
      have e : p = q := nI_inj (by omega) (by omega) e
      have ev : v = p := by omega
      rw [ev, ks_up_same p2', ks_up_same (by rw [q2', e])]
    · rw [p2, q2] at e
      have e : p ≠ q := fun w => e (by rw [w])
      have hn : ∀ x, lb (ks_up (ks_up μ 25 0 0 a (nI v)) 25 0 0 b (nI v)) x = ks_up (ks_up μ 25 0 0 a (nI v)) 25 0 0 b (nI v) 25 0 0 x := fun x => rfl
      have hm : ∀ x, (ks_up (ks_up μ 25 0 0 a (nI v)) 25 0 0 b (nI v) 25 0 0 x).toNatClampNeg = if x = a ∨ x = b then v else (μ 25 0 0 x).toNatClampNeg := fun x => by
        rw [← hn, hl]
        split
        · exact cl (by omega)
        · rfl
      have hab : a ≠ b := fun w => e (nI_inj (by omega) (by omega) (by rw [← p2', ← q2', w]))
      have na : (μ 25 0 0 a).toNatClampNeg = p := by rw [p2']; exact cl (by omega)
      have nb : (μ 25 0 0 b).toNatClampNeg = q := by rw [q2']; exact cl (by omega)
      unfold ls
      have s1 := sm_one (f := fun x => (μ 25 0 0 x).toNatClampNeg) (g := fun x => if x = a then v else (μ 25 0 0 x).toNatClampNeg) ha (fun j _ hj => by rw [if_neg hj])
      have s2 := sm_one (f := fun x => if x = a then v else (μ 25 0 0 x).toNatClampNeg) (g := fun x => (ks_up (ks_up μ 25 0 0 a (nI v)) 25 0 0 b (nI v) 25 0 0 x).toNatClampNeg) hb (fun j _ hj => by
        rw [hm]
        by_cases w : j = a
        · rw [if_pos (Or.inl w), if_pos w]
        · rw [if_neg (by omega), if_neg w])
      rw [if_pos rfl, na] at s1
      rw [if_neg (Ne.symm hab), nb, hm, if_pos (Or.inr rfl)] at s2
      omega
  unfold f_X5_findGroups_120
  rw [if_pos (i8 ha), if_pos (i8 hb), cl (i := a) (by omega), cl (i := b) (by omega), p2', q2', nI_1]
  by_cases h : q ≤ p
  · rw [if_pos (nI_le h (by omega)), if_pos (i8 hb), if_pos (i8 ha), if_pos (i8 hb)]
    obtain ⟨g1, g2, g3, g4, g5⟩ := gen q h (Nat.le_refl _) (Or.inr rfl)
    exact ⟨_, rfl, g1, g2, g3, g4, g5⟩
  · rw [if_neg (nI_ge (by omega) (by omega)), if_pos (i8 ha), if_pos (i8 ha), if_pos (i8 hb)]
    obtain ⟨g1, g2, g3, g4, g5⟩ := gen p (Nat.le_refl _) (by omega) (Or.inl rfl)
    exact ⟨_, rfl, g1, g2, g3, g4, g5⟩
/-- on the way through all edges, begun at μs -/
def WP (D : Nat → Nat → Int32) (μ0 μs μ : ks_S) (x : Int32) (t r : Nat) : Prop := F25 μ0 μ ∧ GB (lb μ) ∧ GC D (lb μ) ∧ ((x = 0 ∧ μ = μs ∧ ∀ t' r', t' < 16 → r' < cn D t' → ou D t' r' = false → (t' < t ∨ t' = t ∧ r' < r) → lb μ (nn D 22 (6 * t' + r')) = lb μ (nn D 22 (6 * t' + nn D 24 (6 * t' + r')))) ∨ (x = 1 ∧ ls μ < ls μs))
theorem ref_form1 {N : Nat} {D : Nat → Nat → Int32} {μ0 μs : ks_S} {t : Nat} (hST : ST D) (hD : RD D μ0) (ht : t < 16) {k2 k23 : ks_S → Int32 → Option ks_S} {k31 : ks_S → Int32 → Int32 → Option ks_S} : ∀ m n r μ x, r + m = cn D t → m < n → WP D μ0 μs μ x t r → ∃ μ' x', f_X5_findGroups_39 N k2 k23 k31 n μ x (nI t) (nI r) = k31 μ' x' (nI (t + 1)) ∧ WP D μ0 μs μ' x' (t + 1) 0 := by
  have hcn6 : cn D t ≤ 6 := (cn6 hST ht).2
  have h20 : D 20 t = nI (cn D t) := (cn6 hST ht).1
  intro m
  induction m with
  | zero =>
    intro n r μ x hr hn h
    obtain ⟨n, rfl⟩ : ∃ n', n = n' + 1 := ⟨n - 1, by omega⟩
    refine ⟨μ, x, ?_, h.1, h.2.1, h.2.2.1, ?_⟩
    · rw [f_X5_findGroups_39, if_pos (i16 ht), cl (i := t) (by omega), RD_F25 h.1 hD 20 t (by decide) (by decide), h20, if_pos (nI_le (by omega) (by omega)), nI_1]
    · rcases h.2.2.2 with ⟨w1, w2, w3⟩ | w
      · refine Or.inl ⟨w1, w2, fun t' r' h1 h2 h3 h4 => w3 t' r' h1 h2 h3 ?_⟩
        by_cases e : t' = t
        · subst e; exact Or.inr ⟨rfl, by omega⟩
        · exact Or.inl (by omega)
      · exact Or.inr w
  | succ m ih =>
    intro n r μ x hr hn h
    obtain ⟨n, rfl⟩ : ∃ n', n = n' + 1 := ⟨n - 1, by omega⟩
    have hlt : r < cn D t := by omega
    have hD' := RD_F25 h.1 hD
    obtain ⟨u1, u2, u3, u4, u5⟩ := hST.2.1 t r ht hlt
    rw [f_X5_findGroups_39, if_pos (i16 ht), cl (i := t) (by omega), hD' 20 t (by decide) (by decide), h20, if_neg (nI_ge hlt (by omega)), nI_6, if_pos (i96 (by omega)), cl (i := 6 * t + r) (by omega), hD' 24 _ (by decide) (by decide)]
    by_cases e : D 24 (6 * t + r) = -1
    · rw [if_pos (by rw [e]; decide), nI_1]
      refine ih n (r + 1) μ x (by omega) (by omega) ⟨h.1, h.2.1, h.2.2.1, ?_⟩
      rcases h.2.2.2 with ⟨w1, w2, w3⟩ | w
      · refine Or.inl ⟨w1, w2, fun t' r' h1 h2 h3 h4 => ?_⟩
        by_cases e2 : t' = t ∧ r' = r
        · obtain ⟨rfl, rfl⟩ := e2
          unfold ou at h3
          rw [decide_eq_false_iff_not] at h3
          exact absurd e h3
        · exact w3 t' r' h1 h2 h3 (by omega)
      · exact Or.inr w
    · have ho := ou_f e
      rcases u5 with ⟨w, _⟩ | ⟨_, w1, w2, w3⟩
      · rw [ho] at w
        exact absurd w (by decide)
      · have hin : nn D 24 (6 * t + r) < cn D t := by omega
        obtain ⟨v1, v2, _⟩ := hST.2.1 t _ ht hin
        have hl1 := u2.2
        have hl2 := v2.2
        have he : ∀ f : Nat → Int32, Edg D f → f (nn D 22 (6 * t + r)) = f (nn D 22 (6 * t + nn D 24 (6 * t + r))) := fun f hf => hf t r ht hlt ho
        rw [w1.1, if_neg (nI_pos (by omega)), if_pos (i96 (by omega)), nI_6, if_pos (i96 (by omega)), cl (i := 6 * t + nn D 24 (6 * t + r)) (by omega), hD' 22 _ (by decide) (by decide), hD' 22 _ (by decide) (by decide), u2.1, v2.1]
        have hstep : ∀ x' μ', F25 μ0 μ' → GB (lb μ') → GC D (lb μ') → ((x' = 0 ∧ x = 0 ∧ μ' = μ ∧ lb μ (nn D 22 (6 * t + r)) = lb μ (nn D 22 (6 * t + nn D 24 (6 * t + r)))) ∨ (x' = 1 ∧ ((x = 1 ∧ ls μ' ≤ ls μ) ∨ ls μ' < ls μ))) → ∃ μ'' x'', f_X5_findGroups_39 N k2 k23 k31 n μ' x' (nI t) (nI (r + 1)) = k31 μ'' x'' (nI (t + 1)) ∧ WP D μ0 μs μ'' x'' (t + 1) 0 := fun x' μ' f1 f2 f3 f4 => by
          refine ih n (r + 1) μ' x' (by omega) (by omega) ⟨f1, f2, f3, ?_⟩
          rcases f4 with ⟨y1, y2, y3, y4⟩ | ⟨y1, y2⟩
          · subst y3
            rcases h.2.2.2 with ⟨z1, z2, z3⟩ | ⟨z1, _⟩
            · refine Or.inl ⟨y1, z2, fun t' r' h1 h2 h3 h4 => ?_⟩
              by_cases e2 : t' = t ∧ r' = r
              · obtain ⟨rfl, rfl⟩ := e2
                exact y4
              · exact z3 t' r' h1 h2 h3 (by omega)
            · rw [z1] at y2
              exact absurd y2 (by decide)
          · refine Or.inr ⟨y1, ?_⟩
            rcases h.2.2.2 with ⟨z1, z2, z3⟩ | ⟨z1, z2⟩
            · subst z2
              rcases y2 with ⟨y2, _⟩ | y2
              · rw [z1] at y2
                exact absurd y2 (by decide)
              · exact y2
            · rcases y2 with ⟨_, y3⟩ | y3
              · omega
              · omega
        by_cases hx : x = 0
        · rw [if_pos hx, if_pos (i8 (by omega)), if_pos (i8 (by omega)), cl (i := nn D 22 (6 * t + r)) (by omega), cl (i := nn D 22 (6 * t + nn D 24 (6 * t + r))) (by omega)]
          by_cases hq : μ 25 0 0 (nn D 22 (6 * t + r)) = μ 25 0 0 (nn D 22 (6 * t + nn D 24 (6 * t + r)))
          · rw [if_pos hq]
            obtain ⟨μ', b1, b2, b3, b4, b5, b6⟩ := ref_edge (N := N) (k2 := k2) (k23 := k23) (k31 := k31) (k39 := f_X5_findGroups_39 N k2 k23 k31 n) (t := t) (r := r) (x := 0) (show nn D 22 (6 * t + r) < 8 by omega) (show nn D 22 (6 * t + nn D 24 (6 * t + r)) < 8 by omega) h.1 h.2.1 h.2.2.1 he
            rw [b1]
            exact hstep 0 μ' b2 b3 b4 (Or.inl ⟨rfl, hx, b5 hq, hq⟩)
          · rw [if_neg hq, f_X5_findGroups_115]
            obtain ⟨μ', b1, b2, b3, b4, b5, b6⟩ := ref_edge (N := N) (k2 := k2) (k23 := k23) (k31 := k31) (k39 := f_X5_findGroups_39 N k2 k23 k31 n) (t := t) (r := r) (x := 1) (show nn D 22 (6 * t + r) < 8 by omega) (show nn D 22 (6 * t + nn D 24 (6 * t + r)) < 8 by omega) h.1 h.2.1 h.2.2.1 he
            rw [b1]
            exact hstep 1 μ' b2 b3 b4 (Or.inr ⟨rfl, Or.inr (b6 hq)⟩)
        · rw [if_neg hx, f_X5_findGroups_115]
          have hx1 : x = 1 := by
            rcases h.2.2.2 with ⟨z1, _⟩ | ⟨z1, _⟩
            · exact absurd z1 hx
            · exact z1
          obtain ⟨μ', b1, b2, b3, b4, b5, b6⟩ := ref_edge (N := N) (k2 := k2) (k23 := k23) (k31 := k31) (k39 := f_X5_findGroups_39 N k2 k23 k31 n) (t := t) (r := r) (x := 1) (show nn D 22 (6 * t + r) < 8 by omega) (show nn D 22 (6 * t + nn D 24 (6 * t + r)) < 8 by omega) h.1 h.2.1 h.2.2.1 he
          rw [b1]
          refine hstep 1 μ' b2 b3 b4 (Or.inr ⟨rfl, Or.inl ⟨hx1, ?_⟩⟩)
          by_cases hq : lb μ (nn D 22 (6 * t + r)) = lb μ (nn D 22 (6 * t + nn D 24 (6 * t + r)))
          · rw [b5 hq]
            exact Nat.le_refl _
          · have := b6 hq
            omega
theorem ref_form2 {N : Nat} (hN : 16 < N) {D : Nat → Nat → Int32} {μ0 μs : ks_S} (hST : ST D) (hD : RD D μ0) {k2 k23 : ks_S → Int32 → Option ks_S} : ∀ m n t μ x, t + m = 16 → m < n → WP D μ0 μs μ x t 0 → ∃ μ' x', f_X5_findGroups_31 N k2 k23 n μ x (nI t) = k23 μ' x' ∧ WP D μ0 μs μ' x' 16 0 := by
  intro m
  induction m with
  | zero =>
    intro n t μ x ht hn h
    obtain ⟨n, rfl⟩ : ∃ n', n = n' + 1 := ⟨n - 1, by omega⟩
    obtain rfl : t = 16 := by omega
    exact ⟨μ, x, by rw [f_X5_findGroups_31, if_pos e16], h⟩
  | succ m ih =>
    intro n t μ x ht hn h
    obtain ⟨n, rfl⟩ : ∃ n', n = n' + 1 := ⟨n - 1, by omega⟩
    have ht16 : t < 16 := by omega
    rw [f_X5_findGroups_31, if_neg (z16 ht16)]
    have hcn6 : cn D t ≤ 6 := (cn6 hST ht16).2
    obtain ⟨μ1, x1, a1, a2⟩ := ref_form1 (N := N) hST hD ht16 (k2 := k2) (k23 := k23) (k31 := f_X5_findGroups_31 N k2 k23 n) (cn D t) N 0 μ x (by omega) (by omega) h
    obtain ⟨μ2, x2, b1, b2⟩ := ih n (t + 1) μ1 x1 (by omega) (by omega) a2
    exact ⟨μ2, x2, a1.trans b1, b2⟩
theorem ref_form3 {N : Nat} (hN : 16 < N) {D : Nat → Nat → Int32} {μ0 : ks_S} (hST : ST D) (hD : RD D μ0) {k2 : ks_S → Int32 → Option ks_S} : ∀ b n μ, ls μ < b → b < n → F25 μ0 μ → GB (lb μ) → GC D (lb μ) → ∃ μ', f_X5_findGroups_23 N k2 n μ 1 = some μ' ∧ F25 μ0 μ' ∧ GL D (lb μ') := by
  intro b
  induction b with
  | zero => intro n μ h; omega
  | succ b ih =>
    intro n μ hb hn h1 h2 h3
    obtain ⟨n, rfl⟩ : ∃ n', n = n' + 1 := ⟨n - 1, by omega⟩
    rw [f_X5_findGroups_23, if_neg (by decide)]
    obtain ⟨μ1, x1, a1, a2⟩ := ref_form2 hN hST hD (μs := μ) (k2 := k2) (k23 := f_X5_findGroups_23 N k2 n) 16 N 0 μ 0 rfl hN ⟨h1, h2, h3, Or.inl ⟨rfl, rfl, fun t' r' _ _ _ w => by omega⟩⟩
    have a1 : f_X5_findGroups_31 N k2 (f_X5_findGroups_23 N k2 n) N μ 0 0 = f_X5_findGroups_23 N k2 n μ1 x1 := a1
    rw [a1]
    rcases a2.2.2.2 with ⟨w1, w2, w3⟩ | ⟨w1, w2⟩
    · subst w1
      obtain ⟨n, rfl⟩ : ∃ n', n = n' + 1 := ⟨n - 1, by omega⟩
      exact ⟨μ1, by rw [f_X5_findGroups_23, if_pos rfl], a2.1, fun t r ht hr ho => w3 t r ht hr ho (Or.inl ht), a2.2.1, a2.2.2.1⟩
    · subst w1
      exact ih n μ1 (by omega) (by omega) a2.1 a2.2.1 a2.2.2.1
def r0 (μ : ks_S) (n : Nat) : ks_S := fun k i j z => if k = 25 ∧ i = 0 ∧ j = 0 ∧ z < n then nI z else μ k i j z
theorem ref_form0 {N : Nat} {μ : ks_S} : ∀ m n i, i + m = 8 → m < n → ∃ k, f_X5_findGroups_2 N n (r0 μ i) (nI i) = f_X5_findGroups_23 N k N (r0 μ 8) 1 := by
  intro m
  induction m with
  | zero =>
    intro n i hi hn
    obtain ⟨n, rfl⟩ : ∃ n', n = n' + 1 := ⟨n - 1, by omega⟩
    obtain rfl : i = 8 := by omega
    exact ⟨_, by rw [f_X5_findGroups_2, if_pos e8]⟩
  | succ m ih =>
    intro n i hi hn
    obtain ⟨n, rfl⟩ : ∃ n', n = n' + 1 := ⟨n - 1, by omega⟩
    have hi8 : i < 8 := by omega
    obtain ⟨k, hk⟩ := ih n (i + 1) (by omega) (by omega)
    refine ⟨k, ?_⟩
    rw [f_X5_findGroups_2, if_neg (z8 hi8), if_pos (i8 hi8), cl (i := i) (by omega), nI_1, ← hk]
    have e : ks_up (r0 μ i) 25 0 0 i (nI i) = r0 μ (i + 1) := by
      funext k a b z
      rw [ks_up_at]
      unfold r0
      by_cases e3 : k = 25 ∧ a = 0 ∧ b = 0 ∧ z = i
      · obtain ⟨rfl, rfl, rfl, rfl⟩ := e3
        rw [if_pos ⟨rfl, rfl, rfl, rfl⟩, if_pos ⟨rfl, rfl, rfl, by omega⟩]
      · rw [if_neg e3]
        by_cases e4 : k = 25 ∧ a = 0 ∧ b = 0 ∧ z < i
        · rw [if_pos e4, if_pos (by omega)]
        · rw [if_neg e4, if_neg (by omega)]
    rw [e]
theorem ref_groups {N : Nat} (hN : 100 < N) {D : Nat → Nat → Int32} {μ : ks_S} (hST : ST D) (hD : RD D μ) : ∃ μ', f_X5_findGroups N μ = some μ' ∧ F25 μ μ' ∧ GL D (lb μ') := by
  have e0 : r0 μ 0 = μ := by
    funext k a b z
    unfold r0
    rw [if_neg (by omega)]
  obtain ⟨k, hk⟩ := ref_form0 (N := N) (μ := μ) 8 N 0 rfl (by omega)
  rw [e0] at hk
  have e3 : ∀ x, x < 8 → r0 μ 8 25 0 0 x = nI x := fun x hx => by
    unfold r0
    rw [if_pos ⟨rfl, rfl, rfl, hx⟩]
  have hls : ls (r0 μ 8) < 57 := by
    unfold ls
    have := sm_le (f := fun x => (r0 μ 8 25 0 0 x).toNatClampNeg) (b := 7) (n := 8) (fun i hi => by
      rw [e3 i hi, cl (by omega)]
      omega)
    omega
  obtain ⟨μ', a1, a2, a3⟩ := ref_form3 (N := N) (by omega) hST hD (k2 := k) 57 N (r0 μ 8) hls (by omega) (fun k i j z h => by unfold r0; rw [if_neg h]) (fun x hx => ⟨x, Nat.le_refl _, e3 x hx⟩) (fun f hf x hx => by unfold lb; rw [e3 x hx, cl (by omega)])
  refine ⟨μ', ?_, a2, a3⟩
  have : f_X5_findGroups N μ = f_X5_findGroups_2 N N μ (nI 0) := rfl
  rw [this, hk, a1]
