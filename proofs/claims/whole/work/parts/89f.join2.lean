theorem nn_e {A A' : Nat → Nat → Int32} {k s k' s' : Nat} (h : A' k' s' = A k s) : nn A' k' s' = nn A k s := congrArg Int32.toNatClampNeg h
theorem nn_nI {A : Nat → Nat → Int32} {k s n : Nat} (h : A k s = nI n) (hn : n < 2 ^ 31) : nn A k s = n := by
  unfold nn; rw [h]; exact nI_clamp hn
/-- where its section will be through -/
def fJoin (A : Nat → Nat → Int32) (F : Nat → Nat) (c t g r : Nat) : Nat → Nat := fun s => if s = c then (if nn A 44 g = 0 then nn A 14 13 else F (nn A 43 (4 * g + (nn A 44 g - 1)))) + nn A 33 (6 * t + r) else F s
theorem core_of {D : Nat → Nat → Int32} {i : Nat} (hST : ST D) (hi : i < 16) (h : D 15 i ≠ -1) : ∃ c, c < 4 ∧ D 15 i = nI c ∧ nn D 15 i = c ∧ ok D 16 i 1000 ∧ ok D 17 i 10000 ∧ 1 ≤ nn D 17 i ∧ ok D 18 i 10000 ∧ 1 ≤ nn D 18 i ∧ nn D 18 i ≤ nn D 17 i ∧ ok D 19 i 1000 ∧ 1 ≤ nn D 19 i ∧ ok D 20 i 6 := by
  rcases hST.1 i hi with ⟨h1, _⟩ | ⟨⟨c, hc, h1⟩, h2⟩
  · exact absurd h1 h
  · exact ⟨c, hc, h1, nn_nI h1 (by omega), h2⟩
theorem grp_lt {D : Nat → Nat → Int32} {t r : Nat} (hST : ST D) (hSG : SG D) (ht : t < 16) (hr : r < cn D t) : gr D t r < 8 := by
  have h1 := (hST.2.1 t r ht hr).2.1.2
  have h2 := (hSG (nn D 22 (6 * t + r)) (by omega)).2
  unfold gr
  omega
/-- whose priority is below the one at work has no job that is on -/
theorem top_HP {D A : Nat → Nat → Int32} {c t i : Nat} (hST : ST D) (ht : t < 16) (hi : i < 16) (hon : D 15 t = nI c) (hc : c < 4) (hic : D 15 i = nI c) (htop : ∀ v, v < 16 → A 26 v ≠ 0 → D 15 v = nI c → D 16 v ≤ D 16 t) (hw : ∃ j, j < 16 ∧ HP D i j ∧ A 26 j ≠ 0) : HP D i t := by
  have n1 : ∀ {x : Nat}, x < 4 → nI x ≠ -1 := fun {x} hx e => by
    rcases (show x = 0 ∨ x = 1 ∨ x = 2 ∨ x = 3 by omega) with rfl | rfl | rfl | rfl <;> exact absurd e (by decide)
  obtain ⟨j, hj, h1, h2⟩ := hw
  obtain ⟨_, _, _, _, p1, _⟩ := core_of hST ht (by rw [hon]; exact n1 hc)
  obtain ⟨_, _, _, _, p2, _⟩ := core_of hST hi (by rw [hic]; exact n1 hc)
  have hjc : D 15 j = nI c := by
    rcases h1 with h1 | h1
    · unfold hp at h1
      rw [decide_eq_true_eq] at h1
      rw [h1.1, hic]
    · rw [h1, hic]
  obtain ⟨_, _, _, _, p3, _⟩ := core_of hST hj (by rw [hjc]; exact n1 hc)
  have h3 := (ok_le p3 p1 (by decide) (by decide)).mp (htop j hj h2 hjc)
  have h4 : nn D 16 i ≤ nn D 16 j := by
    rcases h1 with h1 | h1
    · unfold hp at h1
      rw [decide_eq_true_eq] at h1
      omega
    · rw [h1]; exact Nat.le_refl _
  by_cases e : t = i
  · exact Or.inr e
  · have h5 := hST.2.2 t i ht hi e (hon.trans hic.symm) (by rw [hon]; exact n1 hc)
    refine Or.inl ?_
    unfold hp
    rw [decide_eq_true_eq]
    exact ⟨hon.trans hic.symm, by omega⟩
set_option maxHeartbeats 1000000 in
/-- the bound of a wait -/
theorem wait_bound {D A : Nat → Nat → Int32} {F u b : Nat → Nat} {c t : Nat} (hST : ST D) (hSG : SG D) (hc : c < 4) (ht : t < 16) (h0 : nn A 40 c ≤ 1) (ho : A 26 t ≠ 0) (hon : D 15 t = nI c) (hr : nn A 30 t < cn D t) (h : PH D A F u b) (hb : ∀ g, b g = nn A 14 13) : nn A 44 (aGrp D A t) ≤ 3 ∧ fJoin A F c t (aGrp D A t) (nn A 30 t) c ≤ nn A 14 13 + ln D t (nn A 30 t) + spn D t (nn A 30 t) := by
  have hg : aGrp D A t < 8 := grp_lt hST hSG ht hr
  have hmn := ((h.1 t ht ho).2.2.2.2.2.2.2 _ hr).1.2
  have hsp : spn D t (nn A 30 t) = sm (fun c' => if c' = c then 0 else lng D c' (aGrp D A t)) 4 := by
    unfold spn
    refine sm_congr (fun c' hc' => ?_)
    by_cases e : c' = c
    · rw [if_pos e, if_pos (by rw [hon, e])]
    · rw [if_neg e, if_neg (fun h1 => e (nI_inj (by omega) (by omega) (hon.symm.trans h1)).symm)]
      rfl
  have hrow := fun k hk => row_left (k := k) h hg hk
  have hinj := (h.2.2.1 _ hg).2.2
  have hle := (h.2.2.1 _ hg).1.2
  generalize hgg : aGrp D A t = g at *
  have hm3 : nn A 44 g ≤ 3 := by
    apply Nat.le_of_not_lt
    intro h4
    obtain ⟨c0, t0, a1, a2, a3, a4, a5, _⟩ := hrow 0 (by omega)
    obtain ⟨c1, t1, b1, b2, b3, b4, b5, _⟩ := hrow 1 (by omega)
    obtain ⟨c2, t2, d1, d2, d3, d4, d5, _⟩ := hrow 2 (by omega)
    obtain ⟨c3, t3, f1, f2, f3, f4, f5, _⟩ := hrow 3 (by omega)
    have n0 : c0 ≠ c := fun e => by subst e; omega
    have n1 : c1 ≠ c := fun e => by subst e; omega
    have n2 : c2 ≠ c := fun e => by subst e; omega
    have n3 : c3 ≠ c := fun e => by subst e; omega
    have m01 : c0 ≠ c1 := fun e => absurd (hinj 0 1 (by omega) (by omega) (by rw [a3, b3, e])) (by decide)
    have m02 : c0 ≠ c2 := fun e => absurd (hinj 0 2 (by omega) (by omega) (by rw [a3, d3, e])) (by decide)
    have m03 : c0 ≠ c3 := fun e => absurd (hinj 0 3 (by omega) (by omega) (by rw [a3, f3, e])) (by decide)
    have m12 : c1 ≠ c2 := fun e => absurd (hinj 1 2 (by omega) (by omega) (by rw [b3, d3, e])) (by decide)
    have m13 : c1 ≠ c3 := fun e => absurd (hinj 1 3 (by omega) (by omega) (by rw [b3, f3, e])) (by decide)
    have m23 : c2 ≠ c3 := fun e => absurd (hinj 2 3 (by omega) (by omega) (by rw [d3, f3, e])) (by decide)
    omega
  refine ⟨hm3, ?_⟩
  unfold fJoin
  rw [if_pos rfl, hsp]
  rcases (show nn A 44 g = 0 ∨ nn A 44 g = 1 ∨ nn A 44 g = 2 ∨ nn A 44 g = 3 by omega) with e | e | e | e
  · rw [if_pos e]
    omega
  · rw [if_neg (by omega), e]
    obtain ⟨c0, t0, a1, a2, a3, a4, a5, a6, a7, a8, a9, a10, _⟩ := hrow 0 (by omega)
    have n0 : c0 ≠ c := fun e => by subst e; omega
    have s := sum1 (f := fun c' => if c' = c then 0 else lng D c' g) a1
    simp only [n0, if_false] at s
    have w := a8 rfl
    rw [hb] at w
    rw [show (1 - 1 : Nat) = 0 from rfl, a4]
    omega
  · rw [if_neg (by omega), e]
    obtain ⟨c0, t0, a1, a2, a3, a4, a5, a6, a7, a8, a9, a10, _⟩ := hrow 0 (by omega)
    obtain ⟨c1, t1, b1, b2, b3, b4, b5, b6, b7, b8, b9, b10, _⟩ := hrow 1 (by omega)
    have n0 : c0 ≠ c := fun e => by subst e; omega
    have n1 : c1 ≠ c := fun e => by subst e; omega
    have m01 : c0 ≠ c1 := fun e => absurd (hinj 0 1 (by omega) (by omega) (by rw [a3, b3, e])) (by decide)
    have s := sum2 (f := fun c' => if c' = c then 0 else lng D c' g) a1 b1 m01
    simp only [n0, n1, if_false] at s
    have w := a8 rfl
    rw [hb] at w
    have w1 := b9 0 rfl
    rw [a4] at w1
    rw [show (2 - 1 : Nat) = 1 from rfl, b4]
    omega
  · rw [if_neg (by omega), e]
    obtain ⟨c0, t0, a1, a2, a3, a4, a5, a6, a7, a8, a9, a10, _⟩ := hrow 0 (by omega)
    obtain ⟨c1, t1, b1, b2, b3, b4, b5, b6, b7, b8, b9, b10, _⟩ := hrow 1 (by omega)
    obtain ⟨c2, t2, d1, d2, d3, d4, d5, d6, d7, d8, d9, d10, _⟩ := hrow 2 (by omega)
    have n0 : c0 ≠ c := fun e => by subst e; omega
    have n1 : c1 ≠ c := fun e => by subst e; omega
    have n2 : c2 ≠ c := fun e => by subst e; omega
    have m01 : c0 ≠ c1 := fun e => absurd (hinj 0 1 (by omega) (by omega) (by rw [a3, b3, e])) (by decide)
    have m02 : c0 ≠ c2 := fun e => absurd (hinj 0 2 (by omega) (by omega) (by rw [a3, d3, e])) (by decide)
    have m12 : c1 ≠ c2 := fun e => absurd (hinj 1 2 (by omega) (by omega) (by rw [b3, d3, e])) (by decide)
    have s := sum3 (f := fun c' => if c' = c then 0 else lng D c' g) a1 b1 d1 m01 m02 m12
    simp only [n0, n1, n2, if_false] at s
    have w := a8 rfl
    rw [hb] at w
    have w1 := b9 0 rfl
    rw [a4] at w1
    have w2 := d9 1 rfl
    rw [b4] at w2
    rw [show (3 - 1 : Nat) = 2 from rfl, d4]
    omega
