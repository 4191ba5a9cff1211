/-! PURE: the reference's tick. -/
theorem RR_now {μ μ' : ks_S} {B : Nat → Nat → Int32} (v : Int32) (h : RR μ μ' B) : RR μ (ks_up μ' 14 0 0 13 v) (au B 14 13 v) := by
  obtain ⟨a1, a2, a3, a4, a5⟩ := h
  have e : sD (ks_up μ' 14 0 0 13 v) = sD μ' := sD_up (by omega)
  refine ⟨?_, e.trans a2, fun k' hk' => ?_, ?_, ?_⟩
  · rw [← a1]
    funext k s
    unfold dA au
    rw [e]
    by_cases q : k = 14 ∧ s = 13
    · obtain ⟨rfl, rfl⟩ := q
      rw [if_pos inr14, if_neg (by decide), ks_up_hit, if_pos ⟨rfl, rfl⟩]
    · rw [if_neg q]
      dsimp only
      by_cases q2 : inr (sD μ') k s = true
      · rw [if_pos q2, if_pos q2]
        by_cases q3 : k = 45
        · rw [if_pos q3, if_pos q3, ks_up_at, if_neg (fun q4 => absurd q4.2.2.2 (by decide))]
        · rw [if_neg q3, if_neg q3, ks_up_at, if_neg]
          rintro ⟨rfl, _, _, rfl⟩
          exact q ⟨rfl, rfl⟩
      · rw [if_neg q2, if_neg q2]
  · rw [← a3 k' hk']
    funext i j z
    rw [ks_up_at, if_neg]
    rintro ⟨q, _⟩
    omega
  · rw [ks_up_at, if_neg, a4]
    rintro ⟨_, _, _, q⟩
    omega
  · rw [ks_up_at, if_neg, a5]
    rintro ⟨_, _, _, q⟩
    omega
theorem RR_trans {μ μ1 μ2 : ks_S} {B C : Nat → Nat → Int32} (h1 : RR μ μ1 B) (h2 : RR μ1 μ2 C) : RR μ μ2 C :=
  ⟨h2.1, h2.2.1.trans h1.2.1, fun k hk => (h2.2.2.1 k hk).trans (h1.2.2.1 k hk), h2.2.2.2.1.trans h1.2.2.2.1, h2.2.2.2.2.trans h1.2.2.2.2⟩
/-- how many jobs end: a tick, some ticks -/
def aAdd (D A : Nat → Nat → Int32) (x : Int32) : Int32 := x + aGoR D (aMid D A) 0 + aGoR D (aGo D (aMid D A) 0) 1 + aGoR D (aGo D (aGo D (aMid D A) 0) 1) 2 + aGoR D (aGo D (aGo D (aGo D (aMid D A) 0) 1) 2) 3
def aIt (D A : Nat → Nat → Int32) : Nat → Nat → Nat → Int32
  | 0 => A
  | n + 1 => aIt D (aTick D A) n
def aItR (D A : Nat → Nat → Int32) (x : Int32) : Nat → Int32
  | 0 => x
  | n + 1 => aItR D (aTick D A) (aAdd D A x) n
theorem open_loop {N : Nat} {μ : ks_S} : ∀ m n i, i + m = 16 → m < n → f_X5_hasOpen_4 N n μ 1 (nI i) = some (1, μ) := by
  intro m
  induction m with
  | zero =>
    intro n i hi hn
    obtain ⟨n, rfl⟩ : ∃ n', n = n' + 1 := ⟨n - 1, by omega⟩
    obtain rfl : i = 16 := by omega
    rw [f_X5_hasOpen_4, if_pos e16, if_pos vp_nar1]
  | succ m ih =>
    intro n i hi hn
    obtain ⟨n, rfl⟩ : ∃ n', n = n' + 1 := ⟨n - 1, by omega⟩
    rw [f_X5_hasOpen_4, if_neg (z16 (by omega)), if_neg (by decide), nI_1]
    exact ih n (i + 1) (by omega) (by omega)
theorem open_loop0 {N : Nat} {μ : ks_S} : ∀ m n i, i + m = 16 → m < n → ∃ b, f_X5_hasOpen_4 N n μ 0 (nI i) = some (b, μ) ∧ ((b = 0 ∧ ∀ t, i ≤ t → t < 16 → μ 26 0 0 t = 0) ∨ (b = 1 ∧ ∃ t, i ≤ t ∧ t < 16 ∧ μ 26 0 0 t ≠ 0)) := by
  intro m
  induction m with
  | zero =>
    intro n i hi hn
    obtain ⟨n, rfl⟩ : ∃ n', n = n' + 1 := ⟨n - 1, by omega⟩
    obtain rfl : i = 16 := by omega
    exact ⟨0, by rw [f_X5_hasOpen_4, if_pos e16, if_pos vp_nar0], Or.inl ⟨rfl, fun t h1 h2 => by omega⟩⟩
  | succ m ih =>
    intro n i hi hn
    obtain ⟨n, rfl⟩ : ∃ n', n = n' + 1 := ⟨n - 1, by omega⟩
    have hi16 : i < 16 := by omega
    rw [f_X5_hasOpen_4, if_neg (z16 hi16), if_pos rfl, if_pos (i16 hi16), cl (by omega), nI_1]
    by_cases q : μ 26 0 0 i = 0
    · rw [if_pos q]
      obtain ⟨b, b1, b2⟩ := ih n (i + 1) (by omega) (by omega)
      refine ⟨b, b1, ?_⟩
      rcases b2 with ⟨b3, b4⟩ | ⟨b3, t, b4, b5, b6⟩
      · refine Or.inl ⟨b3, fun t h1 h2 => ?_⟩
        by_cases e : t = i
        · rw [e]; exact q
        · exact b4 t (by omega) h2
      · exact Or.inr ⟨b3, t, by omega, b5, b6⟩
    · rw [if_neg q, open_loop m n (i + 1) (by omega) (by omega)]
      exact ⟨1, rfl, Or.inr ⟨rfl, i, Nat.le_refl _, hi16, q⟩⟩
theorem ref_open {N : Nat} (hN : 16 < N) (μ : ks_S) : ∃ b, f_X5_hasOpen N μ = some (b, μ) ∧ ((b = 0 ∧ ∀ t, t < 16 → dA μ 26 t = 0) ∨ (b = 1 ∧ ∃ t, t < 16 ∧ dA μ 26 t ≠ 0)) := by
  obtain ⟨b, b1, b2⟩ := open_loop0 (N := N) (μ := μ) 16 N 0 rfl hN
  refine ⟨b, b1, ?_⟩
  have e : ∀ t, t < 16 → μ 26 0 0 t = dA μ 26 t := fun t ht => rd (inr16 (by decide) (by decide) (by decide) (by decide) ht) (by decide)
  rcases b2 with ⟨b3, b4⟩ | ⟨b3, t, b4, b5, b6⟩
  · exact Or.inl ⟨b3, fun t ht => by rw [← e t ht]; exact b4 t (by omega) ht⟩
  · exact Or.inr ⟨b3, t, b5, by rw [← e t b5]; exact b6⟩
/-- nothing is on -/
def idA (A : Nat → Nat → Int32) : Nat → Nat → Int32 := fun k s => if s < 4 ∧ (k = 39 ∨ k = 41) then -1 else if s < 4 ∧ (k = 40 ∨ k = 42) then 0 else A k s
def Idle (A : Nat → Nat → Int32) : Prop := (∀ t, t < 16 → A 26 t = 0) ∧ (∀ c, c < 4 → A 40 c ≤ 1) ∧ ∀ g, g < 8 → A 44 g ≤ 0
theorem idle_cho {D A : Nat → Nat → Int32} {c : Nat} (hc : c < 4) (h : Idle A) : aChoose D A c = au (au A 39 c (-1)) 40 c 0 ∧ Idle (aChoose D A c) := by
  have e : aChoose D A c = au (au A 39 c (-1)) 40 c 0 := by
    have ht : aTopL D A c 16 = -1 := by
      rcases topL_spec D A c 16 (by omega) with q | ⟨t, t1, _, t3, _⟩
      · exact q.1
      · exact absurd (h.1 t t1) t3
    unfold aChoose
    rw [if_pos (h.2.1 c hc), if_neg (fun q => absurd q.1 (by rw [ht]; decide))]
    unfold aPick
    rw [ht, if_neg (by decide)]
  refine ⟨e, ?_⟩
  rw [e]
  refine ⟨fun t ht => ?_, fun s hs => ?_, fun g hg => ?_⟩
  · rw [au_k _ _ _ _ (by decide), au_k _ _ _ _ (by decide)]; exact h.1 t ht
  · rw [au_at]
    split
    · decide
    · rw [au_k _ _ _ _ (by decide)]; exact h.2.1 s hs
  · rw [au_k _ _ _ _ (by decide), au_k _ _ _ _ (by decide)]; exact h.2.2 g hg
theorem idle_hold {A : Nat → Nat → Int32} (h : Idle A) : ∀ n, n ≤ 8 → aHoldL A n = A := by
  intro n
  induction n with
  | zero => intro _; rfl
  | succ n ih =>
    intro hn
    rw [aHoldL, ih (by omega), if_pos (h.2.2 n (by omega))]
theorem idle_tick {D A : Nat → Nat → Int32} (x : Int32) (h : Idle A) : aTick D A = au (idA A) 14 13 (A 14 13 + 1) ∧ aAdd D A x = x ∧ Idle (aTick D A) := by
  obtain ⟨e0, h0⟩ := idle_cho (D := D) (c := 0) (by omega) h
  obtain ⟨e1, h1⟩ := idle_cho (D := D) (c := 1) (by omega) h0
  obtain ⟨e2, h2⟩ := idle_cho (D := D) (c := 2) (by omega) h1
  obtain ⟨e3, h3⟩ := idle_cho (D := D) (c := 3) (by omega) h2
  have em : aMid D A = aCho D A := idle_hold h3 8 (Nat.le_refl _)
  have ec : aCho D A = au (au (au (au (au (au (au (au A 39 0 (-1)) 40 0 0) 39 1 (-1)) 40 1 0) 39 2 (-1)) 40 2 0) 39 3 (-1)) 40 3 0 := by
    unfold aCho
    rw [e3, e2, e1, e0]
  have g : ∀ (B : Nat → Nat → Int32) c, B 39 c = -1 → aGo D B c = aTell B c ∧ aGoR D B c = 0 := fun B c q => by
    unfold aGo aGoR
    rw [if_pos (by rw [q]; decide), if_pos (by rw [q]; decide)]
    exact ⟨rfl, rfl⟩
  have t39 : ∀ (B : Nat → Nat → Int32) c s, aTell B c 39 s = B 39 s := fun B c s => by rw [aTell_row (by decide) (by decide)]
  have m39 : ∀ c, c < 4 → aCho D A 39 c = -1 := fun c hc => by
    rw [ec]
    obtain rfl | rfl | rfl | rfl : c = 0 ∨ c = 1 ∨ c = 2 ∨ c = 3 := by omega
    all_goals simp [au]
  have w0 := g (aCho D A) 0 (m39 0 (by omega))
  have w1 := g (aTell (aCho D A) 0) 1 (by rw [t39]; exact m39 1 (by omega))
  have w2 := g (aTell (aTell (aCho D A) 0) 1) 2 (by rw [t39, t39]; exact m39 2 (by omega))
  have w3 := g (aTell (aTell (aTell (aCho D A) 0) 1) 2) 3 (by rw [t39, t39, t39]; exact m39 3 (by omega))
  have et : aTick D A = au (idA A) 14 13 (A 14 13 + 1) := by
    unfold aTick aWrk
    rw [em, w0.1, w1.1, w2.1, w3.1, ec]
    funext k s
    unfold aTell idA au
    by_cases hs : s < 4
    · obtain rfl | rfl | rfl | rfl : s = 0 ∨ s = 1 ∨ s = 2 ∨ s = 3 := by omega
      all_goals
        by_cases k39 : k = 39
        · subst k39; simp
        · by_cases k40 : k = 40
          · subst k40; simp
          · by_cases k41 : k = 41
            · subst k41; simp
            · by_cases k42 : k = 42
              · subst k42; simp
              · simp [k39, k40, k41, k42]
    · have s0 : s ≠ 0 := by omega
      have s1 : s ≠ 1 := by omega
      have s2 : s ≠ 2 := by omega
      have s3 : s ≠ 3 := by omega
      simp [s0, s1, s2, s3, hs]
  refine ⟨et, ?_, ?_⟩
  · unfold aAdd
    rw [em, w0.2, w0.1, w1.2, w1.1, w2.2, w2.1, w3.2]
    simp
  · rw [et]
    refine ⟨fun t ht => ?_, fun c hc => ?_, fun g hg => ?_⟩
    · rw [au_k _ _ _ _ (by decide)]
      unfold idA
      simp
      exact h.1 t ht
    · rw [au_k _ _ _ _ (by decide)]
      unfold idA
      simp [hc]
    · rw [au_k _ _ _ _ (by decide)]
      unfold idA
      simp
      exact h.2.2 g hg
theorem idA_idA (A : Nat → Nat → Int32) (v w : Int32) : au (idA (au (idA A) 14 13 v)) 14 13 w = au (idA A) 14 13 w := by
  funext k s
  unfold idA au
  by_cases e : k = 14
  · subst e
    simp
    split <;> rfl
  · simp [e]
    by_cases hs : s < 4
    · simp [hs]
      by_cases q1 : k = 39 ∨ k = 41
      · simp [q1]
      · simp [q1]
        by_cases q2 : k = 40 ∨ k = 42
        · simp [q2]
          intro a b
          omega
        · simp [q2]
    · simp [hs]
theorem idle_it {D : Nat → Nat → Int32} (x : Int32) : ∀ m (A : Nat → Nat → Int32), Idle A → aIt D A (m + 1) = au (idA A) 14 13 (A 14 13 + nI (m + 1)) ∧ aItR D A x (m + 1) = x := by
  intro m
  induction m with
  | zero =>
    intro A h
    obtain ⟨a1, a2, a3⟩ := idle_tick (D := D) x h
    exact ⟨a1, a2⟩
  | succ m ih =>
    intro A h
    obtain ⟨a1, a2, a3⟩ := idle_tick (D := D) x h
    obtain ⟨b1, b2⟩ := ih (aTick D A) a3
    refine ⟨?_, ?_⟩
    · have e : (1 : Int32) + nI (m + 1) = nI (m + 1 + 1) := (nI_add 1 (m + 1)).trans (by rw [Nat.add_comm])
      rw [aIt, b1, a1, idA_idA, au_hit, Int32.add_assoc, e]
    · rw [aItR, a2]
      exact b2
