/-! PURE: many ticks at once. -/
def aSpinK (k : Nat) (A : Nat → Nat → Int32) (t : Nat) : Nat → Nat → Int32 := au (au A 32 t (A 32 t + nI k)) 38 (6 * t + nn A 30 t) (if A 38 (6 * t + nn A 30 t) < A 32 t + nI k then A 32 t + nI k else A 38 (6 * t + nn A 30 t))
def aDecK (k : Nat) (A : Nat → Nat → Int32) (t : Nat) : Nat → Nat → Int32 := au A 31 t (A 31 t - nI k)
def aDoK (D : Nat → Nat → Int32) (k : Nat) (A : Nat → Nat → Int32) (c t : Nat) : Nat → Nat → Int32 := if A 40 c = 1 then au A 29 t (A 29 t + nI k) else if A 40 c = 2 then aSpinK k A t else if aDecK k A t 31 t = 0 then aLeave D (aDecK k A t) c t else aDecK k A t
def aGoK (D : Nat → Nat → Int32) (k : Nat) (A : Nat → Nat → Int32) (c : Nat) : Nat → Nat → Int32 := if A 39 c < 0 then aTell A c else aFin D (aDoK D k (aTell A c) c (nn A 39 c)) c (nn A 39 c)
def aGoRK (D : Nat → Nat → Int32) (k : Nat) (A : Nat → Nat → Int32) (c : Nat) : Int32 := if A 39 c < 0 then 0 else if aEnds D (aDoK D k (aTell A c) c (nn A 39 c)) c (nn A 39 c) = true then 1 else 0
theorem aGoK_1 (D A : Nat → Nat → Int32) (c : Nat) : aGoK D 1 A c = aGo D A c := rfl
theorem aGoRK_1 (D A : Nat → Nat → Int32) (c : Nat) : aGoRK D 1 A c = aGoR D A c := rfl
def aDn (A : Nat → Nat → Int32) (c t : Nat) : Nat → Nat → Int32 := if A 40 c = 1 then au A 29 t (A 29 t + 1) else if A 40 c = 2 then aSpin A t else aDec A t
def ad1 (A : Nat → Nat → Int32) (c : Nat) : Nat → Nat → Int32 := if A 39 c < 0 then aTell A c else aDn (aTell A c) c (nn A 39 c)
theorem au_comm (A : Nat → Nat → Int32) {k s k' s' : Nat} (v v' : Int32) (h : k ≠ k' ∨ s ≠ s') : au (au A k s v) k' s' v' = au (au A k' s' v') k s v := by
  funext a b
  unfold au
  by_cases q : a = k ∧ b = s
  · by_cases q2 : a = k' ∧ b = s'
    · omega
    · rw [if_neg q2, if_pos q, if_pos q]
  · by_cases q2 : a = k' ∧ b = s'
    · rw [if_pos q2, if_neg q, if_pos q2]
    · rw [if_neg q2, if_neg q, if_neg q, if_neg q2]
theorem au_au (A : Nat → Nat → Int32) (k s : Nat) (v w : Int32) : au (au A k s v) k s w = au A k s w := by
  funext a b
  unfold au
  by_cases q : a = k ∧ b = s
  · rw [if_pos q, if_pos q]
  · rw [if_neg q, if_neg q, if_neg q]
theorem au_same {A : Nat → Nat → Int32} {k s : Nat} {v : Int32} (h : A k s = v) : au A k s v = A := by
  funext a b
  unfold au
  split
  · rename_i q; rw [q.1, q.2, h]
  · rfl
theorem au_ne (A : Nat → Nat → Int32) {k s k' s' : Nat} (v : Int32) (h : k' ≠ k ∨ s' ≠ s) : au A k s v k' s' = A k' s' := by
  unfold au
  rw [if_neg (by omega)]
theorem tell_same {A : Nat → Nat → Int32} {c : Nat} (h1 : A 41 c = A 39 c) (h2 : A 42 c = A 40 c) : aTell A c = A := by
  unfold aTell
  rw [au_same h1, au_same h2]
theorem tell_41 (A : Nat → Nat → Int32) (c : Nat) : aTell A c 41 c = A 39 c ∧ aTell A c 42 c = A 40 c := by
  unfold aTell
  exact ⟨by rw [au_k _ _ _ _ (by decide), au_hit], au_hit _ _ _ _⟩
theorem tell_o {A : Nat → Nat → Int32} {c k s : Nat} (h1 : k ≠ 41) (h2 : k ≠ 42) : aTell A c k s = A k s := by
  rw [aTell_row h1 h2]
/-- one tick less -/
theorem aDoK_ad {D A : Nat → Nat → Int32} {k c t : Nat} (hk : 1 ≤ k) (hk2 : k < 2 ^ 29) (h32 : A 40 c = 2 → ∃ s, A 32 t = nI s ∧ s < 2 ^ 30) : aDoK D k (aDn A c t) c t = aDoK D (k + 1) A c t := by
  have e : ∀ x : Int32, x + 1 + nI k = x + nI (k + 1) := fun x => by
    rw [Int32.add_assoc]
    have := (nI_add 1 k)
    rw [show (1 : Int32) = nI 1 from rfl, this, Nat.add_comm]
  have e' : ∀ x : Int32, x - 1 - nI k = x - nI (k + 1) := fun x => by
    have := e 0
    rw [Int32.sub_sub, show (1 : Int32) + nI k = nI (k + 1) from by rw [show (1 : Int32) = nI 1 from rfl, nI_add, Nat.add_comm]]
  unfold aDn
  by_cases h1 : A 40 c = 1
  · rw [if_pos h1]
    unfold aDoK
    rw [au_k _ _ _ _ (by decide), if_pos h1, if_pos h1, au_hit, au_au, e]
  · rw [if_neg h1]
    by_cases h2 : A 40 c = 2
    · rw [if_pos h2]
      obtain ⟨s, s1, s2⟩ := h32 h2
      have q40 : aSpin A t 40 c = A 40 c := by
        unfold aSpin
        rw [au_k _ _ _ _ (by decide), au_k _ _ _ _ (by decide)]
      unfold aDoK
      rw [q40, if_neg h1, if_neg h1, if_pos h2, if_pos h2]
      have q30 : aSpin A t 30 t = A 30 t := by
        unfold aSpin
        rw [au_k _ _ _ _ (by decide), au_k _ _ _ _ (by decide)]
      have q32 : aSpin A t 32 t = A 32 t + 1 := by
        unfold aSpin
        rw [au_k _ _ _ _ (by decide), au_hit]
      have q38 : aSpin A t 38 (6 * t + nn A 30 t) = if A 38 (6 * t + nn A 30 t) < A 32 t + 1 then A 32 t + 1 else A 38 (6 * t + nn A 30 t) := by
        unfold aSpin
        rw [au_hit]
      unfold aSpinK
      rw [nn_e q30, q32, q38, e]
      have hm : ∀ y : Int32, (if (if y < A 32 t + 1 then A 32 t + 1 else y) < A 32 t + nI (k + 1) then A 32 t + nI (k + 1) else (if y < A 32 t + 1 then A 32 t + 1 else y)) = if y < A 32 t + nI (k + 1) then A 32 t + nI (k + 1) else y := fun y => by
        rw [s1, nI_1, nI_add]
        have l1 : nI (s + 1) < nI (s + (k + 1)) := nI_lt (by omega) (by omega)
        by_cases q : y < nI (s + 1)
        · rw [if_pos q, if_pos l1, if_pos (Int32.lt_trans q l1)]
        · rw [if_neg q]
      rw [hm]
      unfold aSpin
      rw [au_comm (au A 32 t (A 32 t + 1)) _ _ (Or.inl (by decide)), au_au, au_au]
    · rw [if_neg h2]
      unfold aDoK aDec aDecK
      rw [au_k _ _ _ _ (by decide), if_neg h1, if_neg h1, if_neg h2, if_neg h2]
      simp only [au_hit, au_au, e']
theorem aGoK_ad {D A : Nat → Nat → Int32} {k c : Nat} (hk : 1 ≤ k) (hk2 : k < 2 ^ 29) (h32 : ∀ t, A 39 c = nI t → t < 16 → A 40 c = 2 → ∃ s, A 32 t = nI s ∧ s < 2 ^ 30) (h39 : A 39 c < 0 ∨ ∃ t, t < 16 ∧ A 39 c = nI t) : aGoK D k (ad1 A c) c = aGoK D (k + 1) A c ∧ aGoRK D k (ad1 A c) c = aGoRK D (k + 1) A c := by
  rcases h39 with hneg | ⟨t, ht, e39⟩
  · unfold ad1 aGoK aGoRK
    rw [if_pos hneg, if_pos hneg, if_pos hneg, tell_o (by decide) (by decide), if_pos hneg, if_pos hneg]
    refine ⟨tell_same ?_ ?_, rfl⟩
    · rw [(tell_41 A c).1, tell_o (by decide) (by decide)]
    · rw [(tell_41 A c).2, tell_o (by decide) (by decide)]
  · have hn : ¬ A 39 c < 0 := by rw [e39]; exact nI_pos (by omega)
    have nt : nn A 39 c = t := nn_nI e39 (by omega)
    have key : ad1 A c 39 c = A 39 c ∧ aTell (ad1 A c) c = ad1 A c := by
      unfold ad1
      rw [if_neg hn]
      have : ∀ k, k = 39 ∨ k = 40 ∨ k = 41 ∨ k = 42 → aDn (aTell A c) c (nn A 39 c) k c = aTell A c k c := fun k hk => by
        unfold aDn aSpin aDec
        split
        · rw [au_k _ _ _ _ (by omega)]
        · split
          · rw [au_k _ _ _ _ (by omega), au_k _ _ _ _ (by omega)]
          · rw [au_k _ _ _ _ (by omega)]
      refine ⟨?_, tell_same ?_ ?_⟩
      · rw [this 39 (by omega), tell_o (by decide) (by decide)]
      · rw [this 41 (by omega), this 39 (by omega), (tell_41 A c).1, tell_o (by decide) (by decide)]
      · rw [this 42 (by omega), this 40 (by omega), (tell_41 A c).2, tell_o (by decide) (by decide)]
    have d := aDoK_ad (D := D) (A := aTell A c) (k := k) (c := c) (t := t) hk hk2 (fun q => by
      rw [tell_o (by decide) (by decide)] at q ⊢
      exact h32 t e39 ht q)
    have ea : ad1 A c = aDn (aTell A c) c t := by
      unfold ad1
      rw [if_neg hn, nt]
    unfold aGoK aGoRK
    rw [key.2, nn_e key.1, key.1, if_neg hn, if_neg hn, if_neg hn, if_neg hn, nt, ea, d]
    exact ⟨rfl, rfl⟩
/-- a write that core c doesn't see -/
def Far (B : Nat → Nat → Int32) (c t k s : Nat) : Prop := ((k = 29 ∨ k = 31 ∨ k = 32) ∧ s ≠ t) ∨ (k = 38 ∧ (B 40 c = 2 → s ≠ 6 * t + nn B 30 t)) ∨ ((k = 41 ∨ k = 42) ∧ s ≠ c)
theorem Far_tell {B : Nat → Nat → Int32} {c t k s : Nat} (h : Far B c t k s) : Far (aTell B c) c t k s := by
  unfold Far at *
  rw [tell_o (by decide) (by decide), nn_e (tell_o (k := 30) (s := t) (A := B) (c := c) (by decide) (by decide))]
  exact h
theorem aLeave_far {D T : Nat → Nat → Int32} {c t k s : Nat} {v : Int32} (h1 : k ≠ 43) (h2 : k ≠ 44) (h3 : k ≠ 40) (h4 : k ≠ 30) : aLeave D (au T k s v) c t = au (aLeave D T c t) k s v := by
  have e30 : nn (au T k s v) 30 t = nn T 30 t := nn_e (au_k _ _ _ _ (by omega))
  have e44 : ∀ g, au T k s v 44 g = T 44 g := fun g => au_k _ _ _ _ (by omega)
  have esh : ∀ g, aShift (au T k s v) g = au (aShift T g) k s v := fun g => by
    funext a b
    unfold aShift
    rw [nn_e (e44 g), au_k _ _ _ _ (show (43 : Nat) ≠ k by omega)]
    by_cases q : a = 43 ∧ 4 * g ≤ b ∧ b + 1 < 4 * g + nn T 44 g
    · rw [if_pos q]
      unfold au
      rw [if_neg (by omega)]
      dsimp only
      rw [if_pos q]
    · rw [if_neg q]
      unfold au
      by_cases q2 : a = k ∧ b = s
      · rw [if_pos q2, if_pos q2]
      · rw [if_neg q2, if_neg q2]
        dsimp only
        rw [if_neg q]
  unfold aLeave aGrp
  rw [e30, e44, esh, au_comm _ _ _ (Or.inl h2), au_comm _ _ _ (Or.inl h3), au_comm _ _ _ (Or.inl h4)]
theorem aDoK_far {D T : Nat → Nat → Int32} {kk c t k s : Nat} {v : Int32} (h : Far T c t k s) : aDoK D kk (au T k s v) c t = au (aDoK D kk T c t) k s v := by
  have hk : k = 29 ∨ k = 31 ∨ k = 32 ∨ k = 38 ∨ k = 41 ∨ k = 42 := by
    unfold Far at h
    omega
  have r : ∀ a b, a = 40 ∨ a = 30 → au T k s v a b = T a b := fun a b q => au_k _ _ _ _ (by omega)
  have rt : ∀ a, a = 29 ∨ a = 31 ∨ a = 32 → au T k s v a t = T a t := fun a q => au_ne _ _ (by unfold Far at h; omega)
  unfold aDoK
  rw [r 40 c (Or.inl rfl)]
  by_cases h1 : T 40 c = 1
  · rw [if_pos h1, if_pos h1, rt 29 (by omega), au_comm _ _ _ (by unfold Far at h; omega)]
  · rw [if_neg h1, if_neg h1]
    by_cases h2 : T 40 c = 2
    · rw [if_pos h2, if_pos h2]
      have hs : k ≠ 38 ∨ s ≠ 6 * t + nn T 30 t := by
        unfold Far at h
        rcases h with q | q | q
        · omega
        · exact Or.inr (q.2 h2)
        · omega
      unfold aSpinK
      rw [nn_e (r 30 t (Or.inr rfl)), rt 32 (by omega), au_ne (k' := 38) T v (by omega), au_comm T _ _ (show k ≠ 32 ∨ s ≠ t by unfold Far at h; omega), au_comm (au T 32 t (T 32 t + nI kk)) _ _ hs]
    · rw [if_neg h2, if_neg h2]
      have ed : aDecK kk (au T k s v) t = au (aDecK kk T t) k s v := by
        unfold aDecK
        rw [rt 31 (by omega), au_comm _ _ _ (by unfold Far at h; omega)]
      have e31 : au (aDecK kk T t) k s v 31 t = aDecK kk T t 31 t := au_ne _ _ (by unfold Far at h; omega)
      rw [ed, e31]
      split
      · exact aLeave_far (by omega) (by omega) (by omega) (by omega)
      · rfl
theorem aFin_far {D B : Nat → Nat → Int32} {c t k s : Nat} {v : Int32} (hk : k = 29 ∨ k = 31 ∨ k = 32 ∨ k = 38 ∨ k = 41 ∨ k = 42) (h29 : k = 29 → s ≠ t) : aFin D (au B k s v) c t = au (aFin D B c t) k s v ∧ aEnds D (au B k s v) c t = aEnds D B c t := by
  have e : aEnds D (au B k s v) c t = aEnds D B c t := by
    unfold aEnds
    rw [au_k _ _ _ _ (show 40 ≠ k by omega), au_k _ _ _ _ (show 30 ≠ k by omega), au_ne (k' := 29) B v (by omega)]
  refine ⟨?_, e⟩
  unfold aFin
  rw [e]
  split
  · unfold aEnd aLat
    rw [au_k _ _ _ _ (show 35 ≠ k by omega), au_k _ _ _ _ (show 36 ≠ k by omega), au_k _ _ _ _ (show 28 ≠ k by omega), au_k _ _ _ _ (show 14 ≠ k by omega), au_k _ _ _ _ (show 45 ≠ k by omega), au_comm B _ _ (Or.inl (by omega)), au_comm (au B 26 t 0) _ _ (Or.inl (by omega)), au_comm (au (au B 26 t 0) 35 t _) _ _ (Or.inl (by omega)), au_comm (au (au (au B 26 t 0) 35 t _) 37 t _) _ _ (Or.inl (by omega)), au_comm (au (au (au (au B 26 t 0) 35 t _) 37 t _) 36 t _) _ _ (Or.inl (by omega))]
  · rfl
theorem aGoK_far {D B : Nat → Nat → Int32} {kk c k s : Nat} {v : Int32} (hk : k = 29 ∨ k = 31 ∨ k = 32 ∨ k = 38 ∨ k = 41 ∨ k = 42) (hs : (k = 41 ∨ k = 42) → s ≠ c) (h : B 39 c < 0 ∨ ∃ t, t < 16 ∧ B 39 c = nI t ∧ Far B c t k s) : aGoK D kk (au B k s v) c = au (aGoK D kk B c) k s v ∧ aGoRK D kk (au B k s v) c = aGoRK D kk B c := by
  have et : aTell (au B k s v) c = au (aTell B c) k s v := by
    unfold aTell
    rw [au_k _ _ _ _ (show 39 ≠ k by omega), au_k _ _ _ _ (show 40 ≠ k by omega), au_comm B _ _ (by omega), au_comm (au B 41 c _) _ _ (by omega)]
  have e39 : au B k s v 39 c = B 39 c := au_k _ _ _ _ (by omega)
  unfold aGoK aGoRK
  rw [e39, nn_e e39, et]
  rcases h with hneg | ⟨t, ht, q39, hF⟩
  · rw [if_pos hneg, if_pos hneg, if_pos hneg, if_pos hneg]
    exact ⟨rfl, rfl⟩
  · have hn : ¬ B 39 c < 0 := by rw [q39]; exact nI_pos (by omega)
    rw [if_neg hn, if_neg hn, if_neg hn, if_neg hn, nn_nI q39 (by omega), aDoK_far (Far_tell hF)]
    have := aFin_far (D := D) (B := aDoK D kk (aTell B c) c t) (c := c) (t := t) (k := k) (s := s) (v := v) hk (fun q => by unfold Far at hF; omega)
    rw [this.1, this.2]
    exact ⟨rfl, rfl⟩
