/-! PURE: spinning stays small; the batch. -/
def SP (A : Nat → Nat → Int32) (w : Nat) : Prop := ∀ c t, c < 4 → t < 16 → A 39 c = nI t → A 40 c = 2 → ∃ s, A 32 t = nI s ∧ s ≤ w
theorem SP_choose {D A : Nat → Nat → Int32} {c w : Nat} (h : SP A w) : SP (aChoose D A c) w := by
  intro s u hs hu q39 q40
  unfold aChoose at *
  by_cases h1 : A 40 c ≤ 1
  · rw [if_pos h1] at q39 q40 ⊢
    have p39 : aPick D A c 39 c = aTopL D A c 16 := by
      unfold aPick
      rw [au_k _ _ _ _ (by decide), au_hit]
    have p40 : aPick D A c 40 c ≠ 2 := by
      unfold aPick
      rw [au_hit]
      split <;> decide
    have p32 : aPick D A c 32 = A 32 := by
      unfold aPick
      rw [au_row _ _ _ (by decide), au_row _ _ _ (by decide)]
    by_cases h2 : 0 ≤ aTopL D A c 16 ∧ aDue D A (aTopL D A c 16).toNatClampNeg = true
    · rw [if_pos h2] at q39 q40 ⊢
      have j32 : aJoin D (aPick D A c) c (aTopL D A c 16).toNatClampNeg 32 u = if u = (aTopL D A c 16).toNatClampNeg then 0 else A 32 u := by
        unfold aJoin
        rw [au_k _ _ _ _ (by decide), au_at, au_k _ _ _ _ (by decide), au_k _ _ _ _ (by decide), au_k _ _ _ _ (by decide), p32]
      by_cases e : u = (aTopL D A c 16).toNatClampNeg
      · exact ⟨0, by rw [j32, if_pos e]; rfl, by omega⟩
      · rw [j32, if_neg e]
        have e39 : aJoin D (aPick D A c) c (aTopL D A c 16).toNatClampNeg 39 s = aPick D A c 39 s := by rw [aJoin_rows 39 (by decide)]
        rw [e39] at q39
        by_cases es : s = c
        · subst es
          rw [p39] at q39
          exact absurd (by rw [q39]; exact (cl (by omega)).symm) e
        · have e40 : aJoin D (aPick D A c) c (aTopL D A c 16).toNatClampNeg 40 s = aPick D A c 40 s := by
            unfold aJoin
            rw [au_k _ _ _ _ (by decide), au_k _ _ _ _ (by decide), au_ne _ _ (by omega), au_k _ _ _ _ (by decide), au_k _ _ _ _ (by decide)]
          rw [e40, (aPick_other s es).2] at q40
          rw [(aPick_other s es).1] at q39
          exact h s u hs hu q39 q40
    · rw [if_neg h2] at q39 q40 ⊢
      by_cases es : s = c
      · subst es
        exact absurd q40 p40
      · rw [(aPick_other s es).2] at q40
        rw [(aPick_other s es).1] at q39
        rw [p32]
        exact h s u hs hu q39 q40
  · rw [if_neg h1] at q39 q40 ⊢
    exact h s u hs hu q39 q40
theorem SP_hold {A : Nat → Nat → Int32} {w : Nat} (h : SP A w) : ∀ n, SP (aHoldL A n) w := by
  intro n
  induction n with
  | zero => exact h
  | succ n ih =>
    rw [aHoldL]
    split
    · exact ih
    · intro s u hs hu q39 q40
      rw [au_k _ _ _ _ (by decide)] at q39
      rw [au_k _ _ _ _ (by decide)]
      rw [au_at] at q40
      split at q40
      · exact absurd q40 (by decide)
      · exact ih s u hs hu q39 q40
theorem SP_mid {D A : Nat → Nat → Int32} {w : Nat} (h : SP A w) : SP (aMid D A) w := SP_hold (SP_choose (SP_choose (SP_choose (SP_choose h)))) 8
theorem SP_go {D A : Nat → Nat → Int32} {c w : Nat} (hc : c < 4) (h : SP A w) : SP (aGo D A c) (w + 1) := by
  intro s u hs hu q39 q40
  rw [aGo_row (by decide)] at q39
  have fin : ∀ B : Nat → Nat → Int32, B 40 s = 2 → B 40 s = A 40 s → B 32 u = A 32 u → ∃ z, B 32 u = nI z ∧ z ≤ w + 1 := fun B b1 b2 b3 => by
    rw [b2] at b1
    obtain ⟨z, z1, z2⟩ := h s u hs hu q39 b1
    exact ⟨z, by rw [b3]; exact z1, by omega⟩
  unfold aGo at *
  by_cases hneg : A 39 c < 0
  · rw [if_pos hneg] at q40 ⊢
    exact fin _ q40 (tell_o (by decide) (by decide)) (tell_o (by decide) (by decide))
  · rw [if_neg hneg] at q40 ⊢
    have t39 : A 39 c = nI (nn A 39 c) := by
      obtain ⟨j, j1, j2⟩ := nI_of hneg
      rw [nn_nI j2 j1, j2]
    rw [aFin_row (by decide) (by decide) (by decide) (by decide) (by decide)] at q40 ⊢
    generalize nn A 39 c = t at *
    unfold aDo at *
    rw [tell_o (k := 40) (s := c) (by decide) (by decide)] at q40 ⊢
    by_cases h1 : A 40 c = 1
    · rw [if_pos h1] at q40 ⊢
      exact fin _ q40 (by rw [au_k _ _ _ _ (by decide)]; exact tell_o (by decide) (by decide)) (by rw [au_k _ _ _ _ (by decide)]; exact tell_o (by decide) (by decide))
    · rw [if_neg h1] at q40 ⊢
      by_cases h2 : A 40 c = 2
      · rw [if_pos h2] at q40 ⊢
        unfold aSpin at *
        rw [au_k _ _ _ _ (by decide), au_k _ _ _ _ (by decide)] at q40
        rw [au_k _ _ _ _ (by decide), au_at]
        by_cases e : u = t
        · subst e
          rw [if_pos rfl, tell_o (by decide) (by decide)]
          obtain ⟨z, z1, z2⟩ := h c u hc hu t39 h2
          exact ⟨z + 1, by rw [z1, nI_1], by omega⟩
        · rw [if_neg e, tell_o (by decide) (by decide)]
          rw [tell_o (by decide) (by decide)] at q40
          obtain ⟨z, z1, z2⟩ := h s u hs hu q39 q40
          exact ⟨z, z1, by omega⟩
      · rw [if_neg h2] at q40 ⊢
        have d40 : ∀ z, aDec (aTell A c) t 40 z = A 40 z := fun z => by
          unfold aDec
          rw [au_k _ _ _ _ (by decide)]
          exact tell_o (by decide) (by decide)
        have d32 : ∀ z, aDec (aTell A c) t 32 z = A 32 z := fun z => by
          unfold aDec
          rw [au_k _ _ _ _ (by decide)]
          exact tell_o (by decide) (by decide)
        by_cases h3 : aDec (aTell A c) t 31 t = 0
        · rw [if_pos h3] at q40 ⊢
          unfold aLeave at *
          rw [au_k _ _ _ _ (by decide), au_at] at q40
          rw [au_k _ _ _ _ (by decide), au_k _ _ _ _ (by decide), au_k _ _ _ _ (by decide), aShift_row (by decide), d32]
          by_cases e : s = c
          · rw [if_pos e] at q40
            exact absurd q40 (by decide)
          · rw [if_neg e, au_k _ _ _ _ (by decide), aShift_row (by decide), d40] at q40
            obtain ⟨z, z1, z2⟩ := h s u hs hu q39 q40
            exact ⟨z, z1, by omega⟩
        · rw [if_neg h3] at q40 ⊢
          exact fin _ q40 (d40 s) (d32 u)
theorem SP_tick {D A : Nat → Nat → Int32} {w : Nat} (h : SP A w) : SP (aTick D A) (w + 4) := by
  have h4 := SP_go (D := D) (c := 3) (by omega) (SP_go (D := D) (c := 2) (by omega) (SP_go (D := D) (c := 1) (by omega) (SP_go (D := D) (c := 0) (by omega) (SP_mid (D := D) h))))
  intro s u hs hu q39 q40
  unfold aTick at *
  rw [au_k _ _ _ _ (by decide)] at q39 q40 ⊢
  exact h4 s u hs hu q39 q40
theorem adv_row {B : Nat → Nat → Int32} {k : Nat} (h : k ≠ 29 ∧ k ≠ 31 ∧ k ≠ 32 ∧ k ≠ 38 ∧ k ≠ 41 ∧ k ≠ 42) : ∀ n, adv B n k = B k := by
  intro n
  induction n with
  | zero => rfl
  | succ n ih => rw [adv, ad1_row h, ih]
theorem adv_val {D B : Nat → Nat → Int32} {c t : Nat} (hc : c < 4) (ht : t < 16) (h39 : B 39 c = nI t) (hd : D 15 t = nI c) (h : ∀ c', c' < 4 → CD0 D B c') : ∀ n, n ≤ 4 → adv B n 29 t = (if c < n ∧ B 40 c = 1 then B 29 t + 1 else B 29 t) ∧ adv B n 31 t = (if c < n ∧ B 40 c ≠ 1 ∧ B 40 c ≠ 2 then B 31 t - 1 else B 31 t) := by
  intro n
  induction n with
  | zero =>
    intro _
    rw [if_neg (by omega), if_neg (by omega)]
    exact ⟨rfl, rfl⟩
  | succ n ih =>
    intro hn
    obtain ⟨i1, i2⟩ := ih (by omega)
    rw [adv]
    by_cases e : c = n
    · subst e
      rw [if_neg (by omega)] at i1 i2
      have a39 : adv B c 39 c = nI t := by rw [adv_row (by decide)]; exact h39
      have a40 : adv B c 40 c = B 40 c := by rw [adv_row (by decide)]
      unfold ad1
      rw [if_neg (by rw [a39]; exact nI_pos (by omega)), nn_nI a39 (by omega)]
      unfold aDn aSpin aDec
      rw [tell_o (k := 40) (by decide) (by decide), a40]
      by_cases h1 : B 40 c = 1
      · rw [if_pos h1, au_hit, tell_o (by decide) (by decide), i1, if_pos ⟨by omega, h1⟩, au_k _ _ _ _ (by decide), tell_o (by decide) (by decide), i2, if_neg (fun q => q.2.1 h1)]
        exact ⟨rfl, rfl⟩
      · rw [if_neg h1]
        by_cases h2 : B 40 c = 2
        · rw [if_pos h2, au_k _ _ _ _ (by decide), au_k _ _ _ _ (by decide), tell_o (by decide) (by decide), i1, if_neg (fun q => h1 q.2), au_k _ _ _ _ (by decide), au_k _ _ _ _ (by decide), tell_o (by decide) (by decide), i2, if_neg (fun q => q.2.2 h2)]
          exact ⟨rfl, rfl⟩
        · rw [if_neg h2, au_k _ _ _ _ (by decide), tell_o (by decide) (by decide), i1, if_neg (fun q => h1 q.2), au_hit, tell_o (by decide) (by decide), i2, if_pos ⟨by omega, h1, h2⟩]
          exact ⟨rfl, rfl⟩
    · have hx : ∀ a, a = 29 ∨ a = 31 → ad1 (adv B n) n a t = adv B n a t := fun a ha => by
        rcases h n (by omega) with q | ⟨u, q1, q2, q3, q4⟩
        · exact ad1_o (t := 0) (Or.inl (by rw [adv_row (by decide)]; exact q)) (by omega)
        · refine ad1_o (t := u) (Or.inr ⟨by rw [adv_row (by decide)]; exact q2, q1, fun e2 => ?_⟩) (by omega)
          subst e2
          exact e (nI_inj (by omega) (by omega) (hd.symm.trans q3))
      rw [hx 29 (Or.inl rfl), hx 31 (Or.inr rfl), i1, i2]
      refine ⟨?_, ?_⟩
      · by_cases q : c < n ∧ B 40 c = 1
        · rw [if_pos q, if_pos ⟨by omega, q.2⟩]
        · rw [if_neg q, if_neg (fun q2 => q ⟨by omega, q2.2⟩)]
      · by_cases q : c < n ∧ B 40 c ≠ 1 ∧ B 40 c ≠ 2
        · rw [if_pos q, if_pos ⟨by omega, q.2⟩]
        · rw [if_neg q, if_neg (fun q2 => q ⟨by omega, q2.2⟩)]
def stp (D M : Nat → Nat → Int32) (t : Nat) : Nat := if nn M 30 t < cn D t then af D t (nn M 30 t) else nn D 19 t
def AL (D M : Nat → Nat → Int32) (k : Nat) : Prop := ∀ c t, c < 4 → t < 16 → M 39 c = nI t → (nn M 40 c = 1 → nn M 29 t + k ≤ stp D M t) ∧ (nn M 40 c = 3 → k ≤ nn M 31 t)
/-- core c in the middle -/
theorem mid_core {D M : Nat → Nat → Int32} {F u b : Nat → Nat} {c : Nat} (hST : ST D) (hc : c < 4) (hP : PH D M F u b) (hch : chosen D M c) : (M 39 c = -1 ∧ M 40 c = 0) ∨ ∃ t, t < 16 ∧ M 39 c = nI t ∧ D 15 t = nI c ∧ M 26 t ≠ 0 ∧ (M 40 c = 1 ∨ ((M 40 c = 2 ∨ M 40 c = 3) ∧ Sec D M F c t)) := by
  obtain ⟨o, hs⟩ := hP.2.1 c hc
  by_cases h0 : nn M 40 c = 0
  · exact Or.inl ⟨(hch.2 h0).1, by rw [o.1, h0]; rfl⟩
  · refine Or.inr ?_
    by_cases h1 : nn M 40 c = 1
    · obtain ⟨t, q1, q2, q3, q4, _⟩ := hch.1 h1
      exact ⟨t, q1, q2, q4, q3, Or.inl (by rw [o.1, h1]; rfl)⟩
    · obtain ⟨t, ht⟩ := hs (by omega)
      refine ⟨t, ht.1, ht.2.1, ht.2.2.2.1, ht.2.2.1, Or.inr ⟨?_, ht⟩⟩
      have := o.2
      by_cases h2 : nn M 40 c = 2
      · exact Or.inl (by rw [o.1, h2]; rfl)
      · exact Or.inr (by rw [o.1, show nn M 40 c = 3 by omega]; rfl)
theorem mid_CD0 {D M : Nat → Nat → Int32} {F u b : Nat → Nat} {c : Nat} (hST : ST D) (hc : c < 4) (hP : PH D M F u b) (hch : chosen D M c) : CD0 D M c := by
  rcases mid_core hST hc hP hch with q | ⟨t, q1, q2, q3, q4, q5⟩
  · exact Or.inl (by rw [q.1]; decide)
  · refine Or.inr ⟨t, q1, q2, q3, fun q => ?_⟩
    rcases q5 with z | ⟨_, z⟩
    · rw [z] at q
      exact absurd q (by decide)
    · have hj := (hP.1 t q1 q4).1
      obtain ⟨_, _, _, _, _, _, _, _, _, _, _, _, k⟩ := core_of hST q1 hj
      have : cn D t ≤ 6 := k.2
      have := z.2.2.2.2.1
      omega
theorem gK_now (D : Nat → Nat → Int32) (k : Nat) (B : Nat → Nat → Int32) : gK D k B 14 = B 14 := by
  have : ∀ (E : Nat → Nat → Int32) c, aGoK D k E c 14 = E 14 := fun E c => by
    unfold aGoK
    split
    · exact aTell_row (by decide) (by decide)
    · rw [aFin_row (by decide) (by decide) (by decide) (by decide) (by decide)]
      unfold aDoK
      split
      · rw [au_row _ _ _ (by decide), aTell_row (by decide) (by decide)]
      · split
        · unfold aSpinK
          rw [au_row _ _ _ (by decide), au_row _ _ _ (by decide), aTell_row (by decide) (by decide)]
        · split
          · unfold aLeave aDecK
            rw [au_row _ _ _ (by decide), au_row _ _ _ (by decide), au_row _ _ _ (by decide), aShift_row (by decide), au_row _ _ _ (by decide), aTell_row (by decide) (by decide)]
          · unfold aDecK
            rw [au_row _ _ _ (by decide), aTell_row (by decide) (by decide)]
  unfold gK
  rw [this, this, this, this]
theorem ad1_now (B : Nat → Nat → Int32) (c : Nat) (v : Int32) : ad1 (au B 14 13 v) c = au (ad1 B c) 14 13 v := by
  have e : ∀ k s, k ≠ 14 → au B 14 13 v k s = B k s := fun k s q => au_k _ _ _ _ q
  have et : aTell (au B 14 13 v) c = au (aTell B c) 14 13 v := by
    unfold aTell
    rw [e 39 _ (by decide), e 40 _ (by decide), au_comm B _ _ (Or.inl (by decide)), au_comm (au B 41 c _) _ _ (Or.inl (by decide))]
  have e2 : ∀ (E : Nat → Nat → Int32) k s, k ≠ 14 → au E 14 13 v k s = E k s := fun E k s q => au_k _ _ _ _ q
  unfold ad1
  rw [e 39 _ (by decide), nn_e (e 39 c (by decide)), et]
  split
  · rfl
  · unfold aDn
    rw [e2 _ 40 _ (by decide)]
    split
    · rw [e2 _ 29 _ (by decide), au_comm _ _ _ (Or.inl (by decide))]
    · split
      · unfold aSpin
        rw [e2 _ 32 _ (by decide), nn_e (e2 (aTell B c) 30 (nn B 39 c) (by decide)), e2 _ 38 _ (by decide), au_comm (aTell B c) _ _ (Or.inl (by decide)), au_comm (au (aTell B c) 32 _ _) _ _ (Or.inl (by decide))]
      · unfold aDec
        rw [e2 _ 31 _ (by decide), au_comm _ _ _ (Or.inl (by decide))]
theorem adv_now (B : Nat → Nat → Int32) (v : Int32) : ∀ n, adv (au B 14 13 v) n = au (adv B n) 14 13 v := by
  intro n
  induction n with
  | zero => rfl
  | succ n ih => rw [adv, adv, ih, ad1_now]
