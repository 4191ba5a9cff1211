/-! PURE: cores don't see each other's counting. -/
def CD0 (D B : Nat → Nat → Int32) (c : Nat) : Prop := B 39 c < 0 ∨ ∃ t, t < 16 ∧ B 39 c = nI t ∧ D 15 t = nI c ∧ (B 40 c = 2 → nn B 30 t < 6)
def CD32 (B : Nat → Nat → Int32) (c : Nat) : Prop := ∀ t, B 39 c = nI t → t < 16 → B 40 c = 2 → ∃ s, B 32 t = nI s ∧ s < 2 ^ 30
theorem ad1_row {B : Nat → Nat → Int32} {c k : Nat} (h : k ≠ 29 ∧ k ≠ 31 ∧ k ≠ 32 ∧ k ≠ 38 ∧ k ≠ 41 ∧ k ≠ 42) : ad1 B c k = B k := by
  unfold ad1 aDn aSpin aDec
  split
  · exact aTell_row (by omega) (by omega)
  · split
    · rw [au_row _ _ _ (by omega), aTell_row (by omega) (by omega)]
    · split
      · rw [au_row _ _ _ (by omega), au_row _ _ _ (by omega), aTell_row (by omega) (by omega)]
      · rw [au_row _ _ _ (by omega), aTell_row (by omega) (by omega)]
theorem ad1_o {B : Nat → Nat → Int32} {c k s t : Nat} (h : B 39 c < 0 ∨ (B 39 c = nI t ∧ t < 16 ∧ s ≠ t)) (hk : k = 29 ∨ k = 31 ∨ k = 32) : ad1 B c k s = B k s := by
  unfold ad1 aDn aSpin aDec
  rcases h with q | ⟨q, ht, hs⟩
  · rw [if_pos q]
    exact tell_o (by omega) (by omega)
  · rw [if_neg (by rw [q]; exact nI_pos (by omega)), nn_nI q (by omega)]
    split
    · rw [au_ne _ _ (by omega)]
      exact tell_o (by omega) (by omega)
    · split
      · rw [au_ne _ _ (by omega), au_ne _ _ (by omega)]
        exact tell_o (by omega) (by omega)
      · rw [au_ne _ _ (by omega)]
        exact tell_o (by omega) (by omega)
theorem CD0_same {D B B' : Nat → Nat → Int32} {c : Nat} (e39 : B' 39 c = B 39 c) (e40 : B' 40 c = B 40 c) (e30 : ∀ t, D 15 t = nI c → B' 30 t = B 30 t) (h : CD0 D B c) : CD0 D B' c := by
  unfold CD0 at *
  rw [e39, e40]
  rcases h with q | ⟨t, q1, q2, q3, q4⟩
  · exact Or.inl q
  · exact Or.inr ⟨t, q1, q2, q3, fun q => by rw [nn_e (e30 t q3)]; exact q4 q⟩
theorem CD0_ad1 {D B : Nat → Nat → Int32} {c c' : Nat} (h : CD0 D B c) : CD0 D (ad1 B c') c :=
  CD0_same (by rw [ad1_row (by decide)]) (by rw [ad1_row (by decide)]) (fun t _ => by rw [ad1_row (by decide)]) h
/-- what core c leaves alone -/
theorem aGoK_o {D B : Nat → Nat → Int32} {kk c a b : Nat} (h : B 39 c < 0 ∨ ∃ t, t < 16 ∧ B 39 c = nI t ∧ ((a = 29 ∨ a = 30 ∨ a = 31 ∨ a = 32) → b ≠ t) ∧ (a = 38 → B 40 c = 2 → b ≠ 6 * t + nn B 30 t)) (ha : a = 29 ∨ a = 30 ∨ a = 31 ∨ a = 32 ∨ a = 38 ∨ a = 39 ∨ a = 40) (h40 : a = 40 → b ≠ c) : aGoK D kk B c a b = B a b := by
  unfold aGoK
  rcases h with q | ⟨t, ht, q, h1, h2⟩
  · rw [if_pos q]
    exact tell_o (by omega) (by omega)
  · rw [if_neg (by rw [q]; exact nI_pos (by omega)), nn_nI q (by omega), aFin_row (by omega) (by omega) (by omega) (by omega) (by omega)]
    unfold aDoK
    rw [tell_o (k := 40) (by decide) (by decide)]
    split
    · rw [au_ne _ _ (by omega)]
      exact tell_o (by omega) (by omega)
    · split
      · rename_i q2
        unfold aSpinK
        rw [nn_e (tell_o (k := 30) (s := t) (A := B) (c := c) (by decide) (by decide)), au_ne _ _ (by have := fun z => h2 z q2; omega), au_ne _ _ (by omega)]
        exact tell_o (by omega) (by omega)
      · have e : aDecK kk (aTell B c) t a b = B a b := by
          unfold aDecK
          rw [au_ne _ _ (by omega)]
          exact tell_o (by omega) (by omega)
        split
        · unfold aLeave
          rw [au_ne _ _ (by omega), au_ne _ _ (by omega), au_ne _ _ (by omega), aShift_row (by omega)]
          exact e
        · exact e
theorem CD0_go {D B : Nat → Nat → Int32} {kk c c' : Nat} (hc : c < 4) (hc' : c' < 4) (hne : c ≠ c') (h : CD0 D B c) (h' : CD0 D B c') : CD0 D (aGoK D kk B c') c := by
  have hx : ∀ a b, (a = 39 ∨ a = 40 ∧ b ≠ c' ∨ a = 30 ∧ D 15 b = nI c) → aGoK D kk B c' a b = B a b := fun a b hab => by
    refine aGoK_o ?_ (by omega) (by omega)
    rcases h' with q | ⟨t, q1, q2, q3, q4⟩
    · exact Or.inl q
    · refine Or.inr ⟨t, q1, q2, fun z => ?_, fun z => by omega⟩
      intro e
      subst e
      rcases hab with z2 | z2 | z2
      · omega
      · omega
      · exact hne (nI_inj (by omega) (by omega) (z2.2.symm.trans q3))
  exact CD0_same (hx 39 c (Or.inl rfl)) (hx 40 c (Or.inr (Or.inl ⟨rfl, hne⟩))) (fun t ht => hx 30 t (Or.inr (Or.inr ⟨rfl, ht⟩))) h
theorem CD32_go {D B : Nat → Nat → Int32} {kk c c' : Nat} (hc : c < 4) (hc' : c' < 4) (hne : c ≠ c') (h0 : CD0 D B c) (h : CD32 B c) (h' : CD0 D B c') : CD32 (aGoK D kk B c') c := by
  have hx : ∀ a b, (a = 39 ∨ a = 40 ∧ b ≠ c' ∨ a = 32 ∧ D 15 b = nI c) → aGoK D kk B c' a b = B a b := fun a b hab => by
    refine aGoK_o ?_ (by omega) (by omega)
    rcases h' with q | ⟨t, q1, q2, q3, q4⟩
    · exact Or.inl q
    · refine Or.inr ⟨t, q1, q2, fun z => ?_, fun z => by omega⟩
      intro e
      subst e
      rcases hab with z2 | z2 | z2
      · omega
      · omega
      · exact hne (nI_inj (by omega) (by omega) (z2.2.symm.trans q3))
  intro t q1 q2 q3
  rw [hx 39 c (Or.inl rfl)] at q1
  rw [hx 40 c (Or.inr (Or.inl ⟨rfl, hne⟩))] at q3
  have hd : D 15 t = nI c := by
    rcases h0 with z | ⟨u, u1, u2, u3, _⟩
    · rw [q1] at z
      exact absurd z (nI_pos (by omega))
    · rw [nI_inj (by omega) (by omega) (q1.symm.trans u2)]
      exact u3
  rw [hx 32 t (Or.inr (Or.inr ⟨rfl, hd⟩))]
  exact h t q1 q2 q3
theorem ad1_go {D B : Nat → Nat → Int32} {kk c c' : Nat} (hc : c < 4) (hc' : c' < 4) (hne : c ≠ c') (h : CD0 D B c) (h' : CD0 D B c') : aGoK D kk (ad1 B c') c = ad1 (aGoK D kk B c) c' ∧ aGoRK D kk (ad1 B c') c = aGoRK D kk B c := by
  -- writes at places of c', seen from c
  have far : ∀ (E : Nat → Nat → Int32) k s v, (∀ b, E 39 b = B 39 b) → (∀ b, E 40 b = B 40 b) → (∀ b, E 30 b = B 30 b) → (k = 29 ∨ k = 31 ∨ k = 32 ∨ k = 38 ∨ k = 41 ∨ k = 42) → ((k = 41 ∨ k = 42) → s = c') → (k = 29 ∨ k = 31 ∨ k = 32 → s < 16 ∧ D 15 s = nI c') → (k = 38 → ∃ u r, u < 16 ∧ D 15 u = nI c' ∧ r < 6 ∧ s = 6 * u + r) → aGoK D kk (au E k s v) c = au (aGoK D kk E c) k s v ∧ aGoRK D kk (au E k s v) c = aGoRK D kk E c := fun E k s v a1 a2 a3 hk hs1 hs2 hs3 => by
    refine aGoK_far hk (fun q => by rw [hs1 q]; exact Ne.symm hne) ?_
    rw [a1]
    rcases h with q | ⟨t, q1, q2, q3, q4⟩
    · exact Or.inl q
    · refine Or.inr ⟨t, q1, q2, ?_⟩
      unfold Far
      rw [a2, nn_e (a3 t)]
      rcases hk with e | e | e | e | e | e
      · refine Or.inl ⟨by omega, fun z => hne (nI_inj (by omega) (by omega) (q3.symm.trans (by rw [← z]; exact (hs2 (by omega)).2)))⟩
      · refine Or.inl ⟨by omega, fun z => hne (nI_inj (by omega) (by omega) (q3.symm.trans (by rw [← z]; exact (hs2 (by omega)).2)))⟩
      · refine Or.inl ⟨by omega, fun z => hne (nI_inj (by omega) (by omega) (q3.symm.trans (by rw [← z]; exact (hs2 (by omega)).2)))⟩
      · refine Or.inr (Or.inl ⟨e, fun z => ?_⟩)
        obtain ⟨u, r, u1, u2, u3, u4⟩ := hs3 e
        have := q4 z
        intro z2
        have : u = t := by omega
        subst this
        exact hne (nI_inj (by omega) (by omega) (q3.symm.trans u2))
      · exact Or.inr (Or.inr ⟨by omega, by rw [hs1 (by omega)]; exact Ne.symm hne⟩)
      · exact Or.inr (Or.inr ⟨by omega, by rw [hs1 (by omega)]; exact Ne.symm hne⟩)
  have r39 : ∀ b, aGoK D kk B c 39 b = B 39 b := fun b => aGoK_o (by
    rcases h with q | ⟨t, q1, q2, q3, q4⟩
    · exact Or.inl q
    · exact Or.inr ⟨t, q1, q2, fun z => by omega, fun z => by omega⟩) (by omega) (by omega)
  have r40 : aGoK D kk B c 40 c' = B 40 c' := aGoK_o (by
    rcases h with q | ⟨t, q1, q2, q3, q4⟩
    · exact Or.inl q
    · exact Or.inr ⟨t, q1, q2, fun z => by omega, fun z => by omega⟩) (by omega) (fun _ => Ne.symm hne)
  have rt : ∀ a u, a = 29 ∨ a = 30 ∨ a = 31 ∨ a = 32 → D 15 u = nI c' → aGoK D kk B c a u = B a u := fun a u ha hu => aGoK_o (by
    rcases h with q | ⟨t, q1, q2, q3, q4⟩
    · exact Or.inl q
    · refine Or.inr ⟨t, q1, q2, fun z e => ?_, fun z => by omega⟩
      subst e
      exact hne (nI_inj (by omega) (by omega) (q3.symm.trans hu))) (by omega) (by omega)
  have r38 : ∀ u r, D 15 u = nI c' → u < 16 → r < 6 → aGoK D kk B c 38 (6 * u + r) = B 38 (6 * u + r) := fun u r hu hu2 hr => aGoK_o (by
    rcases h with q | ⟨t, q1, q2, q3, q4⟩
    · exact Or.inl q
    · refine Or.inr ⟨t, q1, q2, fun z => by omega, fun z z2 e => ?_⟩
      have := q4 z2
      have : u = t := by omega
      subst this
      exact hne (nI_inj (by omega) (by omega) (q3.symm.trans hu))) (by omega) (by omega)
  have f1 := far B 41 c' (B 39 c') (fun _ => rfl) (fun _ => rfl) (fun _ => rfl) (by omega) (fun _ => rfl) (fun q => by omega) (fun q => by omega)
  have f2 := far (au B 41 c' (B 39 c')) 42 c' (B 40 c') (fun _ => au_k _ _ _ _ (by decide)) (fun _ => au_k _ _ _ _ (by decide)) (fun _ => au_k _ _ _ _ (by decide)) (by omega) (fun _ => rfl) (fun q => by omega) (fun q => by omega)
  rw [f1.1, f1.2] at f2
  have f2 : aGoK D kk (aTell B c') c = aTell (aGoK D kk B c) c' ∧ aGoRK D kk (aTell B c') c = aGoRK D kk B c := by
    unfold aTell
    rw [r39, r40]
    exact f2
  have t39 : ∀ b, aTell B c' 39 b = B 39 b := fun b => tell_o (by decide) (by decide)
  have t40 : ∀ b, aTell B c' 40 b = B 40 b := fun b => tell_o (by decide) (by decide)
  have t30 : ∀ b, aTell B c' 30 b = B 30 b := fun b => tell_o (by decide) (by decide)
  rcases h' with q | ⟨u, q1, q2, q3, q4⟩
  · unfold ad1
    rw [if_pos q, r39, if_pos q]
    exact f2
  · have hn : ¬ B 39 c' < 0 := by rw [q2]; exact nI_pos (by omega)
    have nu : nn B 39 c' = u := nn_nI q2 (by omega)
    have nu' : nn (aGoK D kk B c) 39 c' = u := by rw [nn_e (r39 c')]; exact nu
    unfold ad1
    rw [if_neg hn, r39, if_neg hn, nu, nu']
    unfold aDn
    rw [t40, tell_o (k := 40) (by decide) (by decide), r40]
    by_cases h1 : B 40 c' = 1
    · rw [if_pos h1, if_pos h1, tell_o (k := 29) (by decide) (by decide), tell_o (k := 29) (by decide) (by decide), rt 29 u (by omega) q3]
      have g := far (aTell B c') 29 u (B 29 u + 1) t39 t40 t30 (by omega) (fun q => by omega) (fun _ => ⟨q1, q3⟩) (fun q => by omega)
      rw [f2.1, f2.2] at g
      exact g
    · rw [if_neg h1, if_neg h1]
      by_cases h2 : B 40 c' = 2
      · rw [if_pos h2, if_pos h2]
        unfold aSpin
        rw [nn_e (t30 u), tell_o (k := 32) (by decide) (by decide), tell_o (k := 38) (by decide) (by decide), nn_e (tell_o (k := 30) (s := u) (A := aGoK D kk B c) (c := c') (by decide) (by decide)), tell_o (k := 32) (by decide) (by decide), tell_o (k := 38) (by decide) (by decide), nn_e (rt 30 u (by omega) q3), rt 32 u (by omega) q3, r38 u _ q3 q1 (q4 h2)]
        have g := far (aTell B c') 32 u (B 32 u + 1) t39 t40 t30 (by omega) (fun q => by omega) (fun _ => ⟨q1, q3⟩) (fun q => by omega)
        have g2 := far (au (aTell B c') 32 u (B 32 u + 1)) 38 (6 * u + nn B 30 u) (if B 38 (6 * u + nn B 30 u) < B 32 u + 1 then B 32 u + 1 else B 38 (6 * u + nn B 30 u)) (fun b => by rw [au_k _ _ _ _ (by decide), t39]) (fun b => by rw [au_k _ _ _ _ (by decide), t40]) (fun b => by rw [au_k _ _ _ _ (by decide), t30]) (by omega) (fun q => by omega) (fun q => by omega) (fun _ => ⟨u, _, q1, q3, q4 h2, rfl⟩)
        rw [g.1, g.2, f2.1, f2.2] at g2
        exact g2
      · rw [if_neg h2, if_neg h2]
        unfold aDec
        rw [tell_o (k := 31) (by decide) (by decide), tell_o (k := 31) (by decide) (by decide), rt 31 u (by omega) q3]
        have g := far (aTell B c') 31 u (B 31 u - 1) t39 t40 t30 (by omega) (fun q => by omega) (fun _ => ⟨q1, q3⟩) (fun q => by omega)
        rw [f2.1, f2.2] at g
        exact g
/-- all four -/
def gK (D : Nat → Nat → Int32) (k : Nat) (B : Nat → Nat → Int32) : Nat → Nat → Int32 := aGoK D k (aGoK D k (aGoK D k (aGoK D k B 0) 1) 2) 3
def gR (D : Nat → Nat → Int32) (k : Nat) (B : Nat → Nat → Int32) (x : Int32) : Int32 := x + aGoRK D k B 0 + aGoRK D k (aGoK D k B 0) 1 + aGoRK D k (aGoK D k (aGoK D k B 0) 1) 2 + aGoRK D k (aGoK D k (aGoK D k (aGoK D k B 0) 1) 2) 3
def adv (B : Nat → Nat → Int32) : Nat → Nat → Nat → Int32
  | 0 => B
  | n + 1 => ad1 (adv B n) n
theorem gK_adv {D B : Nat → Nat → Int32} {k : Nat} (x : Int32) (hk : 1 ≤ k) (hk2 : k < 2 ^ 29) (h : ∀ c, c < 4 → CD0 D B c ∧ CD32 B c) : gK D k (adv B 4) = gK D (k + 1) B ∧ gR D k (adv B 4) x = gR D (k + 1) B x := by
  have h39 : ∀ (E : Nat → Nat → Int32) c, CD0 D E c → E 39 c < 0 ∨ ∃ t, t < 16 ∧ E 39 c = nI t := fun E c q => by
    rcases q with q | ⟨t, q1, q2, _⟩
    · exact Or.inl q
    · exact Or.inr ⟨t, q1, q2⟩
  have d0 := h 0 (by omega)
  have d1 := h 1 (by omega)
  have d2 := h 2 (by omega)
  have d3 := h 3 (by omega)
  -- core 0
  have s00 := aGoK_ad (D := D) hk hk2 d0.2 (h39 B 0 d0.1)
  have s01 := ad1_go (D := D) (kk := k) (c := 0) (c' := 1) (by omega) (by omega) (by omega) (CD0_ad1 (c' := 0) d0.1) (CD0_ad1 (c' := 0) d1.1)
  have s02 := ad1_go (D := D) (kk := k) (c := 0) (c' := 2) (by omega) (by omega) (by omega) (CD0_ad1 (c' := 1) (CD0_ad1 (c' := 0) d0.1)) (CD0_ad1 (c' := 1) (CD0_ad1 (c' := 0) d2.1))
  have s03 := ad1_go (D := D) (kk := k) (c := 0) (c' := 3) (by omega) (by omega) (by omega) (CD0_ad1 (c' := 2) (CD0_ad1 (c' := 1) (CD0_ad1 (c' := 0) d0.1))) (CD0_ad1 (c' := 2) (CD0_ad1 (c' := 1) (CD0_ad1 (c' := 0) d3.1)))
  rw [s02.1, s02.2, s01.1, s01.2, s00.1, s00.2] at s03
  have e1 := fun c (hc : c < 4) (hne : c ≠ 0) => And.intro (CD0_go (kk := k + 1) hc (show 0 < 4 by omega) hne (h c hc).1 d0.1) (CD32_go (kk := k + 1) hc (show 0 < 4 by omega) hne (h c hc).1 (h c hc).2 d0.1)
  generalize hY1 : aGoK D (k + 1) B 0 = Y1 at *
  have d1 := e1 1 (by omega) (by omega)
  have d2 := e1 2 (by omega) (by omega)
  have d3 := e1 3 (by omega) (by omega)
  have s11 := aGoK_ad (D := D) hk hk2 d1.2 (h39 Y1 1 d1.1)
  have s12 := ad1_go (D := D) (kk := k) (c := 1) (c' := 2) (by omega) (by omega) (by omega) (CD0_ad1 (c' := 1) d1.1) (CD0_ad1 (c' := 1) d2.1)
  have s13 := ad1_go (D := D) (kk := k) (c := 1) (c' := 3) (by omega) (by omega) (by omega) (CD0_ad1 (c' := 2) (CD0_ad1 (c' := 1) d1.1)) (CD0_ad1 (c' := 2) (CD0_ad1 (c' := 1) d3.1))
  rw [s12.1, s12.2, s11.1, s11.2] at s13
  have e2 := fun c (hc : c < 4) (hne : c ≠ 0) (hne1 : c ≠ 1) => And.intro (CD0_go (kk := k + 1) hc (show 1 < 4 by omega) hne1 (e1 c hc hne).1 d1.1) (CD32_go (kk := k + 1) hc (show 1 < 4 by omega) hne1 (e1 c hc hne).1 (e1 c hc hne).2 d1.1)
  generalize hY2 : aGoK D (k + 1) Y1 1 = Y2 at *
  have d2 := e2 2 (by omega) (by omega) (by omega)
  have d3 := e2 3 (by omega) (by omega) (by omega)
  have s22 := aGoK_ad (D := D) hk hk2 d2.2 (h39 Y2 2 d2.1)
  have s23 := ad1_go (D := D) (kk := k) (c := 2) (c' := 3) (by omega) (by omega) (by omega) (CD0_ad1 (c' := 2) d2.1) (CD0_ad1 (c' := 2) d3.1)
  rw [s22.1, s22.2] at s23
  have e3 := And.intro (CD0_go (kk := k + 1) (show 3 < 4 by omega) (show 2 < 4 by omega) (by omega) d3.1 d2.1) (CD32_go (kk := k + 1) (show 3 < 4 by omega) (show 2 < 4 by omega) (by omega) d3.1 d3.2 d2.1)
  generalize hY3 : aGoK D (k + 1) Y2 2 = Y3 at *
  have s33 := aGoK_ad (D := D) hk hk2 e3.2 (h39 Y3 3 e3.1)
  unfold gK gR
  have ea : adv B 4 = ad1 (ad1 (ad1 (ad1 B 0) 1) 2) 3 := rfl
  rw [ea, s03.1, s03.2, s13.1, s13.2, s23.1, s23.2, s33.1, s33.2, hY1, hY2, hY3]
  exact ⟨rfl, rfl⟩
