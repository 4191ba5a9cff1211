/-! PURE: a tick. -/
def aHoldL (A : Nat → Nat → Int32) : Nat → Nat → Nat → Int32
  | 0 => A
  | n + 1 => if aHoldL A n 44 n ≤ 0 then aHoldL A n else au (aHoldL A n) 40 (nn (aHoldL A n) 43 (4 * n)) 3
def nxo (D : Nat → Nat → Int32) (t : Nat) : Nat → Nat → Nat
  | 0, r => r
  | n + 1, r => if cn D t ≤ r then r else if ou D t r = true then r else nxo D t n (r + 1)
def aNx (D : Nat → Nat → Int32) (t r : Nat) : Nat := nxo D t 7 r
theorem nxo_spec {D : Nat → Nat → Int32} {t : Nat} : ∀ n r, cn D t < r + n → r ≤ cn D t → r ≤ nxo D t n r ∧ nxo D t n r ≤ cn D t ∧ (∀ q, r ≤ q → q < nxo D t n r → ou D t q = false) ∧ (nxo D t n r < cn D t → ou D t (nxo D t n r) = true) := by
  intro n
  induction n with
  | zero => intro r h1 h2; omega
  | succ n ih =>
    intro r h1 h2
    rw [nxo]
    by_cases e : cn D t ≤ r
    · rw [if_pos e]
      exact ⟨Nat.le_refl _, h2, fun q q1 q2 => absurd q2 (by omega), fun q => absurd q (by omega)⟩
    · rw [if_neg e]
      by_cases e2 : ou D t r = true
      · rw [if_pos e2]
        exact ⟨Nat.le_refl _, h2, fun q q1 q2 => absurd q2 (by omega), fun _ => e2⟩
      · rw [if_neg e2]
        obtain ⟨q1, q2, q3, q4⟩ := ih (r + 1) (by omega) (by omega)
        refine ⟨by omega, q2, fun q h3 h4 => ?_, q4⟩
        by_cases e3 : q = r
        · subst e3
          cases h5 : ou D t q
          · rfl
          · exact absurd h5 e2
        · exact q3 q (by omega) h4
def aTell (A : Nat → Nat → Int32) (c : Nat) : Nat → Nat → Int32 := au (au A 41 c (A 39 c)) 42 c (A 40 c)
def aSpin (A : Nat → Nat → Int32) (t : Nat) : Nat → Nat → Int32 := au (au A 32 t (A 32 t + 1)) 38 (6 * t + nn A 30 t) (if A 38 (6 * t + nn A 30 t) < A 32 t + 1 then A 32 t + 1 else A 38 (6 * t + nn A 30 t))
def aShift (A : Nat → Nat → Int32) (g : Nat) : Nat → Nat → Int32 := fun k s => if k = 43 ∧ 4 * g ≤ s ∧ s + 1 < 4 * g + nn A 44 g then A 43 (s + 1) else A k s
def aLeave (D A : Nat → Nat → Int32) (c t : Nat) : Nat → Nat → Int32 := au (au (au (aShift A (aGrp D A t)) 44 (aGrp D A t) (A 44 (aGrp D A t) - 1)) 40 c 1) 30 t (nI (aNx D t (nn A 30 t + 1)))
def aDec (A : Nat → Nat → Int32) (t : Nat) : Nat → Nat → Int32 := au A 31 t (A 31 t - 1)
def aDo (D A : Nat → Nat → Int32) (c t : Nat) : Nat → Nat → Int32 := if A 40 c = 1 then au A 29 t (A 29 t + 1) else if A 40 c = 2 then aSpin A t else if aDec A t 31 t = 0 then aLeave D (aDec A t) c t else aDec A t
def aEnds (D B : Nat → Nat → Int32) (c t : Nat) : Bool := decide (¬ 1 < B 40 c ∧ ¬ B 29 t < D 19 t ∧ D 20 t ≤ B 30 t)
def aLat (B : Nat → Nat → Int32) (t : Nat) : Int32 := B 14 13 + 1 - B 28 t
def aEnd (D B : Nat → Nat → Int32) (t : Nat) : Nat → Nat → Int32 := au (au (au (au (au B 26 t 0) 35 t (B 35 t + 1)) 37 t (aLat B t)) 36 t (if B 36 t < aLat B t then aLat B t else B 36 t)) 45 0 (if aLat B t ≤ D 18 t then B 45 0 else B 45 0 + 1)
def aFin (D B : Nat → Nat → Int32) (c t : Nat) : Nat → Nat → Int32 := if aEnds D B c t = true then aEnd D B t else B
def aGo (D A : Nat → Nat → Int32) (c : Nat) : Nat → Nat → Int32 := if A 39 c < 0 then aTell A c else aFin D (aDo D (aTell A c) c (nn A 39 c)) c (nn A 39 c)
def aGoR (D A : Nat → Nat → Int32) (c : Nat) : Int32 := if A 39 c < 0 then 0 else if aEnds D (aDo D (aTell A c) c (nn A 39 c)) c (nn A 39 c) = true then 1 else 0
theorem chosen_same2 {D A A' : Nat → Nat → Int32} {c : Nat} (e26 : ∀ v, D 15 v = nI c → A' 26 v = A 26 v) (e29 : ∀ v, D 15 v = nI c → A' 29 v = A 29 v) (e30 : ∀ v, D 15 v = nI c → A' 30 v = A 30 v) (e39 : A' 39 c = A 39 c) (e40 : A' 40 c = A 40 c) (h : chosen D A c) : chosen D A' c := by
  refine ⟨fun q => ?_, fun q => ?_⟩
  · obtain ⟨t, h1, h2, h3, h4, h5, h6⟩ := h.1 (by rw [nn_e e40] at q; exact q)
    refine ⟨t, h1, by rw [e39]; exact h2, by rw [e26 t h4]; exact h3, h4, fun v hv hv2 hv3 => h5 v hv (by rw [e26 v hv3] at hv2; exact hv2) hv3, ?_⟩
    rw [nn_e (e29 t h4), nn_e (e30 t h4)]
    exact h6
  · obtain ⟨h1, h2⟩ := h.2 (by rw [nn_e e40] at q; exact q)
    refine ⟨by rw [e39]; exact h1, fun v hv hv2 hv3 => h2 v hv (by rw [e26 v hv3] at hv2; exact hv2) hv3⟩
/-- while the cores work: those below k are through -/
def WK (D A : Nat → Nat → Int32) (F u b : Nat → Nat) (k : Nat) : Prop := PH D A F u b ∧ (∀ c, c < k → u c = nn A 14 13 + 1) ∧ (∀ c, k ≤ c → c < 4 → u c = nn A 14 13 ∧ chosen D A c ∧ ∀ t, nn A 40 c = 3 → A 39 c = nI t → t < 16 → b (aGrp D A t) = nn A 14 13) ∧ ∀ g, g < 8 → 0 < nn A 44 g → b g = nn A 14 13 + 1 ∨ (b g = nn A 14 13 ∧ ∃ c, k ≤ c ∧ c < 4 ∧ A 43 (4 * g) = nI c ∧ nn A 40 c = 3)
theorem hold_all {D A : Nat → Nat → Int32} {F : Nat → Nat} (h : CH D A F 4) : ∀ n, n ≤ 8 → PH D (aHoldL A n) F (fun _ => nn A 14 13) (fun _ => nn A 14 13) ∧ (∀ c, c < 4 → chosen D (aHoldL A n) c) ∧ (∀ k, k ≠ 40 → aHoldL A n k = A k) ∧ (∀ c, c < 4 → 1 < nn A 40 c → 1 < nn (aHoldL A n) 40 c) ∧ ∀ g, g < n → 0 < nn A 44 g → ∃ c, c < 4 ∧ A 43 (4 * g) = nI c ∧ nn (aHoldL A n) 40 c = 3 := by
  intro n
  induction n with
  | zero => intro _; exact ⟨h.1, h.2, fun _ _ => rfl, fun _ _ q => q, fun g hg => absurd hg (by omega)⟩
  | succ n ih =>
    intro hn
    obtain ⟨h1, h2, h3, h4, h5⟩ := ih (by omega)
    rw [aHoldL]
    generalize aHoldL A n = B at *
    have ok44 := (h1.2.2.1 n (by omega)).1
    have e44 : B 44 = A 44 := h3 44 (by decide)
    have e43 : B 43 = A 43 := h3 43 (by decide)
    have hle : B 44 n ≤ 0 ↔ nn A 44 n = 0 := by
      have q : nn B 44 n = nn A 44 n := by unfold nn; rw [e44]
      have q2 := ok44.2
      rw [ok44.1, ← q]
      have := nI_leI (a := nn B 44 n) (b := 0) (by omega) (by decide)
      rw [show (0 : Int32) = nI 0 from rfl, this]
      omega
    by_cases e : B 44 n ≤ 0
    · rw [if_pos e]
      refine ⟨h1, h2, h3, h4, fun g hg hm => ?_⟩
      by_cases e2 : g = n
      · subst e2
        have := hle.mp e
        omega
      · exact h5 g (by omega) hm
    · rw [if_neg e]
      have hm : 0 < nn B 44 n := by
        have q : nn B 44 n = nn A 44 n := by unfold nn; rw [e44]
        rw [q]
        exact Nat.pos_of_ne_zero (fun q2 => e (hle.mpr q2))
      obtain ⟨c, c1, c2, c3, c4, c5⟩ := PH_set3 (by omega) hm h1
      rw [c2]
      have hn3 : nn (au B 40 c 3) 40 c = 3 := nn_nI (n := 3) (au_hit B 40 c 3) (by decide)
      have er : ∀ k, k ≠ 40 → au B 40 c 3 k = B k := fun k hk => au_row B _ _ hk
      refine ⟨c5, fun s hs => ?_, fun k hk => (er k hk).trans (h3 k hk), fun s hs hs2 => ?_, fun g hg hm2 => ?_⟩
      · by_cases es : s = c
        · subst es
          exact ⟨fun q => absurd q (by omega), fun q => absurd q (by omega)⟩
        · exact chosen_same (er 26 (by decide)) (er 29 (by decide)) (er 30 (by decide)) (by rw [er 39 (by decide)]) (au_s B _ _ _ es) (h2 s hs)
      · by_cases es : s = c
        · subst es; omega
        · rw [nn_e (au_s B _ _ _ es)]; exact h4 s hs hs2
      · by_cases e2 : g = n
        · subst e2
          exact ⟨c, c1, by rw [e43] at c3; exact c3, hn3⟩
        · obtain ⟨s, s1, s2, s3⟩ := h5 g (by omega) hm2
          by_cases es : s = c
          · subst es; exact ⟨s, s1, s2, hn3⟩
          · exact ⟨s, s1, s2, by rw [nn_e (au_s B _ _ _ es)]; exact s3⟩
theorem WK_start {D A : Nat → Nat → Int32} {F : Nat → Nat} (h : CH D A F 4) : WK D (aHoldL A 8) F (fun _ => nn A 14 13) (fun _ => nn A 14 13) 0 := by
  obtain ⟨h1, h2, h3, h4, h5⟩ := hold_all h 8 (Nat.le_refl _)
  have n14 : nn (aHoldL A 8) 14 13 = nn A 14 13 := by unfold nn; rw [h3 14 (by decide)]
  refine ⟨h1, fun c hc => absurd hc (by omega), fun c _ hc => ⟨n14.symm, h2 c hc, fun t _ _ _ => n14.symm⟩, fun g hg hm => Or.inr ⟨n14.symm, ?_⟩⟩
  have e44 : aHoldL A 8 44 = A 44 := h3 44 (by decide)
  have e43 : aHoldL A 8 43 = A 43 := h3 43 (by decide)
  have q : nn (aHoldL A 8) 44 g = nn A 44 g := by unfold nn; rw [e44]
  obtain ⟨c, c1, c2, c3⟩ := h5 g hg (by omega)
  exact ⟨c, by omega, c1, by rw [e43]; exact c2, c3⟩
