/-! PURE: a core chooses. -/
def chosen (D A : Nat → Nat → Int32) (c : Nat) : Prop := (nn A 40 c = 1 → ∃ t, t < 16 ∧ A 39 c = nI t ∧ A 26 t ≠ 0 ∧ D 15 t = nI c ∧ (∀ v, v < 16 → A 26 v ≠ 0 → D 15 v = nI c → D 16 v ≤ D 16 t) ∧ (nn A 30 t < cn D t → nn A 29 t < af D t (nn A 30 t))) ∧ (nn A 40 c = 0 → A 39 c = -1 ∧ ∀ v, v < 16 → A 26 v ≠ 0 → D 15 v ≠ nI c)
def CH (D A : Nat → Nat → Int32) (F : Nat → Nat) (k : Nat) : Prop := PH D A F (fun _ => nn A 14 13) (fun _ => nn A 14 13) ∧ ∀ c, c < k → chosen D A c
def aPick (D A : Nat → Nat → Int32) (c : Nat) : Nat → Nat → Int32 := au (au A 39 c (aTopL D A c 16)) 40 c (if 0 ≤ aTopL D A c 16 then 1 else 0)
def aChoose (D A : Nat → Nat → Int32) (c : Nat) : Nat → Nat → Int32 := if A 40 c ≤ 1 then (if 0 ≤ aTopL D A c 16 ∧ aDue D A (aTopL D A c 16).toNatClampNeg = true then aJoin D (aPick D A c) c (aTopL D A c 16).toNatClampNeg else aPick D A c) else A
theorem au_row (A : Nat → Nat → Int32) {k k' : Nat} (s : Nat) (v : Int32) (h : k' ≠ k) : au A k s v k' = A k' := by
  funext s'
  exact au_k A s s' v h
theorem J_same {D A A' : Nat → Nat → Int32} {t : Nat} (e14 : A' 14 = A 14) (e26 : A' 26 = A 26) (e27 : A' 27 = A 27) (e28 : A' 28 = A 28) (e29 : A' 29 = A 29) (e30 : A' 30 = A 30) (e33 : A' 33 = A 33) (h : J D A t) : J D A' t := by
  unfold J ok nn at *
  rw [e14, e26, e27, e28, e29, e30, e33]
  exact h
theorem Sec_same {D A A' : Nat → Nat → Int32} {F F' : Nat → Nat} {c t : Nat} (e14 : A' 14 = A 14) (e26 : A' 26 = A 26) (e29 : A' 29 = A 29) (e30 : A' 30 = A 30) (e31 : A' 31 t = A 31 t) (e39 : A' 39 c = A 39 c) (e40 : A' 40 c = A 40 c) (e43 : ∀ k, k < nn A 44 (aGrp D A t) → A' 43 (4 * aGrp D A t + k) = A 43 (4 * aGrp D A t + k)) (e44 : nn A 44 (aGrp D A t) ≤ nn A' 44 (aGrp D A t)) (eF : F' c = F c) (h : Sec D A F c t) : Sec D A' F' c t := by
  have eg : aGrp D A' t = aGrp D A t := by unfold aGrp nn; rw [e30]
  obtain ⟨h1, h2, h3, h4, h5, h6, h7, h8, h9, k, h10, h11, h12⟩ := h
  refine ⟨h1, by rw [e39]; exact h2, by rw [e26]; exact h3, h4, ?_, ?_, ?_, ?_, ?_, k, ?_, ?_, ?_⟩
  · unfold nn; rw [e30]; exact h5
  · unfold nn; rw [e29, e30]; exact h6
  · unfold ok nn at *; rw [e31, e30]; exact h7
  · unfold nn at *; rw [e31]; exact h8
  · rw [eF]; unfold nn; rw [e14, e30]; exact h9
  · rw [eg]; omega
  · rw [eg, e43 k h10]; exact h11
  · unfold nn; rw [e40]; exact h12
theorem PH_plain {D A A' : Nat → Nat → Int32} {F u b : Nat → Nat} {c : Nat} (he : ∀ k, k ∈ [14, 26, 27, 28, 29, 30, 31, 33, 43, 44] → A' k = A k) (hs : ∀ s, s ≠ c → A' 39 s = A 39 s ∧ A' 40 s = A 40 s) (h0 : nn A 40 c ≤ 1) (h1 : ok A' 40 c 1) (h : PH D A F u b) : PH D A' F u b := by
  have e14 := he 14 (by decide)
  have e26 := he 26 (by decide)
  have e27 := he 27 (by decide)
  have e28 := he 28 (by decide)
  have e29 := he 29 (by decide)
  have e30 := he 30 (by decide)
  have e31 := he 31 (by decide)
  have e33 := he 33 (by decide)
  have e43 := he 43 (by decide)
  have e44 := he 44 (by decide)
  have eg : ∀ t, aGrp D A' t = aGrp D A t := fun t => by unfold aGrp nn; rw [e30]
  have ezb : ∀ s, zb A' F u s = zb A F u s := fun s => by
    unfold zb
    by_cases e : s = c
    · subst e
      rw [if_neg (by have := h1.2; omega), if_neg (by omega)]
    · have : nn A' 40 s = nn A 40 s := by unfold nn; rw [(hs s e).2]
      rw [this]
  have esc : ∀ t, scd D A' t = scd D A t := fun t => by
    unfold scd
    by_cases e : nn D 15 t = c
    · rw [e, if_neg (by have := h1.2; omega), if_neg (by omega)]
    · have : nn A' 40 (nn D 15 t) = nn A 40 (nn D 15 t) := congrArg Int32.toNatClampNeg (hs _ e).2
      rw [this, (hs _ e).1]
  have epp : ∀ t, pp D A' t = pp D A t := fun t => by unfold pp; rw [esc]; unfold nn; rw [e29, e30]
  refine ⟨fun t ht => J_same e14 e26 e27 e28 e29 e30 e33 (h.1 t ht), fun s hs4 => ?_, fun g hg => ?_, fun i hi => ?_⟩
  · by_cases e : s = c
    · subst e
      exact ⟨⟨h1.1, by have := h1.2; omega⟩, fun h2 => absurd h2 (by have := h1.2; omega)⟩
    · have e3 := hs s e
      have h2 := h.2.1 s hs4
      have e4 : nn A' 40 s = nn A 40 s := by unfold nn; rw [e3.2]
      refine ⟨by unfold ok; rw [e4, e3.2]; exact h2.1, fun h3 => ?_⟩
      obtain ⟨t, h4⟩ := h2.2 (by omega)
      exact ⟨t, Sec_same e14 e26 e29 e30 (by rw [e31]) e3.1 e3.2 (fun k _ => by rw [e43]) (by unfold nn; rw [e44]; exact Nat.le_refl _) rfl h4⟩
  · obtain ⟨g1, g2, g3⟩ := h.2.2.1 g hg
    refine ⟨by unfold ok nn at *; rw [e44]; exact g1, fun k hk => ?_, fun k q hk hq hkq => ?_⟩
    · have hk : k < nn A 44 g := by unfold nn at *; rw [e44] at hk; exact hk
      obtain ⟨s, t, q1, q2, q3, q4, q5, q6, q7, q8⟩ := g2 k hk
      have e : s ≠ c := fun e => by subst e; omega
      refine ⟨s, t, q1, q2, by rw [e43]; exact q3, by unfold nn at *; rw [(hs s e).2]; exact q4, by rw [(hs s e).1]; exact q5, by rw [eg]; exact q6, fun k0 => by unfold nn at *; rw [e31]; exact q7 k0, fun q hq => by unfold nn at *; rw [e31, e43]; exact q8 q hq⟩
    · unfold nn at *
      rw [e44] at hk hq
      rw [e43] at hkq
      exact g3 k q hk hq hkq
  · intro hi1 hi2
    rw [e26] at hi2
    obtain ⟨t0, m, R, r1, r2, r3, r4, r5⟩ := h.2.2.2 i hi hi1 hi2
    refine ⟨t0, m, R, r1, r2, by unfold nn at *; rw [e14]; exact r3, ?_, fun j hj hj2 => ?_⟩
    · rw [ezb]
      have : zs D A' i = zs D A i := by unfold zs; rw [e26]; exact sm_congr (fun j hj => by rw [epp])
      rw [this]
      exact r4
    · rw [e26, e27]
      unfold nn at *
      rw [e28]
      exact r5 j hj hj2
