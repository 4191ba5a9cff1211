/-! PURE: the one machine that class and reference both are. A k s: the value of the reference's array k at s (kind 14: its own fields). -/
def au (A : Nat → Nat → Int32) (k s : Nat) (v : Int32) : Nat → Nat → Int32 := fun k' s' => if k' = k ∧ s' = s then v else A k' s'
def nn (A : Nat → Nat → Int32) (k s : Nat) : Nat := (A k s).toNatClampNeg
/-- the value is a natural number that is at most b -/
def ok (A : Nat → Nat → Int32) (k s b : Nat) : Prop := A k s = nI (nn A k s) ∧ nn A k s ≤ b
theorem au_hit (A : Nat → Nat → Int32) (k s : Nat) (v : Int32) : au A k s v k s = v := by
  unfold au; rw [if_pos ⟨rfl, rfl⟩]
theorem au_k (A : Nat → Nat → Int32) {k k' : Nat} (s s' : Nat) (v : Int32) (h : k' ≠ k) : au A k s v k' s' = A k' s' := by
  unfold au; rw [if_neg (fun h1 => h h1.1)]
theorem au_s (A : Nat → Nat → Int32) {s s' : Nat} (k k' : Nat) (v : Int32) (h : s' ≠ s) : au A k s v k' s' = A k' s' := by
  unfold au; rw [if_neg (fun h1 => h h1.2)]
theorem au_at (A : Nat → Nat → Int32) (k s : Nat) (v : Int32) (s' : Nat) : au A k s v k s' = if s' = s then v else A k s' := by
  unfold au
  by_cases h : s' = s
  · rw [if_pos ⟨rfl, h⟩, if_pos h]
  · rw [if_neg (fun h1 => h h1.2), if_neg h]
theorem ok_nI {A : Nat → Nat → Int32} {k s n b : Nat} (h : A k s = nI n) (hb : n ≤ b) (hb2 : b < 2 ^ 31) : ok A k s b ∧ nn A k s = n := by
  have h1 : nn A k s = n := by unfold nn; rw [h]; exact nI_clamp (by omega)
  exact ⟨⟨by rw [h1]; exact h, by omega⟩, h1⟩
theorem ok_lt {A : Nat → Nat → Int32} {k s b k' s' b' : Nat} (h : ok A k s b) (h' : ok A k' s' b') (hb : b < 2 ^ 31) (hb' : b' < 2 ^ 31) : A k s < A k' s' ↔ nn A k s < nn A k' s' := by
  rw [h.1, h'.1, nI_ltI (by have := h.2; omega) (by have := h'.2; omega)]
theorem ok_le {A : Nat → Nat → Int32} {k s b k' s' b' : Nat} (h : ok A k s b) (h' : ok A k' s' b') (hb : b < 2 ^ 31) (hb' : b' < 2 ^ 31) : A k s ≤ A k' s' ↔ nn A k s ≤ nn A k' s' := by
  rw [h.1, h'.1, nI_leI (by have := h.2; omega) (by have := h'.2; omega)]
theorem ok_eq {A : Nat → Nat → Int32} {k s b k' s' b' : Nat} (h : ok A k s b) (h' : ok A k' s' b') (hb : b < 2 ^ 31) (hb' : b' < 2 ^ 31) : A k s = A k' s' ↔ nn A k s = nn A k' s' := by
  rw [h.1, h'.1, nI_eq (by have := h.2; omega) (by have := h'.2; omega)]
/-- what is laid down: D, the kinds 15 to 25 -/
def cn (D : Nat → Nat → Int32) (t : Nat) : Nat := nn D 20 t
def ou (D : Nat → Nat → Int32) (t r : Nat) : Bool := decide (D 24 (6 * t + r) = -1)
def ln (D : Nat → Nat → Int32) (t r : Nat) : Nat := nn D 23 (6 * t + r)
def af (D : Nat → Nat → Int32) (t r : Nat) : Nat := nn D 21 (6 * t + r)
def gr (D : Nat → Nat → Int32) (t r : Nat) : Nat := nn D 25 (nn D 22 (6 * t + r))
def lng (D : Nat → Nat → Int32) (c g : Nat) : Nat := mx (fun t => if D 15 t = nI c then mx (fun r => if ou D t r = true ∧ gr D t r = g then ln D t r else 0) (cn D t) else 0) 16
def spn (D : Nat → Nat → Int32) (t r : Nat) : Nat := sm (fun c => if D 15 t = nI c then 0 else lng D c (gr D t r)) 4
def qf (D : Nat → Nat → Int32) (t r0 : Nat) : Nat := sm (fun r => if r0 ≤ r ∧ ou D t r = true then ln D t r + spn D t r else 0) (cn D t)
def infl (D : Nat → Nat → Int32) (t : Nat) : Nat := nn D 19 t + qf D t 0
def hp (D : Nat → Nat → Int32) (i j : Nat) : Bool := decide (D 15 j = D 15 i ∧ nn D 16 i < nn D 16 j)
def blk (D : Nat → Nat → Int32) (i : Nat) : Nat := mx (fun t => if D 15 t = D 15 i ∧ nn D 16 t < nn D 16 i then mx (fun r => if ou D t r = true then ln D t r + spn D t r - 1 else 0) (cn D t) else 0) 16
def dem (D : Nat → Nat → Int32) (i x : Nat) : Nat := sm (fun j => if hp D i j = true then (x + nn D 17 j - 1) / nn D 17 j * infl D j else 0) 16
/-- D is well laid: a place for a task, a request, all together -/
def STt (D : Nat → Nat → Int32) (t : Nat) : Prop := (D 15 t = -1 ∧ D 20 t = nI 0) ∨ ((∃ c, c < 4 ∧ D 15 t = nI c) ∧ ok D 16 t 1000 ∧ ok D 17 t 10000 ∧ 1 ≤ nn D 17 t ∧ ok D 18 t 10000 ∧ 1 ≤ nn D 18 t ∧ nn D 18 t ≤ nn D 17 t ∧ ok D 19 t 1000 ∧ 1 ≤ nn D 19 t ∧ ok D 20 t 6)
def STr (D : Nat → Nat → Int32) (t r : Nat) : Prop := ok D 21 (6 * t + r) 1000 ∧ ok D 22 (6 * t + r) 7 ∧ ok D 23 (6 * t + r) 100 ∧ 1 ≤ ln D t r ∧ ((ou D t r = true ∧ af D t r ≤ nn D 19 t ∧ ∀ q, q < r → ou D t q = true → af D t q ≤ af D t r) ∨ (ou D t r = false ∧ ok D 24 (6 * t + r) 5 ∧ nn D 24 (6 * t + r) < r ∧ ou D t (nn D 24 (6 * t + r)) = true))
def ST (D : Nat → Nat → Int32) : Prop := (∀ t, t < 16 → STt D t) ∧ (∀ t r, t < 16 → r < cn D t → STr D t r) ∧ (∀ t u, t < 16 → u < 16 → t ≠ u → D 15 t = D 15 u → D 15 t ≠ -1 → nn D 16 t ≠ nn D 16 u)
/-- .. and its groups are numbers of locks -/
def SG (D : Nat → Nat → Int32) : Prop := ∀ l, l < 8 → ok D 25 l 7
/-- .. and its test is passed -/
def SR (D : Nat → Nat → Int32) : Prop := ∀ t, t < 16 → D 15 t ≠ -1 → ∃ R, R ≤ nn D 18 t ∧ R = blk D t + infl D t + dem D t R
/-- the machine -/
def aTopL (D A : Nat → Nat → Int32) (c : Nat) : Nat → Int32
  | 0 => -1
  | n + 1 => if A 26 n = 0 then aTopL D A c n else if D 15 n = nI c then (if aTopL D A c n < 0 then nI n else if D 16 n ≤ D 16 (aTopL D A c n).toNatClampNeg then aTopL D A c n else nI n) else aTopL D A c n
def aGrp (D A : Nat → Nat → Int32) (t : Nat) : Nat := gr D t (nn A 30 t)
def aDue (D A : Nat → Nat → Int32) (t : Nat) : Bool := decide (A 30 t < D 20 t ∧ A 29 t = D 21 (6 * t + nn A 30 t))
def aJoin (D A : Nat → Nat → Int32) (c t : Nat) : Nat → Nat → Int32 := au (au (au (au (au A 43 (4 * aGrp D A t + nn A 44 (aGrp D A t)) (nI c)) 44 (aGrp D A t) (A 44 (aGrp D A t) + 1)) 40 c 2) 32 t 0) 31 t (A 33 (6 * t + nn A 30 t))
/-- its state without what only tells -/
def J (D A : Nat → Nat → Int32) (t : Nat) : Prop := A 26 t ≠ 0 → D 15 t ≠ -1 ∧ A 27 t ≠ 0 ∧ ok A 28 t (nn A 14 13) ∧ ok A 29 t (nn D 19 t) ∧ ok A 30 t (cn D t) ∧ (nn A 30 t < cn D t → ou D t (nn A 30 t) = true ∧ nn A 29 t ≤ af D t (nn A 30 t)) ∧ (nn A 30 t = cn D t → nn A 29 t < nn D 19 t) ∧ ∀ r, r < cn D t → ok A 33 (6 * t + r) (ln D t r) ∧ 1 ≤ nn A 33 (6 * t + r)
def Sec (D A : Nat → Nat → Int32) (F : Nat → Nat) (c t : Nat) : Prop := t < 16 ∧ A 39 c = nI t ∧ A 26 t ≠ 0 ∧ D 15 t = nI c ∧ nn A 30 t < cn D t ∧ nn A 29 t = af D t (nn A 30 t) ∧ ok A 31 t (ln D t (nn A 30 t)) ∧ 1 ≤ nn A 31 t ∧ F c ≤ nn A 14 13 + ln D t (nn A 30 t) + spn D t (nn A 30 t) ∧ ∃ k, k < nn A 44 (aGrp D A t) ∧ A 43 (4 * aGrp D A t + k) = nI c ∧ (nn A 40 c = 3 → k = 0)
def Rw (D A : Nat → Nat → Int32) (F b : Nat → Nat) (g : Nat) : Prop := ok A 44 g 4 ∧ (∀ k, k < nn A 44 g → ∃ c t, c < 4 ∧ t < 16 ∧ A 43 (4 * g + k) = nI c ∧ 1 < nn A 40 c ∧ A 39 c = nI t ∧ aGrp D A t = g ∧ (k = 0 → F c = b g + nn A 31 t) ∧ ∀ q, k = q + 1 → F c = F (nn A 43 (4 * g + q)) + nn A 31 t) ∧ ∀ k q, k < nn A 44 g → q < nn A 44 g → A 43 (4 * g + k) = A 43 (4 * g + q) → k = q
def scd (D A : Nat → Nat → Int32) (t : Nat) : Nat := if 1 < nn A 40 (nn D 15 t) ∧ A 39 (nn D 15 t) = nI t then 1 else 0
def pp (D A : Nat → Nat → Int32) (t : Nat) : Nat := (nn D 19 t - nn A 29 t) + qf D t (nn A 30 t + scd D A t)
def HP (D : Nat → Nat → Int32) (i j : Nat) : Prop := hp D i j = true ∨ j = i
def zs (D A : Nat → Nat → Int32) (i : Nat) : Nat := sm (fun j => if (hp D i j = true ∨ j = i) ∧ A 26 j ≠ 0 then pp D A j else 0) 16
def zb (A : Nat → Nat → Int32) (F u : Nat → Nat) (c : Nat) : Nat := if 1 < nn A 40 c then F c else u c
/-- the window of task i is on: since t0, with m j beginnings of task j in it -/
def SI (D A : Nat → Nat → Int32) (F u : Nat → Nat) (i : Nat) : Prop := D 15 i ≠ -1 → (∃ j, j < 16 ∧ HP D i j ∧ A 26 j ≠ 0) → ∃ (t0 : Nat) (m : Nat → Nat) (R : Nat), R ≤ nn D 18 i ∧ R = blk D i + infl D i + dem D i R ∧ nn A 14 13 + 1 ≤ t0 + R ∧ zb A F u (nn D 15 i) + zs D A i ≤ t0 + blk D i + sm (fun j => if hp D i j = true ∨ j = i then m j * infl D j else 0) 16 ∧ ∀ j, j < 16 → HP D i j → (m j = 0 ∧ A 26 j = 0) ∨ (1 ≤ m j ∧ A 27 j ≠ 0 ∧ t0 + (m j - 1) * nn D 17 j ≤ nn A 28 j)
/-- all of it, at a stage of a tick -/
def PH (D A : Nat → Nat → Int32) (F u b : Nat → Nat) : Prop := (∀ t, t < 16 → J D A t) ∧ (∀ c, c < 4 → ok A 40 c 3 ∧ (1 < nn A 40 c → ∃ t, Sec D A F c t)) ∧ (∀ g, g < 8 → Rw D A F b g) ∧ ∀ i, i < 16 → SI D A F u i
/-- between two ticks -/
def BT (D A : Nat → Nat → Int32) (F : Nat → Nat) : Prop := PH D A F (fun _ => nn A 14 13) (fun _ => nn A 14 13) ∧ ∀ c t, c < 4 → 1 < nn A 40 c → A 39 c = nI t → t < 16 → F c + 1 ≤ nn A 14 13 + ln D t (nn A 30 t) + spn D t (nn A 30 t)
theorem topL_spec (D A : Nat → Nat → Int32) (c : Nat) : ∀ n, n ≤ 16 → (aTopL D A c n = -1 ∧ ∀ t, t < n → A 26 t ≠ 0 → D 15 t ≠ nI c) ∨ (∃ t, t < n ∧ aTopL D A c n = nI t ∧ A 26 t ≠ 0 ∧ D 15 t = nI c ∧ ∀ u, u < n → A 26 u ≠ 0 → D 15 u = nI c → D 16 u ≤ D 16 t) := by
  intro n
  induction n with
  | zero => intro _; exact Or.inl ⟨rfl, fun t h => absurd h (by omega)⟩
  | succ n ih =>
    intro hn
    rw [aTopL]
    by_cases h0 : A 26 n = 0
    · rw [if_pos h0]
      rcases ih (by omega) with ⟨h1, h2⟩ | ⟨t, h1, h2, h3, h4, h5⟩
      · refine Or.inl ⟨h1, fun t ht ho => ?_⟩
        by_cases e : t = n
        · subst e; exact absurd h0 ho
        · exact h2 t (by omega) ho
      · refine Or.inr ⟨t, by omega, h2, h3, h4, fun u hu ho => ?_⟩
        by_cases e : u = n
        · subst e; exact absurd h0 ho
        · exact h5 u (by omega) ho
    · rw [if_neg h0]
      by_cases hc : D 15 n = nI c
      · rw [if_pos hc]
        rcases ih (by omega) with ⟨h1, h2⟩ | ⟨t, h1, h2, h3, h4, h5⟩
        · rw [if_pos (by rw [h1]; decide)]
          refine Or.inr ⟨n, by omega, rfl, h0, hc, fun u hu ho hu2 => ?_⟩
          by_cases e : u = n
          · subst e; exact Int32.le_refl _
          · exact absurd hu2 (h2 u (by omega) ho)
        · rw [h2, if_neg (nI_pos (by omega)), cl (by omega)]
          by_cases hp : D 16 n ≤ D 16 t
          · rw [if_pos hp]
            refine Or.inr ⟨t, by omega, rfl, h3, h4, fun u hu ho hu2 => ?_⟩
            by_cases e : u = n
            · subst e; exact hp
            · exact h5 u (by omega) ho hu2
          · rw [if_neg hp]
            refine Or.inr ⟨n, by omega, rfl, h0, hc, fun u hu ho hu2 => ?_⟩
            by_cases e : u = n
            · subst e; exact Int32.le_refl _
            · have h6 := h5 u (by omega) ho hu2
              rw [Int32.le_iff_toInt_le] at h6 hp ⊢
              omega
      · rw [if_neg hc]
        rcases ih (by omega) with ⟨h1, h2⟩ | ⟨t, h1, h2, h3, h4, h5⟩
        · refine Or.inl ⟨h1, fun t ht ho => ?_⟩
          by_cases e : t = n
          · subst e; exact hc
          · exact h2 t (by omega) ho
        · refine Or.inr ⟨t, by omega, h2, h3, h4, fun u hu ho hu2 => ?_⟩
          by_cases e : u = n
          · subst e; exact absurd hu2 hc
          · exact h5 u (by omega) ho hu2
