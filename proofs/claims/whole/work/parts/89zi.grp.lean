/-! PURE: groups. -/
def Edg (D : Nat → Nat → Int32) (h : Nat → Int32) : Prop := ∀ t r, t < 16 → r < cn D t → ou D t r = false → h (nn D 22 (6 * t + r)) = h (nn D 22 (6 * t + nn D 24 (6 * t + r)))
def GB (lab : Nat → Int32) : Prop := ∀ x, x < 8 → ∃ y, y ≤ x ∧ lab x = nI y
def GC (D : Nat → Nat → Int32) (lab : Nat → Int32) : Prop := ∀ h : Nat → Int32, Edg D h → ∀ x, x < 8 → h (lab x).toNatClampNeg = h x
def GL (D : Nat → Nat → Int32) (lab : Nat → Int32) : Prop := Edg D lab ∧ GB lab ∧ GC D lab
theorem GL_uniq {D : Nat → Nat → Int32} {l1 l2 : Nat → Int32} (h1 : GL D l1) (h2 : GL D l2) : ∀ x, x < 8 → l1 x = l2 x := by
  intro x hx
  obtain ⟨a, a1, a2⟩ := h1.2.1 x hx
  obtain ⟨b, b1, b2⟩ := h2.2.1 x hx
  have c1 := h2.2.2 l1 h1.1 x hx
  have c2 := h1.2.2 l2 h2.1 x hx
  rw [b2, cl (by omega)] at c1
  rw [a2, cl (by omega)] at c2
  obtain ⟨a', a3, a4⟩ := h1.2.1 b (by omega)
  obtain ⟨b', b3, b4⟩ := h2.2.1 a (by omega)
  rw [a4, a2] at c1
  rw [b4, b2] at c2
  have e1 := nI_inj (by omega) (by omega) c1
  have e2 := nI_inj (by omega) (by omega) c2
  have : a = b := by omega
  rw [a2, b2, this]
/-- labels greater become least -/
def jn (lab : Nat → Int32) (p q : Int32) : Nat → Int32 := fun x => if lab x = p then q else lab x
theorem jn_GB {lab : Nat → Int32} {p q : Nat} (h : GB lab) (hq : q ≤ p) (hp : p < 8) : GB (jn lab (nI p) (nI q)) := by
  intro x hx
  obtain ⟨y, y1, y2⟩ := h x hx
  unfold jn
  by_cases e : lab x = nI p
  · rw [if_pos e]
    have := nI_inj (by omega) (by omega) (y2.symm.trans e)
    exact ⟨q, by omega, rfl⟩
  · rw [if_neg e]
    exact ⟨y, y1, y2⟩
theorem jn_GC {D : Nat → Nat → Int32} {lab : Nat → Int32} {p q : Nat} (h : GC D lab) (hp : p < 8) (hq : q < 8) (hpq : ∀ f : Nat → Int32, Edg D f → f q = f p) : GC D (jn lab (nI p) (nI q)) := by
  intro f hf x hx
  unfold jn
  by_cases e : lab x = nI p
  · rw [if_pos e, cl (by omega), hpq f hf]
    have := h f hf x hx
    rw [e, cl (by omega)] at this
    exact this
  · rw [if_neg e]
    exact h f hf x hx
theorem jn_eq {lab : Nat → Int32} {p q : Int32} {x y : Nat} (h : lab x = lab y) : jn lab p q x = jn lab p q y := by
  unfold jn
  rw [h]
/-- the class joins two groups -/
def gm (σ : ks_S) (p q : Int32) (n : Nat) : ks_S := fun k i j z => if k = 3 ∧ i = 0 ∧ j = 0 ∧ z < n ∧ σ 3 0 0 z = p then q else σ k i j z
theorem gm_loop {N : Nat} {σ : ks_S} {p q : Int32} : ∀ m n i, i + m = 8 → m < n → f_X4_joinGroups_36 N n (gm σ p q i) q p (nI i) = some (gm σ p q 8) := by
  intro m
  induction m with
  | zero =>
    intro n i hi hn
    obtain ⟨n, rfl⟩ : ∃ n', n = n' + 1 := ⟨n - 1, by omega⟩
    obtain rfl : i = 8 := by omega
    rw [f_X4_joinGroups_36, if_pos e8]
  | succ m ih =>
    intro n i hi hn
    obtain ⟨n, rfl⟩ : ∃ n', n = n' + 1 := ⟨n - 1, by omega⟩
    have hi8 : i < 8 := by omega
    have e : gm σ p q i 3 0 0 i = σ 3 0 0 i := by unfold gm; rw [if_neg (by omega)]
    have hk := ih n (i + 1) (by omega) (by omega)
    rw [f_X4_joinGroups_36, if_neg (z8 hi8), if_pos (i8 hi8), cl (i := i) (by omega), e, nI_1]
    by_cases h : σ 3 0 0 i = p
    · rw [if_pos h, if_pos (i8 hi8)]
      have e2 : ks_up (gm σ p q i) 3 0 0 i q = gm σ p q (i + 1) := by
        funext k a b z
        rw [ks_up_at]
        unfold gm
        by_cases e3 : k = 3 ∧ a = 0 ∧ b = 0 ∧ z = i
        · obtain ⟨rfl, rfl, rfl, rfl⟩ := e3
          rw [if_pos ⟨rfl, rfl, rfl, rfl⟩, if_pos ⟨rfl, rfl, rfl, by omega, h⟩]
        · rw [if_neg e3]
          by_cases e4 : k = 3 ∧ a = 0 ∧ b = 0 ∧ z < i ∧ σ 3 0 0 z = p
          · rw [if_pos e4, if_pos ⟨e4.1, e4.2.1, e4.2.2.1, by omega, e4.2.2.2.2⟩]
          · rw [if_neg e4, if_neg]
            rintro ⟨w1, w2, w3, w4, w5⟩
            by_cases w6 : z = i
            · exact e3 ⟨w1, w2, w3, w6⟩
            · exact e4 ⟨w1, w2, w3, by omega, w5⟩
      rw [e2]
      exact hk
    · rw [if_neg h]
      have e2 : gm σ p q i = gm σ p q (i + 1) := by
        funext k a b z
        unfold gm
        by_cases e4 : k = 3 ∧ a = 0 ∧ b = 0 ∧ z < i ∧ σ 3 0 0 z = p
        · rw [if_pos e4, if_pos ⟨e4.1, e4.2.1, e4.2.2.1, by omega, e4.2.2.2.2⟩]
        · rw [if_neg e4, if_neg]
          rintro ⟨w1, w2, w3, w4, w5⟩
          by_cases w6 : z = i
          · subst w6; exact h w5
          · exact e4 ⟨w1, w2, w3, by omega, w5⟩
      rw [e2]
      exact hk
theorem gm_0 (σ : ks_S) (p q : Int32) : gm σ p q 0 = σ := by
  funext k a b z
  unfold gm
  rw [if_neg (by omega)]
/-- only the groups of the class differ -/
def F3 (σ σ' : ks_S) : Prop := ∀ k i j z, ¬ (k = 3 ∧ i = 0 ∧ j = 0 ∧ z < 8) → σ' k i j z = σ k i j z
theorem cls_joinG {N : Nat} (hN : 16 < N) {D : Nat → Nat → Int32} {σ : ks_S} {a b : Nat} (ha : a < 8) (hb : b < 8) (hB : GB (fun x => σ 3 0 0 x)) (hC : GC D (fun x => σ 3 0 0 x)) (he : ∀ f : Nat → Int32, Edg D f → f a = f b) : ∃ σ', f_X4_joinGroups N σ (nI a) (nI b) = some σ' ∧ F3 σ σ' ∧ GB (fun x => σ' 3 0 0 x) ∧ GC D (fun x => σ' 3 0 0 x) ∧ σ' 3 0 0 a = σ' 3 0 0 b ∧ ∀ x y, x < 8 → y < 8 → σ 3 0 0 x = σ 3 0 0 y → σ' 3 0 0 x = σ' 3 0 0 y := by
  obtain ⟨p, p1, p2⟩ := hB a ha
  obtain ⟨q, q1, q2⟩ := hB b hb
  dsimp only at p2 q2
  have hpq : ∀ f : Nat → Int32, Edg D f → f p = f q := fun f hf => by
    have h1 := hC f hf a ha
    have h2 := hC f hf b hb
    dsimp only at h1 h2
    rw [p2, cl (by omega)] at h1
    rw [q2, cl (by omega)] at h2
    rw [h1, h2]
    exact he f hf
  have gen : ∀ g l : Nat, g < 8 → l ≤ g → (∀ f : Nat → Int32, Edg D f → f l = f g) → ((p = g ∧ q = l) ∨ (p = l ∧ q = g)) → ∃ σ', f_X4_joinGroups_36 N N σ (nI l) (nI g) 0 = some σ' ∧ F3 σ σ' ∧ GB (fun x => σ' 3 0 0 x) ∧ GC D (fun x => σ' 3 0 0 x) ∧ σ' 3 0 0 a = σ' 3 0 0 b ∧ ∀ x y, x < 8 → y < 8 → σ 3 0 0 x = σ 3 0 0 y → σ' 3 0 0 x = σ' 3 0 0 y := fun g l hg hl hf hgl => by
    have hk := gm_loop (N := N) (σ := σ) (p := nI g) (q := nI l) 8 N 0 rfl (by omega)
    rw [gm_0] at hk
    have hj : ∀ x, x < 8 → gm σ (nI g) (nI l) 8 3 0 0 x = jn (fun x => σ 3 0 0 x) (nI g) (nI l) x := fun x hx => by
      unfold gm jn
      by_cases e : σ 3 0 0 x = nI g
      · rw [if_pos ⟨rfl, rfl, rfl, hx, e⟩, if_pos e]
      · rw [if_neg (fun w => e w.2.2.2.2), if_neg e]
    refine ⟨gm σ (nI g) (nI l) 8, hk, fun k i j z h => ?_, fun x hx => ?_, fun f hf2 x hx => ?_, ?_, fun x y hx hy h => ?_⟩
    · unfold gm
      rw [if_neg (fun w => h ⟨w.1, w.2.1, w.2.2.1, w.2.2.2.1⟩)]
    · obtain ⟨y, y1, y2⟩ := jn_GB hB hl hg x hx
      exact ⟨y, y1, by dsimp only; rw [hj x hx]; exact y2⟩
    · have := jn_GC hC hg (by omega) hf f hf2 x hx
      dsimp only
      rw [hj x hx]
      exact this
    · rw [hj a ha, hj b hb]
      unfold jn
      simp only [p2, q2]
      rcases hgl with ⟨rfl, rfl⟩ | ⟨rfl, rfl⟩
      · rw [if_pos rfl]
        split <;> rfl
      · rw [if_pos rfl]
        split <;> rfl
    · rw [hj x hx, hj y hy]
      exact jn_eq h
  unfold f_X4_joinGroups
  rw [if_pos (i8 ha), if_pos (i8 hb), if_pos (i8 ha), if_pos (i8 hb), cl (i := a) (by omega), cl (i := b) (by omega), p2, q2]
  by_cases h : q < p
  · rw [if_pos (nI_lt h (by omega)), if_neg (nI_nlt (by omega) (by omega))]
    exact gen p q (by omega) (by omega) (fun f hf => (hpq f hf).symm) (Or.inl ⟨rfl, rfl⟩)
  · rw [if_neg (nI_nlt (by omega) (by omega))]
    by_cases h2 : p < q
    · rw [if_pos (nI_lt h2 (by omega))]
      exact gen q p (by omega) (by omega) (fun f hf => hpq f hf) (Or.inr ⟨rfl, rfl⟩)
    · rw [if_neg (nI_nlt (by omega) (by omega))]
      have e : p = q := by omega
      subst e
      exact gen p p (by omega) (by omega) (fun f hf => rfl) (Or.inl ⟨rfl, rfl⟩)
def GP (D : Nat → Nat → Int32) (σ0 σ : ks_S) (t r : Nat) : Prop := F3 σ0 σ ∧ GB (fun x => σ 3 0 0 x) ∧ GC D (fun x => σ 3 0 0 x) ∧ ∀ t' r', t' < 16 → r' < cn D t' → ou D t' r' = false → (t' < t ∨ t' = t ∧ r' < r) → σ 3 0 0 (nn D 22 (6 * t' + r')) = σ 3 0 0 (nn D 22 (6 * t' + nn D 24 (6 * t' + r')))
theorem CSt_F3 {D : Nat → Nat → Int32} {σ σ' : ks_S} (hF : F3 σ σ') (h : CSt D σ) : CSt D σ' := by
  intro t ht
  have e8 : ∀ z, σ' 8 t 0 z = σ 8 t 0 z := fun z => hF 8 t 0 z (by omega)
  have e11 : ∀ r z, σ' 11 t r z = σ 11 t r z := fun r z => hF 11 t r z (by omega)
  simp only [e8, e11]
  exact h t ht
theorem cn6 {D : Nat → Nat → Int32} {t : Nat} (hST : ST D) (ht : t < 16) : ok D 20 t 6 := by
  rcases hST.1 t ht with ⟨_, w⟩ | ⟨_, _, _, _, _, _, _, _, _, w⟩
  · exact (ok_nI w (by omega) (by decide)).1
  · exact w
theorem cn0 {D : Nat → Nat → Int32} {t : Nat} (hST : ST D) (ht : t < 16) (h : D 15 t = -1) : cn D t = 0 := by
  rcases hST.1 t ht with ⟨_, w⟩ | ⟨⟨c, c1, c2⟩, _⟩
  · exact nn_nI w (by decide)
  · rw [h] at c2
    exact absurd c2.symm (nI_n1 (by omega))
theorem ou_f {D : Nat → Nat → Int32} {t r : Nat} (h : ¬ D 24 (6 * t + r) = -1) : ou D t r = false := decide_eq_false h
theorem cls_form1 {N : Nat} (hN : 16 < N) {D : Nat → Nat → Int32} {σ0 : ks_S} {t : Nat} (hST : ST D) (hC : CSt D σ0) (ht : t < 16) {k2 : ks_S → Int32 → Option ks_S} {k31 : ks_S → Int32 → Int32 → Option ks_S} : ∀ m n r σ, r + m = cn D t → m < n → GP D σ0 σ t r → ∃ σ', f_X4_formGroups_44 N k2 k31 n σ 16 (nI t) t (nI r) = k31 σ' 16 (nI (t + 1)) ∧ GP D σ0 σ' (t + 1) 0 := by
  have hend : ∀ r σ, cn D t ≤ r → GP D σ0 σ t r → GP D σ0 σ (t + 1) 0 := fun r σ hr h => ⟨h.1, h.2.1, h.2.2.1, fun t' r' h1 h2 h3 h4 => h.2.2.2 t' r' h1 h2 h3 (by
    by_cases e : t' = t
    · subst e; exact Or.inr ⟨rfl, by omega⟩
    · exact Or.inl (by omega))⟩
  have hcn6 : cn D t ≤ 6 := (cn6 hST ht).2
  have h20 : D 20 t = nI (cn D t) := (cn6 hST ht).1
  intro m
  induction m with
  | zero =>
    intro n r σ hr hn h
    obtain ⟨n, rfl⟩ : ∃ n', n = n' + 1 := ⟨n - 1, by omega⟩
    rw [f_X4_formGroups_44, nI_1]
    rcases CSt_F3 h.1 hC t ht with ⟨q1, q2⟩ | ⟨a0, a1, a2, a3, a4, a5, a6, a7, a8⟩
    · rw [if_pos q1]
      exact ⟨σ, rfl, hend r σ (by omega) h⟩
    · rw [if_neg a0, a7, h20, if_pos (nI_le (by omega) (by omega))]
      exact ⟨σ, rfl, hend r σ (by omega) h⟩
  | succ m ih =>
    intro n r σ hr hn h
    obtain ⟨n, rfl⟩ : ∃ n', n = n' + 1 := ⟨n - 1, by omega⟩
    rw [f_X4_formGroups_44, nI_1]
    rcases CSt_F3 h.1 hC t ht with ⟨q1, q2⟩ | ⟨a0, a1, a2, a3, a4, a5, a6, a7, a8⟩
    · rw [if_pos q1]
      exact ⟨σ, rfl, hend r σ (by rw [cn0 hST ht q2]; omega) h⟩
    · have hlt : r < cn D t := by omega
      obtain ⟨u1, u2, u3, u4, u5⟩ := hST.2.1 t r ht hlt
      rw [if_neg a0, a7, h20, if_neg (nI_ge hlt (by omega)), if_pos (i6 (by omega)), cl (i := r) (by omega), f_X1_isOuter, (a8 r hlt).2.2.2]
      by_cases e : D 24 (6 * t + r) = -1
      · rw [if_pos e, Option.bind_some]
        dsimp only
        rw [if_neg (by decide), nI_1]
        refine ih n (r + 1) σ (by omega) (by omega) ⟨h.1, h.2.1, h.2.2.1, fun t' r' h1 h2 h3 h4 => ?_⟩
        by_cases e2 : t' = t ∧ r' = r
        · obtain ⟨rfl, rfl⟩ := e2
          unfold ou at h3
          rw [decide_eq_false_iff_not] at h3
          exact absurd e h3
        · exact h.2.2.2 t' r' h1 h2 h3 (by omega)
      · have ho := ou_f e
        rcases u5 with ⟨w, _⟩ | ⟨_, w1, w2, w3⟩
        · rw [ho] at w
          exact absurd w (by decide)
        · have hin : nn D 24 (6 * t + r) < cn D t := by omega
          obtain ⟨v1, v2, _⟩ := hST.2.1 t _ ht hin
          have hl1 := u2.2
          have hl2 := v2.2
          rw [if_neg e, Option.bind_some]
          dsimp only
          rw [if_pos rfl, (a8 r hlt).2.2.2, w1.1, if_pos (i6 (by have := w1.2; omega)), cl (i := nn D 24 (6 * t + r)) (by have := w1.2; omega), (a8 r hlt).2.1, (a8 _ hin).2.1, u2.1, v2.1]
          obtain ⟨σ1, j1, j2, j3, j4, j5, j6⟩ := cls_joinG hN (D := D) (σ := σ) (a := nn D 22 (6 * t + r)) (b := nn D 22 (6 * t + nn D 24 (6 * t + r))) (by omega) (by omega) h.2.1 h.2.2.1 (fun f hf => hf t r ht hlt ho)
          rw [j1, Option.bind_some, nI_1]
          refine ih n (r + 1) σ1 (by omega) (by omega) ⟨fun k i j z hz => (j2 k i j z hz).trans (h.1 k i j z hz), j3, j4, fun t' r' h1 h2 h3 h4 => ?_⟩
          by_cases e2 : t' = t ∧ r' = r
          · obtain ⟨rfl, rfl⟩ := e2
            exact j5
          · obtain ⟨x1, x2, x3, x4, x5⟩ := hST.2.1 t' r' h1 h2
            rcases x5 with ⟨w, _⟩ | ⟨_, y1, y2, y3⟩
            · rw [h3] at w
              exact absurd w (by decide)
            · have x6 := (hST.2.1 t' _ h1 (show nn D 24 (6 * t' + r') < cn D t' by omega)).2.1.2
              have x7 := x2.2
              exact j6 _ _ (by omega) (by omega) (h.2.2.2 t' r' h1 h2 h3 (by omega))
theorem cls_form2 {N : Nat} (hN : 16 < N) {D : Nat → Nat → Int32} {σ0 : ks_S} (hST : ST D) (hC : CSt D σ0) {k2 : ks_S → Int32 → Option ks_S} : ∀ m n t σ, t + m = 16 → m < n → GP D σ0 σ t 0 → ∃ σ', f_X4_formGroups_31 N k2 n σ 16 (nI t) = some σ' ∧ GP D σ0 σ' 16 0 := by
  intro m
  induction m with
  | zero =>
    intro n t σ ht hn h
    obtain ⟨n, rfl⟩ : ∃ n', n = n' + 1 := ⟨n - 1, by omega⟩
    obtain rfl : t = 16 := by omega
    exact ⟨σ, by rw [f_X4_formGroups_31, if_pos e16], h⟩
  | succ m ih =>
    intro n t σ ht hn h
    obtain ⟨n, rfl⟩ : ∃ n', n = n' + 1 := ⟨n - 1, by omega⟩
    have ht16 : t < 16 := by omega
    rw [f_X4_formGroups_31, if_neg (z16 ht16), if_pos (i16 ht16), cl (i := t) (by omega)]
    have hcn6 : cn D t ≤ 6 := (cn6 hST ht16).2
    obtain ⟨σ1, a1, a2⟩ := cls_form1 hN hST hC ht16 (k2 := k2) (k31 := f_X4_formGroups_31 N k2 n) (cn D t) N 0 σ (by omega) (by omega) h
    obtain ⟨σ2, b1, b2⟩ := ih n (t + 1) σ1 (by omega) (by omega) a2
    exact ⟨σ2, a1.trans b1, b2⟩
def g0 (σ : ks_S) (n : Nat) : ks_S := fun k i j z => if k = 3 ∧ i = 0 ∧ j = 0 ∧ z < n then nI z else σ k i j z
theorem cls_form0 {N : Nat} {σ : ks_S} : ∀ m n i, i + m = 8 → m < n → ∃ k, f_X4_formGroups_2 N n (g0 σ i) (nI i) = f_X4_formGroups_31 N k N (g0 σ 8) 16 (nI 0) := by
  intro m
  induction m with
  | zero =>
    intro n i hi hn
    obtain ⟨n, rfl⟩ : ∃ n', n = n' + 1 := ⟨n - 1, by omega⟩
    obtain rfl : i = 8 := by omega
    exact ⟨_, by rw [f_X4_formGroups_2, if_pos e8]; rfl⟩
  | succ m ih =>
    intro n i hi hn
    obtain ⟨n, rfl⟩ : ∃ n', n = n' + 1 := ⟨n - 1, by omega⟩
    have hi8 : i < 8 := by omega
    obtain ⟨k, hk⟩ := ih n (i + 1) (by omega) (by omega)
    refine ⟨k, ?_⟩
    rw [f_X4_formGroups_2, if_neg (z8 hi8), if_pos (i8 hi8), cl (i := i) (by omega), nI_1, ← hk]
    have e : ks_up (g0 σ i) 3 0 0 i (nI i) = g0 σ (i + 1) := by
      funext k a b z
      rw [ks_up_at]
      unfold g0
      by_cases e3 : k = 3 ∧ a = 0 ∧ b = 0 ∧ z = i
      · obtain ⟨rfl, rfl, rfl, rfl⟩ := e3
        rw [if_pos ⟨rfl, rfl, rfl, rfl⟩, if_pos ⟨rfl, rfl, rfl, by omega⟩]
      · rw [if_neg e3]
        by_cases e4 : k = 3 ∧ a = 0 ∧ b = 0 ∧ z < i
        · rw [if_pos e4, if_pos (by omega)]
        · rw [if_neg e4, if_neg (by omega)]
    rw [e]
theorem cls_groups {N : Nat} (hN : 16 < N) {D : Nat → Nat → Int32} {σ : ks_S} (hST : ST D) (hC : CSt D σ) : ∃ σ', f_X4_formGroups N σ = some σ' ∧ F3 σ σ' ∧ GL D (fun x => σ' 3 0 0 x) := by
  have e0 : g0 σ 0 = σ := by
    funext k a b z
    unfold g0
    rw [if_neg (by omega)]
  obtain ⟨k, hk⟩ := cls_form0 (N := N) (σ := σ) 8 N 0 rfl (by omega)
  rw [e0] at hk
  have e3 : ∀ x, x < 8 → g0 σ 8 3 0 0 x = nI x := fun x hx => by
    unfold g0
    rw [if_pos ⟨rfl, rfl, rfl, hx⟩]
  have h0 : GP D σ (g0 σ 8) 0 0 := by
    refine ⟨fun k i j z h => ?_, fun x hx => ⟨x, Nat.le_refl _, e3 x hx⟩, fun f hf x hx => ?_, fun t' r' _ _ _ h => by omega⟩
    · unfold g0
      rw [if_neg h]
    · dsimp only
      rw [e3 x hx, cl (by omega)]
  obtain ⟨σ', a1, a2⟩ := cls_form2 hN hST hC (k2 := k) 16 N 0 (g0 σ 8) rfl (by omega) h0
  refine ⟨σ', ?_, a2.1, fun t r ht hr ho => a2.2.2.2 t r ht hr ho (Or.inl ht), a2.2.1, a2.2.2.1⟩
  have : f_X4_formGroups N σ = f_X4_formGroups_2 N N σ (nI 0) := rfl
  rw [this, hk, a1]
