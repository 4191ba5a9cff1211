/-! PURE: the class chooses. -/
/-- the class's data are those of the machine: of tasks, requests, cores, states, rows -/
def RT (σ : ks_S) (A : Nat → Nat → Int32) : Prop := ∀ t, t < 16 → σ 9 t 0 1 = A 26 t ∧ σ 9 t 0 0 = A 27 t ∧ σ 9 t 0 2 = A 28 t ∧ σ 9 t 0 4 = A 29 t ∧ σ 9 t 0 5 = A 30 t ∧ (σ 9 t 0 3 ≠ 2 → σ 9 t 0 6 = A 31 t) ∧ σ 9 t 0 7 = A 32 t ∧ σ 9 t 0 8 = A 35 t ∧ σ 9 t 0 10 = A 36 t ∧ σ 9 t 0 11 = A 37 t
def RQ (D : Nat → Nat → Int32) (σ : ks_S) (A : Nat → Nat → Int32) : Prop := ∀ t r, t < 16 → r < cn D t → (A 26 t ≠ 0 → σ 11 t r 6 = A 33 (6 * t + r)) ∧ (if σ 11 t r 5 = 0 then σ 11 t r 2 else σ 11 t r 5) = A 34 (6 * t + r) ∧ σ 11 t r 7 = A 38 (6 * t + r)
def RK (σ : ks_S) (A : Nat → Nat → Int32) : Prop := ∀ c, c < 4 → σ 6 0 0 c = A 39 c ∧ σ 7 0 0 c = A 42 c
def RS (D : Nat → Nat → Int32) (σ : ks_S) (A : Nat → Nat → Int32) : Prop := (∀ c, c < 4 → (A 39 c = -1 ∧ A 40 c = 0) ∨ ∃ t, t < 16 ∧ A 39 c = nI t ∧ σ 9 t 0 3 = A 40 c ∧ D 15 t = nI c) ∧ ∀ t, t < 16 → σ 9 t 0 3 = 1 ∨ ((σ 9 t 0 3 = 2 ∨ σ 9 t 0 3 = 3) ∧ (∃ c, c < 4 ∧ A 39 c = nI t) ∧ (σ 9 t 0 3 = 2 → A 31 t = A 33 (6 * t + nn A 30 t)))
def RW (σ : ks_S) (A : Nat → Nat → Int32) : Prop := ∀ g, g < 8 → σ 12 g 0 1 = A 44 g ∧ ∀ i, i < nn A 44 g → σ 13 g 0 i = A 43 (4 * g + i)
def sI (f : Nat → Int32) : Nat → Int32
  | 0 => 0
  | n + 1 => sI f n + f n
theorem sI_congr {f g : Nat → Int32} : ∀ {n : Nat}, (∀ i, i < n → f i = g i) → sI f n = sI g n := by
  intro n
  induction n with
  | zero => intro h; rfl
  | succ n ih => intro h; rw [sI, sI, ih (fun i hi => h i (by omega)), h n (by omega)]
theorem sI_one {f g : Nat → Int32} {v : Int32} : ∀ {n i : Nat}, i < n → (∀ j, j < n → j ≠ i → g j = f j) → g i = f i + v → sI g n = sI f n + v := by
  intro n
  induction n with
  | zero => intro i h; omega
  | succ n ih =>
    intro i h hj hv
    rw [sI, sI]
    by_cases h1 : i = n
    · subst h1
      rw [sI_congr (f := g) (g := f) (fun j hj2 => hj j (by omega) (by omega)), hv, Int32.add_assoc]
    · rw [ih (show i < n by omega) (fun j hj2 hne => hj j (by omega) hne) hv, hj n (by omega) (by omega), Int32.add_assoc, Int32.add_assoc, Int32.add_comm v]
def RB (σ : ks_S) (A : Nat → Nat → Int32) : Prop := sI (fun t => σ 9 t 0 9) 16 = A 45 0
def RZ (D : Nat → Nat → Int32) (σ : ks_S) : Prop := ∀ t r, t < 16 → r < 6 → cn D t ≤ r → σ 11 t r 5 = 0 ∧ σ 11 t r 7 = 0
def RC (D : Nat → Nat → Int32) (σ : ks_S) (A : Nat → Nat → Int32) : Prop := RT σ A ∧ RQ D σ A ∧ RK σ A ∧ RS D σ A ∧ RW σ A ∧ RB σ A ∧ RZ D σ
/-- what the class has laid down is D -/
def CSt (D : Nat → Nat → Int32) (σ : ks_S) : Prop := (∀ t, t < 16 → (σ 8 t 0 0 = 0 ∧ D 15 t = -1) ∨ (σ 8 t 0 0 ≠ 0 ∧ D 15 t ≠ -1 ∧ σ 8 t 0 1 = D 15 t ∧ σ 8 t 0 2 = D 16 t ∧ σ 8 t 0 3 = D 17 t ∧ σ 8 t 0 4 = D 18 t ∧ σ 8 t 0 5 = D 19 t ∧ σ 8 t 0 7 = D 20 t ∧ ∀ r, r < cn D t → σ 11 t r 0 = D 21 (6 * t + r) ∧ σ 11 t r 1 = D 22 (6 * t + r) ∧ σ 11 t r 2 = D 23 (6 * t + r) ∧ σ 11 t r 3 = D 24 (6 * t + r)))
def CGr (D : Nat → Nat → Int32) (σ : ks_S) : Prop := ∀ l, l < 8 → σ 3 0 0 l = D 25 l
/-- only what goes on has changed -/
def FC (σ σ' : ks_S) : Prop := (∀ k, k ≠ 6 → k ≠ 7 → k ≠ 9 → k ≠ 11 → k ≠ 12 → k ≠ 13 → σ' k = σ k) ∧ ∀ t r z, z < 5 → σ' 11 t r z = σ 11 t r z
theorem FC_refl (σ : ks_S) : FC σ σ := ⟨fun _ _ _ _ _ _ _ => rfl, fun _ _ _ _ => rfl⟩
theorem FC_trans {σ σ1 σ2 : ks_S} (h1 : FC σ σ1) (h2 : FC σ1 σ2) : FC σ σ2 := ⟨fun k a b c d e f => (h2.1 k a b c d e f).trans (h1.1 k a b c d e f), fun t r z hz => (h2.2 t r z hz).trans (h1.2 t r z hz)⟩
theorem FC_up {σ σ' : ks_S} {k i j z : Nat} {v : Int32} (hk : k = 6 ∨ k = 7 ∨ k = 9 ∨ k = 12 ∨ k = 13 ∨ (k = 11 ∧ 5 ≤ z)) (h : FC σ σ') : FC σ (ks_up σ' k i j z v) := by
  refine ⟨fun k' a b c d e f => ?_, fun t r z' hz => ?_⟩
  · rw [← h.1 k' a b c d e f]
    funext i' j' z'
    rw [ks_up_at, if_neg]
    rintro ⟨q, _⟩
    omega
  · rw [ks_up_at, if_neg, h.2 t r z' hz]
    rintro ⟨q, _, _, q2⟩
    omega
theorem CSt_FC {D : Nat → Nat → Int32} {σ σ' : ks_S} (hF : FC σ σ') (h : CSt D σ) : CSt D σ' := by
  have e8 : σ' 8 = σ 8 := hF.1 8 (by decide) (by decide) (by decide) (by decide) (by decide) (by decide)
  intro t ht
  rw [e8]
  rcases h t ht with q | ⟨a0, a1, a2, a3, a4, a5, a6, a7, a8⟩
  · exact Or.inl q
  · refine Or.inr ⟨a0, a1, a2, a3, a4, a5, a6, a7, fun r hr => ?_⟩
    rw [hF.2 t r 0 (by omega), hF.2 t r 1 (by omega), hF.2 t r 2 (by omega), hF.2 t r 3 (by omega)]
    exact a8 r hr
theorem CGr_FC {D : Nat → Nat → Int32} {σ σ' : ks_S} (hF : FC σ σ') (h : CGr D σ) : CGr D σ' := by
  have e3 : σ' 3 = σ 3 := hF.1 3 (by decide) (by decide) (by decide) (by decide) (by decide) (by decide)
  intro l hl
  rw [e3]
  exact h l hl
theorem cls_on {D : Nat → Nat → Int32} {σ : ks_S} {t c : Nat} (ht : t < 16) (hc : c < 4) (h : CSt D σ) : f_X3_isOn σ t (nI c) = some (if D 15 t = nI c then 1 else 0, σ) := by
  unfold f_X3_isOn
  rcases h t ht with ⟨q1, q2⟩ | ⟨a0, a1, a2, _⟩
  · rw [if_pos q1, if_neg (by rw [q2]; exact fun e => nI_n1 (by omega) e.symm)]
  · rw [if_neg a0, a2]
    by_cases e : D 15 t = nI c
    · rw [if_pos e, if_pos e]
    · rw [if_neg e, if_neg e]
theorem cls_top {N : Nat} {D A : Nat → Nat → Int32} {σ : ks_S} {c : Nat} (hc : c < 4) (h : CSt D σ) (hT : RT σ A) : ∀ m n i, i + m = 16 → m < n → f_X4_mostUrgentOn_4 N n σ (nI c) (aTopL D A c i) (nI i) = some (aTopL D A c 16, σ) := by
  intro m
  induction m with
  | zero =>
    intro n i hi hn
    obtain ⟨n, rfl⟩ : ∃ n', n = n' + 1 := ⟨n - 1, by omega⟩
    obtain rfl : i = 16 := by omega
    rw [f_X4_mostUrgentOn_4, if_pos e16]
  | succ m ih =>
    intro n i hi hn
    obtain ⟨n, rfl⟩ : ∃ n', n = n' + 1 := ⟨n - 1, by omega⟩
    have hi16 : i < 16 := by omega
    have hS := topL_spec D A c i (by omega)
    have hk := ih n (i + 1) (by omega) (by omega)
    rw [aTopL] at hk
    rw [f_X4_mostUrgentOn_4, if_neg (z16 hi16), if_pos (i16 hi16), cl (i := i) (by omega), cls_on hi16 hc h, Option.bind_some]
    dsimp only
    by_cases h1 : D 15 i = nI c
    · rw [if_pos h1] at hk
      rw [if_pos h1, if_neg (by decide), if_pos (i16 hi16), (hT i hi16).1]
      by_cases h0 : A 26 i = 0
      · rw [if_pos h0] at hk
        rw [if_pos h0, f_X4_mostUrgentOn_42, f_X4_mostUrgentOn_43, if_pos rfl, nI_1]
        exact hk
      · rw [if_neg h0] at hk
        rw [if_neg h0, f_X4_mostUrgentOn_43, if_neg (by decide), nI_1]
        rcases hS with ⟨t1, _⟩ | ⟨t, t1, t2, t3, t4, _⟩
        · rw [t1, if_pos (by decide)] at hk
          rw [t1, if_pos rfl]
          exact hk
        · rw [t2, if_neg (nI_pos (by omega)), cl (i := t) (by omega)] at hk
          rw [t2, if_neg (nI_n1 (by omega)), if_pos (i16 hi16), if_pos (i16 (by omega)), cl (i := t) (by omega), cl (i := i) (by omega)]
          have p : ∀ u, u < 16 → D 15 u = nI c → σ 8 u 0 2 = D 16 u := fun u hu hu2 => by
            rcases h u hu with ⟨_, q2⟩ | ⟨_, _, _, a3, _⟩
            · rw [hu2] at q2
              exact absurd q2 (nI_n1 (by omega))
            · exact a3
          rw [p i hi16 h1, p t (by omega) t4]
          by_cases h2 : D 16 i ≤ D 16 t
          · rw [if_pos h2] at hk ⊢
            exact hk
          · rw [if_neg h2] at hk ⊢
            exact hk
    · rw [if_neg h1]
      have hk : f_X4_mostUrgentOn_4 N n σ (nI c) (aTopL D A c i) (nI (i + 1)) = some (aTopL D A c 16, σ) := by
        by_cases h0 : A 26 i = 0
        · rw [if_pos h0] at hk
          exact hk
        · rw [if_neg h0, if_neg h1] at hk
          exact hk
      rw [if_pos rfl, f_X4_mostUrgentOn_42, f_X4_mostUrgentOn_43, if_pos rfl, nI_1]
      exact hk
theorem cls_next {σ : ks_S} {t r : Nat} (h : σ 9 t 0 5 = nI r) (hr : r < 6) : f_X3_nextRequest σ t = some ((t, r), σ) := by
  unfold f_X3_nextRequest
  rw [h, if_neg (show ¬ (5 : Int32) < nI r from nI_nlt (a := 5) (b := r) (by omega) (by decide)), if_pos (i6 hr), cl (by omega)]
theorem cls_choose {N : Nat} (hN : 16 < N) {D A : Nat → Nat → Int32} {σ : ks_S} {c : Nat} {F : Nat → Nat} (hc : c < 4) (hST : ST D) (hSG : SG D) (hC : CSt D σ) (hG : CGr D σ) (h : RC D σ A) (hP : PH D A F (fun _ => nn A 14 13) (fun _ => nn A 14 13)) (k : ks_S → Option ks_S) : ∃ σ', ((f_X4_isHeldFast σ (nI c)).bind fun (r4, s3) => (if r4 = 0 then ((f_X4_mostUrgentOn N s3 (nI c)).bind fun (r8, s7) => (if ks_in (nI c) 4 = true then ((f_X4_askIfDue ((ks_up s7 6 0 0 (nI c).toNatClampNeg r8)) (nI c)).bind fun s11 => k s11) else none)) else k s3)) = k σ' ∧ RC D σ' (aChoose D A c) ∧ FC σ σ' := by
  obtain ⟨hT, hQ, hK, hS, hW, hB, hZ⟩ := h
  obtain ⟨o40, hsec⟩ := hP.2.1 c hc
  have hheld : f_X4_isHeldFast σ (nI c) = some (if A 40 c ≤ 1 then 0 else 1, σ) := by
    unfold f_X4_isHeldFast
    rw [if_pos (i4 hc), cl (by omega), (hK c hc).1]
    rcases hS.1 c hc with ⟨q1, q2⟩ | ⟨t, ht, q1, q2, _⟩
    · rw [q1, if_pos rfl, q2, if_pos (by decide)]
    · rw [q1, if_neg (nI_n1 (by omega)), if_pos (i16 ht), cl (by omega), q2]
      rcases hS.2 t ht with z | ⟨z | z, _⟩
      · rw [z] at q2
        rw [← q2, if_pos rfl, if_pos (by decide)]
      · rw [z] at q2
        rw [← q2, if_neg (by decide), if_neg (by decide)]
      · rw [z] at q2
        rw [← q2, if_neg (by decide), if_neg (by decide)]
  rw [hheld, Option.bind_some]
  dsimp only
  unfold aChoose
  by_cases h1 : A 40 c ≤ 1
  · rw [if_pos h1, if_pos h1, if_pos rfl]
    have htop : f_X4_mostUrgentOn N σ (nI c) = some (aTopL D A c 16, σ) := cls_top hc hC hT 16 N 0 rfl hN
    rw [htop, Option.bind_some]
    dsimp only
    rw [if_pos (i4 hc), cl (by omega)]
    have hu40 : nn A 40 c ≤ 1 := by
      rw [o40.1, show (1 : Int32) = nI 1 from rfl, nI_leI (by have := o40.2; omega) (by decide)] at h1
      exact h1
    have s9 : ∀ v t z, ks_up σ 6 0 0 c v 9 t 0 z = σ 9 t 0 z := fun v t z => by rw [ks_up_at, if_neg (fun q => absurd q.1 (by decide))]
    have s8 : ∀ v t z, ks_up σ 6 0 0 c v 8 t 0 z = σ 8 t 0 z := fun v t z => by rw [ks_up_at, if_neg (fun q => absurd q.1 (by decide))]
    have s11 : ∀ v t r z, ks_up σ 6 0 0 c v 11 t r z = σ 11 t r z := fun v t r z => by rw [ks_up_at, if_neg (fun q => absurd q.1 (by decide))]
    have s12 : ∀ v t z, ks_up σ 6 0 0 c v 12 t 0 z = σ 12 t 0 z := fun v t z => by rw [ks_up_at, if_neg (fun q => absurd q.1 (by decide))]
    have s13 : ∀ v t z, ks_up σ 6 0 0 c v 13 t 0 z = σ 13 t 0 z := fun v t z => by rw [ks_up_at, if_neg (fun q => absurd q.1 (by decide))]
    have s7 : ∀ v t, ks_up σ 6 0 0 c v 7 0 0 t = σ 7 0 0 t := fun v t => by rw [ks_up_at, if_neg (fun q => absurd q.1 (by decide))]
    have s6 : ∀ v, ks_up σ 6 0 0 c v 6 0 0 c = v := fun v => ks_up_hit _ _ _ _ _ _
    have s6' : ∀ v s, s ≠ c → ks_up σ 6 0 0 c v 6 0 0 s = σ 6 0 0 s := fun v s hs => by rw [ks_up_at, if_neg (fun q => hs q.2.2.2)]
    have F1 : ∀ v, FC σ (ks_up σ 6 0 0 c v) := fun v => FC_up (Or.inl rfl) (FC_refl σ)
    -- a job that doesn't hold a core fast is plain
    have hst : ∀ t, t < 16 → D 15 t = nI c → σ 9 t 0 3 = 1 := fun t ht hd => by
      rcases hS.2 t ht with z | ⟨z, ⟨c', c1, c2⟩, _⟩
      · exact z
      · exfalso
        have hq : σ 9 t 0 3 = A 40 c' := by
          rcases hS.1 c' c1 with w | ⟨u, u1, u2, u3, _⟩
          · rw [c2] at w
            exact absurd w.1 (nI_n1 (by omega))
          · rw [nI_inj (by omega) (by omega) (c2.symm.trans u2)]
            exact u3
        have o := (hP.2.1 c' c1).1
        have hn : 1 < nn A 40 c' := by
          rcases z with z | z
          · rw [nn_nI (n := 2) (by rw [← hq]; exact z) (by decide)]; decide
          · rw [nn_nI (n := 3) (by rw [← hq]; exact z) (by decide)]; decide
        obtain ⟨u, hu⟩ := (hP.2.1 c' c1).2 hn
        have e : u = t := nI_inj (by have := hu.1; omega) (by omega) (hu.2.1.symm.trans c2)
        subst e
        have e : c' = c := nI_inj (by omega) (by omega) (hu.2.2.2.1.symm.trans hd)
        subst e
        omega
    have pr : ∀ k, k ∈ [14, 26, 27, 28, 29, 30, 31, 33, 43, 44] → aPick D A c k = A k := aPick_rows
    have po : ∀ s, s ≠ c → aPick D A c 39 s = A 39 s ∧ aPick D A c 40 s = A 40 s := aPick_other
    have p32 : aPick D A c 32 = A 32 := by unfold aPick; rw [au_row _ _ _ (by decide), au_row _ _ _ (by decide)]
    have prr : ∀ k, k ≠ 39 → k ≠ 40 → aPick D A c k = A k := fun k q1 q2 => by unfold aPick; rw [au_row _ _ _ q2, au_row _ _ _ q1]
    have p39 : aPick D A c 39 c = aTopL D A c 16 := by unfold aPick; rw [au_k _ _ _ _ (by decide), au_hit]
    have p40 : aPick D A c 40 c = if 0 ≤ aTopL D A c 16 then 1 else 0 := by unfold aPick; rw [au_hit]
    have hpick : RC D (ks_up σ 6 0 0 c (aTopL D A c 16)) (aPick D A c) := by
      refine ⟨fun t ht => ?_, fun t r ht hr => ?_, fun s hs => ?_, ⟨fun s hs => ?_, fun t ht => ?_⟩, fun g hg => ?_, ?_, fun t r ht hr hr2 => ?_⟩
      · simp only [s9]
        rw [prr 26 (by decide) (by decide), prr 27 (by decide) (by decide), prr 28 (by decide) (by decide), prr 29 (by decide) (by decide), prr 30 (by decide) (by decide), prr 31 (by decide) (by decide), prr 32 (by decide) (by decide), prr 35 (by decide) (by decide), prr 36 (by decide) (by decide), prr 37 (by decide) (by decide)]
        exact hT t ht
      · simp only [s11]
        rw [prr 26 (by decide) (by decide), prr 33 (by decide) (by decide), prr 34 (by decide) (by decide), prr 38 (by decide) (by decide)]
        exact hQ t r ht hr
      · rw [s7, prr 42 (by decide) (by decide)]
        by_cases e : s = c
        · subst e
          rw [s6, p39]
          exact ⟨rfl, (hK s hs).2⟩
        · rw [s6' _ s e, (po s e).1]
          exact hK s hs
      · simp only [s9]
        by_cases e : s = c
        · subst e
          rw [p39, p40]
          rcases topL_spec D A s 16 (by omega) with ⟨t1, _⟩ | ⟨t, t1, t2, t3, t4, _⟩
          · rw [t1]
            exact Or.inl ⟨rfl, if_neg (by decide)⟩
          · rw [t2, if_pos (nI_pos' (by omega))]
            exact Or.inr ⟨t, t1, rfl, hst t t1 t4, t4⟩
        · rw [(po s e).1, (po s e).2]
          exact hS.1 s hs
      · simp only [s9]
        rcases hS.2 t ht with z | ⟨z, ⟨c', c1, c2⟩, z2⟩
        · exact Or.inl z
        · refine Or.inr ⟨z, ?_, ?_⟩
          · by_cases e : c' = c
            · exfalso
              subst e
              have hq : σ 9 t 0 3 = A 40 c' := by
                rcases hS.1 c' c1 with w | ⟨u, u1, u2, u3, _⟩
                · rw [c2] at w
                  exact absurd w.1 (nI_n1 (by omega))
                · rw [nI_inj (by omega) (by omega) (c2.symm.trans u2)]
                  exact u3
              rw [hq] at z
              rcases z with z | z
              · rw [z] at h1
                exact absurd h1 (by decide)
              · rw [z] at h1
                exact absurd h1 (by decide)
            · exact ⟨c', c1, by rw [(po c' e).1]; exact c2⟩
          · unfold nn
            rw [prr 31 (by decide) (by decide), prr 33 (by decide) (by decide), prr 30 (by decide) (by decide)]
            exact z2
      · rw [s12]
        unfold nn
        rw [prr 44 (by decide) (by decide), prr 43 (by decide) (by decide)]
        simp only [s13]
        exact hW g hg
      · unfold RB at *
        simp only [s9]
        rw [prr 45 (by decide) (by decide)]
        exact hB
      · simp only [s11]
        exact hZ t r ht hr hr2
    have hplain : aTopL D A c 16 = -1 ∨ (∃ t, aTopL D A c 16 = nI t ∧ t < 16 ∧ aDue D A t = false) → f_X4_askIfDue (ks_up σ 6 0 0 c (aTopL D A c 16)) (nI c) = some (ks_up σ 6 0 0 c (aTopL D A c 16)) := fun hq => by
      unfold f_X4_askIfDue
      rw [if_pos (i4 hc), cl (by omega), s6]
      rcases hq with q | ⟨t, q1, q2, q3⟩
      · rw [if_pos q]
      · rw [if_neg (by rw [q1]; exact nI_n1 (by omega)), q1, if_pos (i16 q2), cl (by omega)]
        rcases topL_spec D A c 16 (by omega) with ⟨t1, _⟩ | ⟨u, t1, t2, t3, t4, _⟩
        · rw [q1] at t1
          exact absurd t1 (nI_n1 (by omega))
        · have e : u = t := nI_inj (by omega) (by omega) (t2.symm.trans q1)
          subst e
          have hask : f_X3_hasToAsk (ks_up σ 6 0 0 c (nI u)) u = some (0, ks_up σ 6 0 0 c (nI u)) := by
            unfold f_X3_hasToAsk
            rw [s8, s9]
            obtain ⟨j1, j2, j3, j4, j5, j6, j7, j8⟩ := hP.1 u q2 t3
            rcases hC u q2 with ⟨_, z⟩ | ⟨a0, a1, a2, a3, a4, a5, a6, a7, a8⟩
            · exact absurd z j1
            · obtain ⟨_, _, _, _, _, _, _, _, _, _, _, _, k9⟩ := core_of hST q2 j1
              have hcn6 : cn D u ≤ 6 := k9.2
              rw [a7, (hT u q2).2.2.2.2.1]
              by_cases hle : D 20 u ≤ A 30 u
              · rw [if_pos hle]
              · have hlt : nn A 30 u < cn D u := by
                  rw [show D 20 u = nI (cn D u) from k9.1, j5.1, nI_leI (by omega) (by have := j5.2; omega)] at hle
                  omega
                rw [if_neg hle, cls_next (r := nn A 30 u) (by rw [s9, (hT u q2).2.2.2.2.1]; exact j5.1) (by omega), Option.bind_some]
                dsimp only
                rw [s11, s9, (a8 _ hlt).1, (hT u q2).2.2.2.1, if_neg]
                intro e
                unfold aDue at q3
                rw [decide_eq_false_iff_not] at q3
                exact q3 ⟨by rw [← Int32.not_le]; exact hle, e.symm⟩
          rw [hask, Option.bind_some]
          dsimp only
          rw [if_pos rfl]
    rcases topL_spec D A c 16 (by omega) with ⟨t1, _⟩ | ⟨t, t1, t2, t3, t4, t5⟩
    · rw [hplain (Or.inl t1), Option.bind_some, if_neg (fun q => absurd q.1 (by rw [t1]; decide))]
      exact ⟨_, rfl, hpick, F1 _⟩
    · have e0 : (0 : Int32) ≤ aTopL D A c 16 := by rw [t2]; exact nI_pos' (by omega)
      have et : (aTopL D A c 16).toNatClampNeg = t := by rw [t2]; exact cl (by omega)
      rw [et]
      cases hdue : aDue D A t
      · rw [hplain (Or.inr ⟨t, t2, t1, hdue⟩), Option.bind_some, if_neg (fun q => absurd q.2 (by decide))]
        exact ⟨_, rfl, hpick, F1 _⟩
      · rw [if_pos ⟨e0, rfl⟩]
        obtain ⟨j1, j2, j3, j4, j5, j6, j7, j8⟩ := hP.1 t t1 t3
        obtain ⟨_, _, _, _, _, _, _, _, _, _, _, _, k9⟩ := core_of hST t1 j1
        have hcn6 : cn D t ≤ 6 := k9.2
        unfold aDue at hdue
        rw [decide_eq_true_eq] at hdue
        have hlt : nn A 30 t < cn D t := by
          have := hdue.1
          rw [show D 20 t = nI (cn D t) from k9.1, j5.1, nI_ltI (by have := j5.2; omega) (by omega)] at this
          exact this
        have hg := grp_lt hST hSG t1 hlt
        obtain ⟨u1, u2, u3, u4, u5⟩ := hST.2.1 t _ t1 hlt
        obtain ⟨w1, _⟩ := wait_bound hST hSG hc t1 hu40 t3 t4 hlt hP (fun _ => rfl)
        have w1 : nn A 44 (gr D t (nn A 30 t)) ≤ 3 := w1
        have ok44 := (hP.2.2.1 _ hg).1
        rcases hC t t1 with ⟨_, z⟩ | ⟨a0, a1, a2, a3, a4, a5, a6, a7, a8⟩
        · exact absurd z j1
        · -- the steps
          have hq30 : σ 9 t 0 5 = nI (nn A 30 t) := by rw [(hT t t1).2.2.2.2.1]; exact j5.1
          unfold f_X4_askIfDue
          rw [if_pos (i4 hc), cl (i := c) (by omega), s6, if_neg (by rw [t2]; exact nI_n1 (by omega)), t2, if_pos (i16 t1), cl (i := t) (by omega)]
          have hask : f_X3_hasToAsk (ks_up σ 6 0 0 c (nI t)) t = some (1, ks_up σ 6 0 0 c (nI t)) := by
            unfold f_X3_hasToAsk
            rw [s8, s9, a7, (hT t t1).2.2.2.2.1, if_neg (by rw [Int32.not_le]; exact hdue.1), cls_next (r := nn A 30 t) (by rw [s9]; exact hq30) (by omega), Option.bind_some]
            dsimp only
            rw [s11, s9, (a8 _ hlt).1, (hT t t1).2.2.2.1, if_pos hdue.2.symm]
          rw [hask, Option.bind_some]
          dsimp only
          rw [if_neg (by decide), if_pos (i16 t1), f_X3_startSpinning, Option.bind_some, if_pos (i16 t1), cls_next (r := nn A 30 t) (by rw [ks_up_at, if_neg (by omega), ks_up_at, if_neg (by omega), s9]; exact hq30) (by omega), Option.bind_some]
          dsimp only
          have h22 : ks_up (ks_up (ks_up σ 6 0 0 c (nI t)) 9 t 0 3 2) 9 t 0 7 0 11 t (nn A 30 t) 1 = nI (nn D 22 (6 * t + nn A 30 t)) := by
            rw [ks_up_at, if_neg (by omega), ks_up_at, if_neg (by omega), s11, (a8 _ hlt).2.1]
            exact u2.1
          have hrow : f_X4_rowOf (ks_up (ks_up (ks_up σ 6 0 0 c (nI t)) 9 t 0 3 2) 9 t 0 7 0) (ks_up (ks_up (ks_up σ 6 0 0 c (nI t)) 9 t 0 3 2) 9 t 0 7 0 11 t (nn A 30 t) 1) = some ((gr D t (nn A 30 t), 0), ks_up (ks_up (ks_up σ 6 0 0 c (nI t)) 9 t 0 3 2) 9 t 0 7 0) := by
            have hl7 := u2.2
            unfold f_X4_rowOf
            rw [h22, if_pos (i8 (by omega)), cl (i := nn D 22 (6 * t + nn A 30 t)) (by omega)]
            have h3 : ks_up (ks_up (ks_up σ 6 0 0 c (nI t)) 9 t 0 3 2) 9 t 0 7 0 3 0 0 (nn D 22 (6 * t + nn A 30 t)) = nI (gr D t (nn A 30 t)) := by
              rw [ks_up_at, if_neg (by omega), ks_up_at, if_neg (by omega), ks_up_at, if_neg (by omega), hG _ (by omega)]
              exact (hSG _ (by omega)).1
            rw [h3, if_pos (i8 hg), cl (i := gr D t (nn A 30 t)) (by omega)]
          rw [hrow, Option.bind_some]
          dsimp only
          have h12 : ks_up (ks_up (ks_up σ 6 0 0 c (nI t)) 9 t 0 3 2) 9 t 0 7 0 12 (gr D t (nn A 30 t)) 0 1 = nI (nn A 44 (gr D t (nn A 30 t))) := by
            rw [ks_up_at, if_neg (by omega), ks_up_at, if_neg (by omega), s12, (hW _ hg).1]
            exact ok44.1
          unfold f_X2_join
          rw [h12, if_neg (by rw [show (4 : Int32) = nI 4 from rfl]; exact nI_ge (by omega) (by decide)), if_pos (i4 (by omega)), cl (i := nn A 44 (gr D t (nn A 30 t))) (by omega), ks_up_at _ 13, if_neg (by omega), h12, Option.bind_some, Option.bind_some, nI_1]
          refine ⟨_, rfl, ?_, FC_up (by omega) (FC_up (by omega) (FC_up (by omega) (FC_up (by omega) (F1 _))))⟩
          -- what has become
          rw [t2] at hpick
          obtain ⟨pT, pQ, pK, pS, pW, pB, pZ⟩ := hpick
          have eg : aGrp D (aPick D A c) t = gr D t (nn A 30 t) := by
            unfold aGrp nn
            rw [prr 30 (by decide) (by decide)]
          have e44 : aPick D A c 44 (gr D t (nn A 30 t)) = nI (nn A 44 (gr D t (nn A 30 t))) := by
            rw [prr 44 (by decide) (by decide)]
            exact ok44.1
          have n44 : nn (aPick D A c) 44 (gr D t (nn A 30 t)) = nn A 44 (gr D t (nn A 30 t)) := by
            unfold nn
            rw [prr 44 (by decide) (by decide)]
          have e30 : nn (aPick D A c) 30 t = nn A 30 t := by
            unfold nn
            rw [prr 30 (by decide) (by decide)]
          have ej : aJoin D (aPick D A c) c t = au (au (au (au (au (aPick D A c) 43 (4 * gr D t (nn A 30 t) + nn A 44 (gr D t (nn A 30 t))) (nI c)) 44 (gr D t (nn A 30 t)) (nI (nn A 44 (gr D t (nn A 30 t)) + 1))) 40 c 2) 32 t 0) 31 t (aPick D A c 33 (6 * t + nn A 30 t)) := by
            unfold aJoin
            rw [eg, e44, n44, nI_1, e30]
          rw [ej]
          have P39 : aPick D A c 39 c = nI t := by rw [p39]; exact t2
          generalize aPick D A c = E at *
          generalize gr D t (nn A 30 t) = g at *
          generalize nn A 44 g = m at *
          refine ⟨fun v hv => ?_, fun v r hv hr => ?_, fun s hs => ?_, ⟨fun s hs => ?_, fun v hv => ?_⟩, fun g' hg' => ?_, ?_, fun v r hv hr hr2 => ?_⟩
          · have := pT v hv
            by_cases e : v = t
            · subst e
              simp [ks_up_at, au] at this ⊢
              refine ⟨this.1, this.2.1, this.2.2.1, this.2.2.2.1, this.2.2.2.2.1, this.2.2.2.2.2.2.2.1, this.2.2.2.2.2.2.2.2.1, this.2.2.2.2.2.2.2.2.2⟩
            · simp [ks_up_at, au, e] at this ⊢
              exact this
          · have := pQ v r hv hr
            simp [ks_up_at, au] at this ⊢
            exact this
          · have := pK s hs
            simp [ks_up_at, au] at this ⊢
            exact this
          · have := pS.1 s hs
            by_cases e : s = c
            · subst e
              refine Or.inr ⟨t, t1, ?_, ?_, t4⟩
              · simp [au]
                exact P39
              · simp [ks_up_at, au]
            · rcases this with ⟨z1, z2⟩ | ⟨v, v1, v2, v3, v4⟩
              · refine Or.inl ⟨?_, ?_⟩
                · simp [au]; exact z1
                · simp [au, e]; exact z2
              · have hvt : v ≠ t := fun e2 => by
                  subst e2
                  exact e (nI_inj (by omega) (by omega) (v4.symm.trans t4))
                refine Or.inr ⟨v, v1, ?_, ?_, v4⟩
                · simp [au]; exact v2
                · simp [ks_up_at, au, e, hvt] at v3 ⊢
                  exact v3
          · by_cases e : v = t
            · subst e
              refine Or.inr ⟨Or.inl (by simp [ks_up_at]), ⟨c, hc, by simp [au]; exact P39⟩, fun _ => ?_⟩
              have e30' : nn (au (au (au (au (au E 43 (4 * g + m) (nI c)) 44 g (nI (m + 1))) 40 c 2) 32 v 0) 31 v (E 33 (6 * v + nn A 30 v))) 30 v = nn A 30 v := by
                rw [← e30]
                unfold nn
                simp [au]
              rw [e30']
              simp [au]
            · rcases pS.2 v hv with z | ⟨z1, ⟨c', z2, z3⟩, z4⟩
              · refine Or.inl ?_
                simp [ks_up_at, e] at z ⊢
                exact z
              · refine Or.inr ⟨?_, ⟨c', z2, by simp [au]; exact z3⟩, fun q => ?_⟩
                · simp [ks_up_at, e] at z1 ⊢
                  exact z1
                · have e30' : nn (au (au (au (au (au E 43 (4 * g + m) (nI c)) 44 g (nI (m + 1))) 40 c 2) 32 t 0) 31 t (E 33 (6 * t + nn A 30 t))) 30 v = nn E 30 v := by
                    unfold nn
                    simp [au]
                  rw [e30']
                  simp [ks_up_at, e] at q z4
                  simp [au, e]
                  exact z4 q
          · by_cases e : g' = g
            · subst e
              have hn : nn (au (au (au (au (au E 43 (4 * g' + m) (nI c)) 44 g' (nI (m + 1))) 40 c 2) 32 t 0) 31 t (E 33 (6 * t + nn A 30 t))) 44 g' = m + 1 := nn_nI (by simp [au]) (by omega)
              refine ⟨by simp [ks_up_at, au], fun i hi => ?_⟩
              rw [hn] at hi
              by_cases e2 : i = m
              · subst e2
                simp [ks_up_at, au]
              · have := (pW g' hg').2 i (by omega)
                simp [ks_up_at, au, e2] at this ⊢
                exact this
            · have hn : nn (au (au (au (au (au E 43 (4 * g + m) (nI c)) 44 g (nI (m + 1))) 40 c 2) 32 t 0) 31 t (E 33 (6 * t + nn A 30 t))) 44 g' = nn E 44 g' := nn_e (by simp [au, e])
              have hw := pW g' hg'
              refine ⟨?_, fun i hi => ?_⟩
              · have := hw.1
                simp [ks_up_at, au, e] at this ⊢
                exact this
              · rw [hn] at hi
                have h4 : nn E 44 g' ≤ 4 := by
                  have := (hP.2.2.1 g' hg').1.2
                  unfold nn at this ⊢
                  rw [prr 44 (by decide) (by decide)]
                  exact this
                have hidx : 4 * g' + i ≠ 4 * g + m := by omega
                have := hw.2 i hi
                simp [ks_up_at, au, e, hidx] at this ⊢
                exact this
          · unfold RB at *
            simp [ks_up_at, au] at pB ⊢
            exact pB
          · have := pZ v r hv hr hr2
            simp [ks_up_at] at this ⊢
            exact this
  · rw [if_neg h1, if_neg h1, if_neg (by decide)]
    exact ⟨σ, rfl, ⟨hT, hQ, hK, hS, hW, hB, hZ⟩, FC_refl σ⟩
