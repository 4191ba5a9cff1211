/-! PURE: the law. -/
/-- a call, and then on -/
def OPL (w : Nat) (k : ks_S → Int64 → Int32 → Option Bool) (p : Nat) (x : Option Bool) : Prop := ∃ σ' o', x = k σ' o' (nI (p + 7)) ∧ INV (w + 1) σ'
theorem law_0 {N w L p : Nat} {xs : Nat → Int32} {k : ks_S → Int64 → Int32 → Option Bool} {σ : ks_S} {o : Int64} (hN : 100001 < N) (hL : L ≤ 3584) (hp : p + 7 ≤ L) (h : INV w σ) : OPL w k p (f_law_0 N xs L k σ o (nI p)) := by
  have c : ∀ a, a < 7 → ks_in (nI (p + a)) L = true := fun a ha => ks_in_nI (by omega) (by omega)
  obtain ⟨code, s1, o1, s2, h1, h2, h3, h4⟩ := op_task (N := N) (by omega) o (xs (nI (p + 1)).toNatClampNeg) (xs (nI (p + 2)).toNatClampNeg) (xs (nI (p + 3)).toNatClampNeg) (xs (nI (p + 4)).toNatClampNeg) (xs (nI (p + 5)).toNatClampNeg) (xs (nI (p + 6)).toNatClampNeg) h
  refine ⟨s2, o1, ?_, INV_mono (by omega) h4⟩
  unfold f_law_0
  rw [show nI p + 1 = nI (p + 1) from nI_add p 1, show nI p + 2 = nI (p + 2) from nI_add p 2, show nI p + 3 = nI (p + 3) from nI_add p 3, show nI p + 4 = nI (p + 4) from nI_add p 4, show nI p + 5 = nI (p + 5) from nI_add p 5, show nI p + 6 = nI (p + 6) from nI_add p 6, show nI p + 7 = nI (p + 7) from nI_add p 7]
  simp only [c 1 (by decide), c 2 (by decide), c 3 (by decide), c 4 (by decide), c 5 (by decide), c 6 (by decide), ↓reduceIte, h1, Option.bind_some, h2, f_X5_thrown, h3]
theorem law_1 {N w L p : Nat} {xs : Nat → Int32} {k : ks_S → Int64 → Int32 → Option Bool} {σ : ks_S} {o : Int64} (hN : 100001 < N) (hL : L ≤ 3584) (hp : p + 7 ≤ L) (h : INV w σ) : OPL w k p (f_law_1 N xs L k σ o (nI p)) := by
  have c : ∀ a, a < 7 → ks_in (nI (p + a)) L = true := fun a ha => ks_in_nI (by omega) (by omega)
  obtain ⟨code, s1, o1, r, s2, h1, h2, h3, h4, h5⟩ := op_request (N := N) (by omega) o (xs (nI (p + 1)).toNatClampNeg) (xs (nI (p + 2)).toNatClampNeg) (xs (nI (p + 3)).toNatClampNeg) (xs (nI (p + 4)).toNatClampNeg) (xs (nI (p + 5)).toNatClampNeg) h
  refine ⟨s2, o1, ?_, INV_mono (by omega) h5⟩
  unfold f_law_1
  rw [show nI p + 1 = nI (p + 1) from nI_add p 1, show nI p + 2 = nI (p + 2) from nI_add p 2, show nI p + 3 = nI (p + 3) from nI_add p 3, show nI p + 4 = nI (p + 4) from nI_add p 4, show nI p + 5 = nI (p + 5) from nI_add p 5, show nI p + 7 = nI (p + 7) from nI_add p 7]
  simp only [c 1 (by decide), c 2 (by decide), c 3 (by decide), c 4 (by decide), c 5 (by decide), ↓reduceIte, h1, Option.bind_some, h2, f_X5_thrown, h3]
  by_cases e : code = 0
  · rw [if_pos e, if_pos ((lg_cmp_eq _ _).mpr (h4 e))]
  · rw [if_neg e]
theorem law_2 {N w L p : Nat} {xs : Nat → Int32} {k : ks_S → Int64 → Int32 → Option Bool} {σ : ks_S} {o : Int64} (hN : 100001 < N) (hL : L ≤ 3584) (hp : p + 7 ≤ L) (h : INV w σ) : OPL w k p (f_law_2 N xs L k σ o (nI p)) := by
  have c : ∀ a, a < 7 → ks_in (nI (p + a)) L = true := fun a ha => ks_in_nI (by omega) (by omega)
  obtain ⟨code, s1, o1, s2, h1, h2, h3, h4⟩ := op_take (N := N) (by omega) o (xs (nI (p + 1)).toNatClampNeg) h
  refine ⟨s2, o1, ?_, INV_mono (by omega) h4⟩
  unfold f_law_2
  rw [show nI p + 1 = nI (p + 1) from nI_add p 1, show nI p + 7 = nI (p + 7) from nI_add p 7]
  simp only [c 1 (by decide), ↓reduceIte, h1, Option.bind_some, h2, f_X5_thrown, h3]
theorem law_3 {N w L p : Nat} {xs : Nat → Int32} {k : ks_S → Int64 → Int32 → Option Bool} {σ : ks_S} {o : Int64} (hN : 100001 < N) (hL : L ≤ 3584) (hp : p + 7 ≤ L) (h : INV w σ) : OPL w k p (f_law_3 N xs L k σ o (nI p)) := by
  have c : ∀ a, a < 7 → ks_in (nI (p + a)) L = true := fun a ha => ks_in_nI (by omega) (by omega)
  obtain ⟨code, s1, o1, r, s2, h1, h2, h3, h4, h5⟩ := op_group (N := N) (by omega) o (xs (nI (p + 1)).toNatClampNeg) h
  refine ⟨s2, o1, ?_, INV_mono (by omega) h5⟩
  unfold f_law_3
  rw [show nI p + 1 = nI (p + 1) from nI_add p 1, show nI p + 7 = nI (p + 7) from nI_add p 7]
  simp only [c 1 (by decide), ↓reduceIte, h1, Option.bind_some, h2, f_X5_thrown, h3]
  by_cases e : code = 0
  · rw [if_pos e, if_pos ((lg_cmp_eq _ _).mpr (h4 e))]
  · rw [if_neg e]
theorem law_4 {N w L p : Nat} {xs : Nat → Int32} {k : ks_S → Int64 → Int32 → Option Bool} {σ : ks_S} {o : Int64} (hN : 100001 < N) (hL : L ≤ 3584) (hp : p + 7 ≤ L) (h : INV w σ) : OPL w k p (f_law_4 N xs L k σ o (nI p)) := by
  have c : ∀ a, a < 7 → ks_in (nI (p + a)) L = true := fun a ha => ks_in_nI (by omega) (by omega)
  obtain ⟨code, s1, o1, r, s2, h1, h2, h3, h4, h5⟩ := op_spin (N := N) (by omega) o (xs (nI (p + 1)).toNatClampNeg) (xs (nI (p + 2)).toNatClampNeg) h
  refine ⟨s2, o1, ?_, INV_mono (by omega) h5⟩
  unfold f_law_4
  rw [show nI p + 1 = nI (p + 1) from nI_add p 1, show nI p + 2 = nI (p + 2) from nI_add p 2, show nI p + 7 = nI (p + 7) from nI_add p 7]
  simp only [c 1 (by decide), c 2 (by decide), ↓reduceIte, h1, Option.bind_some, h2, f_X5_thrown, h3]
  by_cases e : code = 0
  · rw [if_pos e, if_pos ((lg_cmp_eq _ _).mpr (h4 e))]
  · rw [if_neg e]
theorem law_5 {N w L p : Nat} {xs : Nat → Int32} {k : ks_S → Int64 → Int32 → Option Bool} {σ : ks_S} {o : Int64} (hN : 100001 < N) (hL : L ≤ 3584) (hp : p + 7 ≤ L) (h : INV w σ) : OPL w k p (f_law_5 N xs L k σ o (nI p)) := by
  have c : ∀ a, a < 7 → ks_in (nI (p + a)) L = true := fun a ha => ks_in_nI (by omega) (by omega)
  obtain ⟨code, s1, o1, r, s2, h1, h2, h3, h4, h5⟩ := op_bound (N := N) (by omega) o (xs (nI (p + 1)).toNatClampNeg) (xs (nI (p + 2)).toNatClampNeg) h
  refine ⟨s2, o1, ?_, INV_mono (by omega) h5⟩
  unfold f_law_5
  rw [show nI p + 1 = nI (p + 1) from nI_add p 1, show nI p + 2 = nI (p + 2) from nI_add p 2, show nI p + 7 = nI (p + 7) from nI_add p 7]
  simp only [c 1 (by decide), c 2 (by decide), ↓reduceIte, h1, Option.bind_some, h2, f_X5_thrown, h3]
  by_cases e : code = 0
  · rw [if_pos e, if_pos ((lg_cmp_eq _ _).mpr (h4 e))]
  · rw [if_neg e]
theorem law_6 {N w L p : Nat} {xs : Nat → Int32} {k : ks_S → Int64 → Int32 → Option Bool} {σ : ks_S} {o : Int64} (hN : 100001 < N) (h : INV w σ) : OPL w k p (f_law_6 N xs L k σ o (nI p)) := by
  obtain ⟨code, s1, o1, r, s2, h1, h2, h3, h4, h5⟩ := op_seal (N := N) (by omega) o h
  refine ⟨s2, o1, ?_, INV_mono (by omega) h5⟩
  unfold f_law_6
  rw [show nI p + 7 = nI (p + 7) from nI_add p 7]
  simp only [↓reduceIte, h1, Option.bind_some, h2, f_X5_thrown, h3]
  by_cases e : code = 0
  · rw [if_pos e, if_pos ((lg_cmp_eq _ _).mpr (h4 e))]
  · rw [if_neg e]
theorem law_7 {N w L p : Nat} {xs : Nat → Int32} {k : ks_S → Int64 → Int32 → Option Bool} {σ : ks_S} {o : Int64} (hN : 100001 < N) (h : INV w σ) : OPL w k p (f_law_7 N xs L k σ o (nI p)) := by
  obtain ⟨code, s1, o1, s2, h1, h2, h3, h4⟩ := op_unseal (N := N) (by omega) o h
  refine ⟨s2, o1, ?_, INV_mono (by omega) h4⟩
  unfold f_law_7
  rw [show nI p + 7 = nI (p + 7) from nI_add p 7]
  simp only [↓reduceIte, h1, Option.bind_some, h2, f_X5_thrown, h3]
theorem law_8 {N w L p : Nat} {xs : Nat → Int32} {k : ks_S → Int64 → Int32 → Option Bool} {σ : ks_S} {o : Int64} (hN : 100001 < N) (hL : L ≤ 3584) (hp : p + 7 ≤ L) (h : INV w σ) : OPL w k p (f_law_8 N xs L k σ o (nI p)) := by
  have c : ∀ a, a < 7 → ks_in (nI (p + a)) L = true := fun a ha => ks_in_nI (by omega) (by omega)
  obtain ⟨code, s1, o1, r, s2, h1, h2, h3, h4, h5⟩ := op_arrive (N := N) (by omega) o (xs (nI (p + 1)).toNatClampNeg) h
  refine ⟨s2, o1, ?_, INV_mono (by omega) h5⟩
  unfold f_law_8
  rw [show nI p + 1 = nI (p + 1) from nI_add p 1, show nI p + 7 = nI (p + 7) from nI_add p 7]
  simp only [c 1 (by decide), ↓reduceIte, h1, Option.bind_some, h2, f_X5_thrown, h3]
  by_cases e : code = 0
  · rw [if_pos e]
    rcases h4 e with ⟨rfl, rfl⟩ | ⟨rfl, rfl⟩
    · rw [if_pos rfl, if_pos ((lg_cmp_eq _ _).mpr rfl)]
    · rw [if_neg (by decide), if_pos ((lg_cmp_eq _ _).mpr rfl)]
  · rw [if_neg e]
theorem law_9 {N w L p : Nat} {xs : Nat → Int32} {k : ks_S → Int64 → Int32 → Option Bool} {σ : ks_S} {o : Int64} (hL : L ≤ 3584) (hp : p + 7 ≤ L) (h : INV w σ) : OPL w k p (f_law_9 N xs L k σ o (nI p)) := by
  have c : ∀ a, a < 7 → ks_in (nI (p + a)) L = true := fun a ha => ks_in_nI (by omega) (by omega)
  obtain ⟨code, s1, o1, s2, h1, h2, h3, h4⟩ := op_shorten o (xs (nI (p + 1)).toNatClampNeg) (xs (nI (p + 2)).toNatClampNeg) (xs (nI (p + 3)).toNatClampNeg) h
  refine ⟨s2, o1, ?_, INV_mono (by omega) h4⟩
  unfold f_law_9
  rw [show nI p + 1 = nI (p + 1) from nI_add p 1, show nI p + 2 = nI (p + 2) from nI_add p 2, show nI p + 3 = nI (p + 3) from nI_add p 3, show nI p + 7 = nI (p + 7) from nI_add p 7]
  simp only [c 1 (by decide), c 2 (by decide), c 3 (by decide), ↓reduceIte, h1, Option.bind_some, h2, f_X5_thrown, h3]
theorem law_10 {N w L p : Nat} {xs : Nat → Int32} {k : ks_S → Int64 → Int32 → Option Bool} {σ : ks_S} {o : Int64} (hN : 100001 < N) (hL : L ≤ 3584) (hp : p + 7 ≤ L) (hw : w ≤ 512) (h : INV w σ) : OPL w k p (f_law_10 N xs L k σ o (nI p)) := by
  have c : ∀ a, a < 7 → ks_in (nI (p + a)) L = true := fun a ha => ks_in_nI (by omega) (by omega)
  obtain ⟨code, s1, o1, r, s2, h1, h2, h3, h4, h5⟩ := op_tick (N := N) (by omega) hw o (xs (nI (p + 1)).toNatClampNeg) h
  refine ⟨s2, o1, ?_, h5⟩
  unfold f_law_10
  rw [show nI p + 1 = nI (p + 1) from nI_add p 1, show nI p + 7 = nI (p + 7) from nI_add p 7]
  simp only [c 1 (by decide), ↓reduceIte, h1, Option.bind_some, h2, f_X5_thrown, h3]
  by_cases e : code = 0
  · rw [if_pos e, if_pos ((lg_cmp_eq _ _).mpr (h4 e))]
  · rw [if_neg e]
theorem law_11 {N w L p : Nat} {xs : Nat → Int32} {k : ks_S → Int64 → Int32 → Option Bool} {σ : ks_S} {o : Int64} (hL : L ≤ 3584) (hp : p + 7 ≤ L) (h : INV w σ) : OPL w k p (f_law_11 N xs L k σ o (nI p)) := by
  have c : ∀ a, a < 7 → ks_in (nI (p + a)) L = true := fun a ha => ks_in_nI (by omega) (by omega)
  obtain ⟨code, s1, o1, r, s2, h1, h2, h3, h4, h5⟩ := op_core o (xs (nI (p + 1)).toNatClampNeg) (xs (nI (p + 2)).toNatClampNeg) h
  refine ⟨s2, o1, ?_, INV_mono (by omega) h5⟩
  unfold f_law_11
  rw [show nI p + 1 = nI (p + 1) from nI_add p 1, show nI p + 2 = nI (p + 2) from nI_add p 2, show nI p + 7 = nI (p + 7) from nI_add p 7]
  simp only [c 1 (by decide), c 2 (by decide), ↓reduceIte, h1, Option.bind_some, h2, f_X5_thrown, h3]
  by_cases e : code = 0
  · rw [if_pos e, if_pos ((lg_cmp_eq _ _).mpr (h4 e))]
  · rw [if_neg e]
theorem law_12 {N w L p : Nat} {xs : Nat → Int32} {k : ks_S → Int64 → Int32 → Option Bool} {σ : ks_S} {o : Int64} (hN : 100001 < N) (hL : L ≤ 3584) (hp : p + 7 ≤ L) (h : INV w σ) : OPL w k p (f_law_12 N xs L k σ o (nI p)) := by
  have c : ∀ a, a < 7 → ks_in (nI (p + a)) L = true := fun a ha => ks_in_nI (by omega) (by omega)
  obtain ⟨code, s1, o1, r, s2, h1, h2, h3, h4, h5⟩ := op_row (N := N) (by omega) o (xs (nI (p + 1)).toNatClampNeg) (xs (nI (p + 2)).toNatClampNeg) h
  refine ⟨s2, o1, ?_, INV_mono (by omega) h5⟩
  unfold f_law_12
  rw [show nI p + 1 = nI (p + 1) from nI_add p 1, show nI p + 2 = nI (p + 2) from nI_add p 2, show nI p + 7 = nI (p + 7) from nI_add p 7]
  simp only [c 1 (by decide), c 2 (by decide), ↓reduceIte, h1, Option.bind_some, h2, f_X5_thrown, h3]
  by_cases e : code = 0
  · rw [if_pos e, if_pos ((lg_cmp_eq _ _).mpr (h4 e))]
  · rw [if_neg e]
theorem law_13 {N w L p : Nat} {xs : Nat → Int32} {k : ks_S → Int64 → Int32 → Option Bool} {σ : ks_S} {o : Int64} (hL : L ≤ 3584) (hp : p + 7 ≤ L) (h : INV w σ) : OPL w k p (f_law_13 N xs L k σ o (nI p)) := by
  have c : ∀ a, a < 7 → ks_in (nI (p + a)) L = true := fun a ha => ks_in_nI (by omega) (by omega)
  obtain ⟨code, s1, o1, r, s2, h1, h2, h3, h4, h5⟩ := op_jobs o (xs (nI (p + 1)).toNatClampNeg) (xs (nI (p + 2)).toNatClampNeg) h
  refine ⟨s2, o1, ?_, INV_mono (by omega) h5⟩
  unfold f_law_13
  rw [show nI p + 1 = nI (p + 1) from nI_add p 1, show nI p + 2 = nI (p + 2) from nI_add p 2, show nI p + 7 = nI (p + 7) from nI_add p 7]
  simp only [c 1 (by decide), c 2 (by decide), ↓reduceIte, h1, Option.bind_some, h2, f_X5_thrown, h3]
  by_cases e : code = 0
  · rw [if_pos e, if_pos ((lg_cmp_eq _ _).mpr (h4 e))]
  · rw [if_neg e]
theorem law_14 {N w L p : Nat} {xs : Nat → Int32} {k : ks_S → Int64 → Int32 → Option Bool} {σ : ks_S} {o : Int64} (hL : L ≤ 3584) (hp : p + 7 ≤ L) (h : INV w σ) : OPL w k p (f_law_14 N xs L k σ o (nI p)) := by
  have c : ∀ a, a < 7 → ks_in (nI (p + a)) L = true := fun a ha => ks_in_nI (by omega) (by omega)
  obtain ⟨code, s1, o1, r, s2, h1, h2, h3, h4, h5⟩ := op_spun o (xs (nI (p + 1)).toNatClampNeg) (xs (nI (p + 2)).toNatClampNeg) h
  refine ⟨s2, o1, ?_, INV_mono (by omega) h5⟩
  unfold f_law_14
  rw [show nI p + 1 = nI (p + 1) from nI_add p 1, show nI p + 2 = nI (p + 2) from nI_add p 2, show nI p + 7 = nI (p + 7) from nI_add p 7]
  simp only [c 1 (by decide), c 2 (by decide), ↓reduceIte, h1, Option.bind_some, h2, f_X5_thrown, h3]
  by_cases e : code = 0
  · rw [if_pos e, if_pos ((lg_cmp_eq _ _).mpr (h4 e))]
  · rw [if_neg e]
theorem law_15 {N w L p : Nat} {xs : Nat → Int32} {k : ks_S → Int64 → Int32 → Option Bool} {σ : ks_S} {o : Int64} (hN : 100001 < N) (h : INV w σ) : OPL w k p (f_law_15 N xs L k σ o (nI p)) := by
  obtain ⟨v, h1, h2⟩ := op_late (N := N) (by omega) h
  refine ⟨ks_up σ 14 0 0 0 0, o, ?_, INV_mono (by omega) (INV_thr 0 h)⟩
  unfold f_law_15
  rw [show nI p + 7 = nI (p + 7) from nI_add p 7]
  simp only [↓reduceIte, h1, Option.bind_some, h2]
theorem law_go {N w L p : Nat} {xs : Nat → Int32} {k : ks_S → Int64 → Int32 → Option Bool} {σ : ks_S} {o : Int64} (hN : 100001 < N) (hL : L ≤ 3584) (hp : p + 7 ≤ L) (hw : w ≤ 512) (h : INV w σ) : OPL w k p (f_law_step N xs L k σ o (nI p)) := by
  have c0 : ks_in (nI p) L = true := ks_in_nI (by omega) (by omega)
  unfold f_law_step
  rw [if_pos c0]
  obtain ⟨j, j1, j2⟩ := pk_andE (xs (nI p).toNatClampNeg) (m := 15) 4 (by decide)
  rw [j2]
  have ne : ∀ a b : Nat, a < 16 → b < 16 → a ≠ b → ¬ nI a = nI b := fun a b ha hb hab e => hab (nI_inj (by omega) (by omega) e)
  have j1 : j < 16 := j1
  by_cases e0 : j = 0
  · subst e0; rw [if_pos (show nI 0 = 0 from rfl)]; exact law_0 hN hL hp h
  rw [if_neg (show ¬ nI j = 0 from ne j 0 j1 (by omega) e0)]
  by_cases e1 : j = 1
  · subst e1; rw [if_pos (show nI 1 = 1 from rfl)]; exact law_1 hN hL hp h
  rw [if_neg (show ¬ nI j = 1 from ne j 1 j1 (by omega) e1)]
  by_cases e2 : j = 2
  · subst e2; rw [if_pos (show nI 2 = 2 from rfl)]; exact law_2 hN hL hp h
  rw [if_neg (show ¬ nI j = 2 from ne j 2 j1 (by omega) e2)]
  by_cases e3 : j = 3
  · subst e3; rw [if_pos (show nI 3 = 3 from rfl)]; exact law_3 hN hL hp h
  rw [if_neg (show ¬ nI j = 3 from ne j 3 j1 (by omega) e3)]
  by_cases e4 : j = 4
  · subst e4; rw [if_pos (show nI 4 = 4 from rfl)]; exact law_4 hN hL hp h
  rw [if_neg (show ¬ nI j = 4 from ne j 4 j1 (by omega) e4)]
  by_cases e5 : j = 5
  · subst e5; rw [if_pos (show nI 5 = 5 from rfl)]; exact law_5 hN hL hp h
  rw [if_neg (show ¬ nI j = 5 from ne j 5 j1 (by omega) e5)]
  by_cases e6 : j = 6
  · subst e6; rw [if_pos (show nI 6 = 6 from rfl)]; exact law_6 hN h
  rw [if_neg (show ¬ nI j = 6 from ne j 6 j1 (by omega) e6)]
  by_cases e7 : j = 7
  · subst e7; rw [if_pos (show nI 7 = 7 from rfl)]; exact law_7 hN h
  rw [if_neg (show ¬ nI j = 7 from ne j 7 j1 (by omega) e7)]
  by_cases e8 : j = 8
  · subst e8; rw [if_pos (show nI 8 = 8 from rfl)]; exact law_8 hN hL hp h
  rw [if_neg (show ¬ nI j = 8 from ne j 8 j1 (by omega) e8)]
  by_cases e9 : j = 9
  · subst e9; rw [if_pos (show nI 9 = 9 from rfl)]; exact law_9 hL hp h
  rw [if_neg (show ¬ nI j = 9 from ne j 9 j1 (by omega) e9)]
  by_cases e10 : j = 10
  · subst e10; rw [if_pos (show nI 10 = 10 from rfl)]; exact law_10 hN hL hp hw h
  rw [if_neg (show ¬ nI j = 10 from ne j 10 j1 (by omega) e10)]
  by_cases e11 : j = 11
  · subst e11; rw [if_pos (show nI 11 = 11 from rfl)]; exact law_11 hL hp h
  rw [if_neg (show ¬ nI j = 11 from ne j 11 j1 (by omega) e11)]
  by_cases e12 : j = 12
  · subst e12; rw [if_pos (show nI 12 = 12 from rfl)]; exact law_12 hN hL hp h
  rw [if_neg (show ¬ nI j = 12 from ne j 12 j1 (by omega) e12)]
  by_cases e13 : j = 13
  · subst e13; rw [if_pos (show nI 13 = 13 from rfl)]; exact law_13 hL hp h
  rw [if_neg (show ¬ nI j = 13 from ne j 13 j1 (by omega) e13)]
  by_cases e14 : j = 14
  · subst e14; rw [if_pos (show nI 14 = 14 from rfl)]; exact law_14 hL hp h
  rw [if_neg (show ¬ nI j = 14 from ne j 14 j1 (by omega) e14)]
  have e15 : j = 15 := by omega
  subst e15
  rw [if_pos (show nI 15 = 15 from rfl)]
  exact law_15 hN h
theorem law_all {N L : Nat} {xs : Nat → Int32} (hN : 100001 < N) (hL : L ≤ 3584) : ∀ n w σ o, n + w = 513 → 1 ≤ n → INV w σ → f_law N xs L n σ o (nI (7 * w)) = some true := by
  intro n
  induction n with
  | zero => intro w σ o h1 h2; omega
  | succ n ih =>
    intro w σ o h1 h2 h
    rw [f_law]
    have key : (Int32.ofNat L - 7 < nI (7 * w)) ↔ ¬ 7 * w + 7 ≤ L := by
      have e : Int32.ofNat L = nI L := rfl
      by_cases h7 : 7 ≤ L
      · have e2 : nI L - 7 = nI (L - 7) := pk_sub (b := 7) h7
        rw [e, e2, nI_ltI (by omega) (by omega)]
        omega
      · constructor
        · intro _; omega
        · intro _
          rw [e]
          exact Int32.lt_of_lt_of_le (pk_sneg (a := L) (b := 7) (by decide) (by omega)) (nI_pos' (by omega))
    by_cases hp : 7 * w + 7 ≤ L
    · rw [if_neg (fun q => key.mp q hp)]
      obtain ⟨σ', o', s1, s2⟩ := law_go (k := f_law N xs L n) (o := o) (xs := xs) hN hL hp (show w ≤ 512 by omega) h
      rw [s1]
      exact ih (w + 1) σ' o' (by omega) (by omega) s2
    · rw [if_pos (key.mpr hp)]
theorem INV_0 : INV 0 (ks_s0 (fgt ks_m0)) := by
  have lo : ∀ k, k < 14 → ks_s0 (fgt ks_m0) k = ks_k0 k := fun k hk => by unfold ks_s0; rw [if_pos hk]
  have hi : ∀ k, 14 ≤ k → ks_s0 (fgt ks_m0) k = fgt ks_m0 k := fun k hk => by unfold ks_s0; rw [if_neg (by omega)]
  have eD : sD (ks_s0 (fgt ks_m0)) = sD ks_m0 := by rw [sD_cls hi, sD_fgt]
  have d15 : ∀ t, t < 16 → sD ks_m0 15 t = -1 := fun t ht => by
    unfold sD ks_m0
    rw [if_pos (by omega), if_pos ⟨rfl, ht⟩]
  have d20 : ∀ t, sD ks_m0 20 t = nI 0 := fun t => by
    unfold sD ks_m0
    rw [if_pos (by omega), if_neg (by omega)]
    rfl
  have hcn : ∀ t, cn (sD ks_m0) t = 0 := fun t => nn_nI (d20 t) (by decide)
  have k8 : ∀ t z, ks_k0 8 t 0 z = 0 := fun t z => by
    unfold ks_k0
    rw [if_neg (by omega), if_neg (by omega), if_neg (by omega)]
  have hU : UN (ks_s0 (fgt ks_m0)) := by
    have e : ∀ k, (k ≠ 14 ∧ k ≠ 26 ∧ k ≠ 27 ∧ k ≠ 34 ∧ k ≠ 35 ∧ k ≠ 36 ∧ k ≠ 37 ∧ k ≠ 38 ∧ k ≠ 39 ∧ k ≠ 40 ∧ k ≠ 41 ∧ k ≠ 42 ∧ k ≠ 44) → fgt ks_m0 k = ks_m0 k := fun k hk => fgt_k _ hk
    refine ⟨⟨?_, ?_, ?_⟩, fun t ht => ?_, fun c hc => ?_, fun g hg => ?_, fun t r ht hr => ?_, fun s hs => ?_⟩
    · rw [lo 0 (by decide)]; simp [ks_k0]
    · rw [hi 14 (by decide), fgt_14, if_neg (by decide), if_pos rfl]
    · rw [hi 14 (by decide), fgt_14, if_pos rfl]
    · rw [lo 9 (by decide), hi 26 (by decide), hi 27 (by decide), hi 35 (by decide), hi 36 (by decide), hi 37 (by decide), hi 28 (by decide), hi 29 (by decide), hi 30 (by decide), hi 31 (by decide), hi 32 (by decide), e 28 (by decide), e 29 (by decide), e 30 (by decide), e 31 (by decide), e 32 (by decide), fgt_0 ks_m0 (k := 26) (Or.inl ⟨by decide, ht⟩), fgt_0 ks_m0 (k := 27) (Or.inl ⟨by decide, ht⟩), fgt_0 ks_m0 (k := 35) (Or.inl ⟨by decide, ht⟩), fgt_0 ks_m0 (k := 36) (Or.inl ⟨by decide, ht⟩), fgt_0 ks_m0 (k := 37) (Or.inl ⟨by decide, ht⟩)]
      simp [ks_k0, ks_m0]
    · rw [lo 6 (by decide), lo 7 (by decide), hi 39 (by decide), hi 40 (by decide), hi 41 (by decide), hi 42 (by decide), fgt_1 ks_m0 (k := 39) ⟨by decide, hc⟩, fgt_1 ks_m0 (k := 41) ⟨by decide, hc⟩, fgt_0 ks_m0 (k := 40) (Or.inr (Or.inr (Or.inl ⟨by decide, hc⟩))), fgt_0 ks_m0 (k := 42) (Or.inr (Or.inr (Or.inl ⟨by decide, hc⟩)))]
      simp [ks_k0, hc]
    · rw [lo 12 (by decide), hi 44 (by decide), fgt_0 ks_m0 (k := 44) (Or.inr (Or.inr (Or.inr ⟨rfl, hg⟩)))]
      simp [ks_k0]
    · rw [lo 11 (by decide)]
      simp [ks_k0]
    · rw [hi 38 (by decide)]
      exact fgt_0 ks_m0 (Or.inr (Or.inl ⟨rfl, hs⟩))
  refine ⟨?_, ?_, ?_, Or.inl ⟨?_, ?_, hU⟩, fun t ht => ?_⟩
  · rw [eD]
    refine ⟨fun t ht => Or.inl ⟨d15 t ht, d20 t⟩, fun t r ht hr => ?_, fun t u ht _ _ _ hm => absurd (d15 t ht) hm⟩
    rw [hcn] at hr
    omega
  · rw [eD]
    intro t ht
    rw [lo 8 (by decide)]
    exact Or.inl ⟨k8 t 0, d15 t ht⟩
  · rw [eD]
    refine ⟨⟨?_, ?_, ?_⟩, fun t ht hth => absurd (d15 t ht) hth⟩
    · intro t r ht hr
      rw [hcn] at hr
      omega
    · intro x hx
      refine ⟨x, Nat.le_refl _, ?_⟩
      dsimp only
      rw [lo 3 (by decide)]
      simp [ks_k0]
    · intro f hf x hx
      dsimp only
      rw [lo 3 (by decide)]
      have : ks_k0 3 0 0 x = nI x := by simp [ks_k0]
      rw [this, cl (by omega)]
  · rw [lo 0 (by decide)]; simp [ks_k0]
  · rw [hi 14 (by decide), fgt_14, if_neg (by decide), if_neg (by decide)]
    simp [ks_m0]
  · rw [lo 8 (by decide), k8]
    decide
theorem law_pure (xs : Nat → Int32) (L : Nat) (hL : L ≤ 3584) : ∃ (N : Nat) (σ1 : ks_S), f_X5_forget N ks_m0 = some σ1 ∧ f_law N xs L 513 (ks_s0 σ1) 0 0 = some true := by
  refine ⟨100002, fgt ks_m0, ref_forget (by decide) ks_m0, ?_⟩
  exact law_all (N := 100002) (xs := xs) (by decide) hL 513 0 (ks_s0 (fgt ks_m0)) 0 (by omega) (by omega) INV_0
