/-! PURE: base. -/
theorem ks_up_at (σ : ks_S) (k i j z : Nat) (v : Int32) (k' i' j' z' : Nat) : ks_up σ k i j z v k' i' j' z' = if k' = k ∧ i' = i ∧ j' = j ∧ z' = z then v else σ k' i' j' z' := rfl
theorem ks_up_hit (σ : ks_S) (k i j z : Nat) (v : Int32) : ks_up σ k i j z v k i j z = v := by
  rw [ks_up_at, if_pos ⟨rfl, rfl, rfl, rfl⟩]
theorem ks_up_same {σ : ks_S} {k i j z : Nat} {v : Int32} (h : σ k i j z = v) : ks_up σ k i j z v = σ := by
  funext k' i' j' z'
  rw [ks_up_at]
  split
  · rename_i h1
    obtain ⟨rfl, rfl, rfl, rfl⟩ := h1
    exact h.symm
  · rfl
theorem ks_up_up (σ : ks_S) (k i j z : Nat) (v w : Int32) : ks_up (ks_up σ k i j z v) k i j z w = ks_up σ k i j z w := by
  funext k' i' j' z'
  simp only [ks_up_at]
  split <;> rfl
theorem ks_in_nI {n m : Nat} (h : n < m) (hm : m < 2 ^ 31) : ks_in (nI n) m = true := by
  have h1 : (nI n).toInt = (n : Int) := nI_toInt (by omega)
  unfold ks_in
  rw [h1]
  simp only [Bool.and_eq_true, decide_eq_true_eq]
  omega
theorem i4 {i : Nat} (h : i < 4) : ks_in (nI i) 4 = true := ks_in_nI h (by decide)
theorem i6 {i : Nat} (h : i < 6) : ks_in (nI i) 6 = true := ks_in_nI h (by decide)
theorem i8 {i : Nat} (h : i < 8) : ks_in (nI i) 8 = true := ks_in_nI h (by decide)
theorem i16 {i : Nat} (h : i < 16) : ks_in (nI i) 16 = true := ks_in_nI h (by decide)
theorem i32 {i : Nat} (h : i < 32) : ks_in (nI i) 32 = true := ks_in_nI h (by decide)
theorem i96 {i : Nat} (h : i < 96) : ks_in (nI i) 96 = true := ks_in_nI h (by decide)
theorem z4 {i : Nat} (h : i < 4) : ¬ (4 : Int32) ≤ nI i := nI_ge h (by decide)
theorem z8 {i : Nat} (h : i < 8) : ¬ (8 : Int32) ≤ nI i := nI_ge h (by decide)
theorem z16 {i : Nat} (h : i < 16) : ¬ (16 : Int32) ≤ nI i := nI_ge h (by decide)
theorem z96 {i : Nat} (h : i < 96) : ¬ (96 : Int32) ≤ nI i := nI_ge h (by decide)
theorem e4 : (4 : Int32) ≤ nI 4 := by decide
theorem e8 : (8 : Int32) ≤ nI 8 := by decide
theorem e16 : (16 : Int32) ≤ nI 16 := by decide
theorem e96 : (96 : Int32) ≤ nI 96 := by decide
theorem cl {i : Nat} (h : i < 96) : (nI i).toNatClampNeg = i := nI_clamp (by omega)
theorem nI_6 (t r : Nat) : 6 * nI t + nI r = nI (6 * t + r) := by
  have h1 : (6 : Int32) * nI t = nI (6 * t) := (Int32.ofNat_mul 6 t).symm
  rw [h1, nI_add]
theorem nI_4 (t : Nat) : 4 * nI t = nI (4 * t) := (Int32.ofNat_mul 4 t).symm
/-- the greatest of the first n, and their sum -/
def mx (f : Nat → Nat) : Nat → Nat
  | 0 => 0
  | n + 1 => if mx f n < f n then f n else mx f n
def sm (f : Nat → Nat) : Nat → Nat
  | 0 => 0
  | n + 1 => sm f n + f n
theorem mx_ge {f : Nat → Nat} : ∀ {n i : Nat}, i < n → f i ≤ mx f n := by
  intro n
  induction n with
  | zero => intro i h; omega
  | succ n ih =>
    intro i h
    rw [mx]
    by_cases h1 : i = n
    · subst h1
      split <;> omega
    · have h2 := ih (show i < n by omega)
      split <;> omega
theorem mx_le {f : Nat → Nat} {b : Nat} : ∀ {n : Nat}, (∀ i, i < n → f i ≤ b) → mx f n ≤ b := by
  intro n
  induction n with
  | zero => intro h; rw [mx]; omega
  | succ n ih =>
    intro h
    rw [mx]
    have h1 := ih (fun i hi => h i (by omega))
    have h2 := h n (by omega)
    split <;> omega
theorem mx_congr {f g : Nat → Nat} : ∀ {n : Nat}, (∀ i, i < n → f i = g i) → mx f n = mx g n := by
  intro n
  induction n with
  | zero => intro h; rfl
  | succ n ih =>
    intro h
    rw [mx, mx, ih (fun i hi => h i (by omega)), h n (by omega)]
theorem sm_congr {f g : Nat → Nat} : ∀ {n : Nat}, (∀ i, i < n → f i = g i) → sm f n = sm g n := by
  intro n
  induction n with
  | zero => intro h; rfl
  | succ n ih =>
    intro h
    rw [sm, sm, ih (fun i hi => h i (by omega)), h n (by omega)]
theorem sm_le {f : Nat → Nat} {b : Nat} : ∀ {n : Nat}, (∀ i, i < n → f i ≤ b) → sm f n ≤ n * b := by
  intro n
  induction n with
  | zero => intro h; rw [sm]; omega
  | succ n ih =>
    intro h
    rw [sm, Nat.succ_mul]
    have h1 := ih (fun i hi => h i (by omega))
    have h2 := h n (by omega)
    omega
theorem sm_mono {f g : Nat → Nat} : ∀ {n : Nat}, (∀ i, i < n → f i ≤ g i) → sm f n ≤ sm g n := by
  intro n
  induction n with
  | zero => intro h; exact Nat.le_refl _
  | succ n ih =>
    intro h
    rw [sm, sm]
    have h1 := ih (fun i hi => h i (by omega))
    have h2 := h n (by omega)
    omega
theorem sm_add {f g : Nat → Nat} : ∀ {n : Nat}, sm (fun i => f i + g i) n = sm f n + sm g n := by
  intro n
  induction n with
  | zero => rfl
  | succ n ih =>
    rw [sm, sm, sm, ih]
    omega
theorem sm_ge {f : Nat → Nat} : ∀ {n i : Nat}, i < n → f i ≤ sm f n := by
  intro n
  induction n with
  | zero => intro i h; omega
  | succ n ih =>
    intro i h
    rw [sm]
    by_cases h1 : i = n
    · subst h1; omega
    · have h2 := ih (show i < n by omega)
      omega
/-- a sum in which one summand changes -/
theorem sm_one {f g : Nat → Nat} : ∀ {n i : Nat}, i < n → (∀ j, j < n → j ≠ i → g j = f j) → sm g n + f i = sm f n + g i := by
  intro n
  induction n with
  | zero => intro i h; omega
  | succ n ih =>
    intro i h hj
    rw [sm, sm]
    by_cases h1 : i = n
    · subst h1
      rw [sm_congr (f := g) (g := f) (fun j hj2 => hj j (by omega) (by omega))]
      omega
    · have h2 := ih (show i < n by omega) (fun j hj2 hne => hj j (by omega) hne)
      have h3 := hj n (by omega) (by omega)
      omega
theorem nI_mx {f : Nat → Nat} {n : Nat} (h1 : mx f n < 2 ^ 31) (h2 : f n < 2 ^ 31) : (if nI (mx f n) < nI (f n) then nI (f n) else nI (mx f n)) = nI (mx f (n + 1)) := by
  rw [mx]
  by_cases h : mx f n < f n
  · rw [if_pos ((nI_ltI h1 h2).mpr h), if_pos h]
  · rw [if_neg (fun h3 => h ((nI_ltI h1 h2).mp h3)), if_neg h]
