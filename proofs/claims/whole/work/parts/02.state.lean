/-! THE WORLD: every cell that the class, the reference and the law hold, by kind and two indices; a state is the ints of the cells' slots. Written by wip/whole/mkstate.py. -/
abbrev ks_S : Type := Nat → Nat → Nat → Nat → Int32
abbrev ks_A : Type := Nat → Nat → Nat → Nat
def ks_up (σ : ks_S) (k i j z : Nat) (v : Int32) : ks_S := fun k' i' j' z' => if k' = k ∧ i' = i ∧ j' = j ∧ z' = z then v else σ k' i' j' z'
theorem ks_up_c (σ : ks_S) (k i j z : Nat) (v : Int32) : ks_up σ k i j z v k i j = upd (σ k i j) z v := by
  funext z'
  simp [ks_up, upd]
theorem ks_up_ne (σ : ks_S) {k i j k' i' j' : Nat} (z : Nat) (v : Int32) (h : ¬ (k' = k ∧ i' = i ∧ j' = j)) : ks_up σ k i j z v k' i' j' = σ k' i' j' := by
  funext z'
  simp only [ks_up]
  rw [if_neg]
  intro q
  exact h ⟨q.1, q.2.1, q.2.2.1⟩
def ks_in (x : Int32) (n : Nat) : Bool := decide (0 ≤ x.toInt) && decide (x.toInt < n)
theorem ks_in_vp {x : Int32} {n : Nat} (h : ks_in x n = true) : vp_in x n := by
  simp only [ks_in, Bool.and_eq_true, decide_eq_true_eq] at h
  exact vp_in_iff.mpr h
theorem ks_in_lt {x : Int32} {n : Nat} (h : ks_in x n = true) : x.toNatClampNeg < n := by
  simp only [ks_in, Bool.and_eq_true, decide_eq_true_eq] at h
  have hc : x.toNatClampNeg = x.toInt.toNat := rfl
  omega
abbrev ks_r (f : Nat → Nat) : (Nat → Int32) ⊕ (Nat → Int64) ⊕ (Nat → UInt32) ⊕ (Nat → UInt64) ⊕ (Nat → Option Nat) := .inr (.inr (.inr (.inr (fun n => some (f n)))))
def ks_c (cy : Nat → ClassId) (ad : ks_A) (o : Int64) (k i j : Nat) (c : Nat → Int32) : va_E :=
  if k = 0 then .inr (4, [.ref (ad 1 0 0), .ref (ad 2 0 0), .ref (ad 3 0 0), .ref (ad 4 0 0), .ref (ad 6 0 0), .ref (ad 7 0 0), .int (c 6), .int (c 7)])
  else if k = 1 then .inl (cy 3, 16, ks_r (fun n => ad 8 n 0))
  else if k = 2 then .inl (cy 4, 8, ks_r (fun n => ad 12 n 0))
  else if k = 3 then .inl (cy 0, 8, .inl c)
  else if k = 4 then .inl (cy 6, 4, ks_r (fun n => ad 5 n 0))
  else if k = 5 then .inl (cy 0, 8, .inl c)
  else if k = 6 then .inl (cy 0, 4, .inl c)
  else if k = 7 then .inl (cy 0, 4, .inl c)
  else if k = 8 then .inr (3, [.int (c 0), .int (c 1), .int (c 2), .int (c 3), .int (c 4), .int (c 5), .int (c 6), .int (c 7), .ref (ad 10 i 0), .ref (ad 9 i 0)])
  else if k = 9 then .inr (0, [.int (c 0), .int (c 1), .int (c 2), .int (c 3), .int (c 4), .int (c 5), .int (c 6), .int (c 7), .int (c 8), .int (c 9), .int (c 10), .int (c 11)])
  else if k = 10 then .inl (cy 5, 6, ks_r (fun n => ad 11 i n))
  else if k = 11 then .inr (1, [.int (c 0), .int (c 1), .int (c 2), .int (c 3), .int (c 4), .int (c 5), .int (c 6), .int (c 7)])
  else if k = 12 then .inr (2, [.ref (ad 13 i 0), .int (c 1)])
  else if k = 13 then .inl (cy 0, 4, .inl c)
  else if k = 14 then .inr (5, [.int (c 0), .ref (ad 15 0 0), .ref (ad 16 0 0), .ref (ad 17 0 0), .ref (ad 18 0 0), .ref (ad 19 0 0), .ref (ad 20 0 0), .ref (ad 21 0 0), .ref (ad 22 0 0), .ref (ad 23 0 0), .ref (ad 24 0 0), .ref (ad 25 0 0), .int (c 12), .int (c 13), .ref (ad 26 0 0), .ref (ad 27 0 0), .ref (ad 28 0 0), .ref (ad 29 0 0), .ref (ad 30 0 0), .ref (ad 31 0 0), .ref (ad 32 0 0), .ref (ad 33 0 0), .ref (ad 34 0 0), .ref (ad 35 0 0), .ref (ad 36 0 0), .ref (ad 37 0 0), .ref (ad 38 0 0), .int (c 27), .ref (ad 39 0 0), .ref (ad 40 0 0), .ref (ad 41 0 0), .ref (ad 42 0 0), .ref (ad 43 0 0), .ref (ad 44 0 0)])
  else if k = 15 then .inl (cy 0, 16, .inl c)
  else if k = 16 then .inl (cy 0, 16, .inl c)
  else if k = 17 then .inl (cy 0, 16, .inl c)
  else if k = 18 then .inl (cy 0, 16, .inl c)
  else if k = 19 then .inl (cy 0, 16, .inl c)
  else if k = 20 then .inl (cy 0, 16, .inl c)
  else if k = 21 then .inl (cy 0, 96, .inl c)
  else if k = 22 then .inl (cy 0, 96, .inl c)
  else if k = 23 then .inl (cy 0, 96, .inl c)
  else if k = 24 then .inl (cy 0, 96, .inl c)
  else if k = 25 then .inl (cy 0, 8, .inl c)
  else if k = 26 then .inl (cy 1, 16, .inl c)
  else if k = 27 then .inl (cy 1, 16, .inl c)
  else if k = 28 then .inl (cy 0, 16, .inl c)
  else if k = 29 then .inl (cy 0, 16, .inl c)
  else if k = 30 then .inl (cy 0, 16, .inl c)
  else if k = 31 then .inl (cy 0, 16, .inl c)
  else if k = 32 then .inl (cy 0, 16, .inl c)
  else if k = 33 then .inl (cy 0, 96, .inl c)
  else if k = 34 then .inl (cy 0, 96, .inl c)
  else if k = 35 then .inl (cy 0, 16, .inl c)
  else if k = 36 then .inl (cy 0, 16, .inl c)
  else if k = 37 then .inl (cy 0, 16, .inl c)
  else if k = 38 then .inl (cy 0, 96, .inl c)
  else if k = 39 then .inl (cy 0, 4, .inl c)
  else if k = 40 then .inl (cy 0, 4, .inl c)
  else if k = 41 then .inl (cy 0, 4, .inl c)
  else if k = 42 then .inl (cy 0, 4, .inl c)
  else if k = 43 then .inl (cy 0, 32, .inl c)
  else if k = 44 then .inl (cy 0, 8, .inl c)
  else if k = 45 then .inl (cy 2, 1, .inr (.inl (fun _ => o)))
  else .inl (cy 0, 0, .inl c)
def ks_n1 (k : Nat) : Nat := if k = 5 then 4 else if k = 8 then 16 else if k = 9 then 16 else if k = 10 then 16 else if k = 11 then 16 else if k = 12 then 8 else if k = 13 then 8 else 1
def ks_n2 (k : Nat) : Nat := if k = 11 then 6 else 1
def ks_g (k : Nat) : Nat := if k < 14 then 0 else if k < 45 then 1 else 2
def ks_v (En : Nat → Prop) (k i j : Nat) : Prop := k < 46 ∧ i < ks_n1 k ∧ j < ks_n2 k ∧ En k
theorem ks_v0 {En : Nat → Prop} {i j : Nat} (he : En 0) : ks_v En 0 0 0 := ⟨by decide, by decide, by decide, he⟩
theorem ks_v1 {En : Nat → Prop} {i j : Nat} (he : En 1) : ks_v En 1 0 0 := ⟨by decide, by decide, by decide, he⟩
theorem ks_v2 {En : Nat → Prop} {i j : Nat} (he : En 2) : ks_v En 2 0 0 := ⟨by decide, by decide, by decide, he⟩
theorem ks_v3 {En : Nat → Prop} {i j : Nat} (he : En 3) : ks_v En 3 0 0 := ⟨by decide, by decide, by decide, he⟩
theorem ks_v4 {En : Nat → Prop} {i j : Nat} (he : En 4) : ks_v En 4 0 0 := ⟨by decide, by decide, by decide, he⟩
theorem ks_v5 {En : Nat → Prop} {i j : Nat} (hi : i < 4) (he : En 5) : ks_v En 5 i 0 := ⟨by decide, hi, by decide, he⟩
theorem ks_v6 {En : Nat → Prop} {i j : Nat} (he : En 6) : ks_v En 6 0 0 := ⟨by decide, by decide, by decide, he⟩
theorem ks_v7 {En : Nat → Prop} {i j : Nat} (he : En 7) : ks_v En 7 0 0 := ⟨by decide, by decide, by decide, he⟩
theorem ks_v8 {En : Nat → Prop} {i j : Nat} (hi : i < 16) (he : En 8) : ks_v En 8 i 0 := ⟨by decide, hi, by decide, he⟩
theorem ks_v9 {En : Nat → Prop} {i j : Nat} (hi : i < 16) (he : En 9) : ks_v En 9 i 0 := ⟨by decide, hi, by decide, he⟩
theorem ks_v10 {En : Nat → Prop} {i j : Nat} (hi : i < 16) (he : En 10) : ks_v En 10 i 0 := ⟨by decide, hi, by decide, he⟩
theorem ks_v11 {En : Nat → Prop} {i j : Nat} (hi : i < 16) (hj : j < 6) (he : En 11) : ks_v En 11 i j := ⟨by decide, hi, hj, he⟩
theorem ks_v12 {En : Nat → Prop} {i j : Nat} (hi : i < 8) (he : En 12) : ks_v En 12 i 0 := ⟨by decide, hi, by decide, he⟩
theorem ks_v13 {En : Nat → Prop} {i j : Nat} (hi : i < 8) (he : En 13) : ks_v En 13 i 0 := ⟨by decide, hi, by decide, he⟩
theorem ks_v14 {En : Nat → Prop} {i j : Nat} (he : En 14) : ks_v En 14 0 0 := ⟨by decide, by decide, by decide, he⟩
theorem ks_v15 {En : Nat → Prop} {i j : Nat} (he : En 15) : ks_v En 15 0 0 := ⟨by decide, by decide, by decide, he⟩
theorem ks_v16 {En : Nat → Prop} {i j : Nat} (he : En 16) : ks_v En 16 0 0 := ⟨by decide, by decide, by decide, he⟩
theorem ks_v17 {En : Nat → Prop} {i j : Nat} (he : En 17) : ks_v En 17 0 0 := ⟨by decide, by decide, by decide, he⟩
theorem ks_v18 {En : Nat → Prop} {i j : Nat} (he : En 18) : ks_v En 18 0 0 := ⟨by decide, by decide, by decide, he⟩
theorem ks_v19 {En : Nat → Prop} {i j : Nat} (he : En 19) : ks_v En 19 0 0 := ⟨by decide, by decide, by decide, he⟩
theorem ks_v20 {En : Nat → Prop} {i j : Nat} (he : En 20) : ks_v En 20 0 0 := ⟨by decide, by decide, by decide, he⟩
theorem ks_v21 {En : Nat → Prop} {i j : Nat} (he : En 21) : ks_v En 21 0 0 := ⟨by decide, by decide, by decide, he⟩
theorem ks_v22 {En : Nat → Prop} {i j : Nat} (he : En 22) : ks_v En 22 0 0 := ⟨by decide, by decide, by decide, he⟩
theorem ks_v23 {En : Nat → Prop} {i j : Nat} (he : En 23) : ks_v En 23 0 0 := ⟨by decide, by decide, by decide, he⟩
theorem ks_v24 {En : Nat → Prop} {i j : Nat} (he : En 24) : ks_v En 24 0 0 := ⟨by decide, by decide, by decide, he⟩
theorem ks_v25 {En : Nat → Prop} {i j : Nat} (he : En 25) : ks_v En 25 0 0 := ⟨by decide, by decide, by decide, he⟩
theorem ks_v26 {En : Nat → Prop} {i j : Nat} (he : En 26) : ks_v En 26 0 0 := ⟨by decide, by decide, by decide, he⟩
theorem ks_v27 {En : Nat → Prop} {i j : Nat} (he : En 27) : ks_v En 27 0 0 := ⟨by decide, by decide, by decide, he⟩
theorem ks_v28 {En : Nat → Prop} {i j : Nat} (he : En 28) : ks_v En 28 0 0 := ⟨by decide, by decide, by decide, he⟩
theorem ks_v29 {En : Nat → Prop} {i j : Nat} (he : En 29) : ks_v En 29 0 0 := ⟨by decide, by decide, by decide, he⟩
theorem ks_v30 {En : Nat → Prop} {i j : Nat} (he : En 30) : ks_v En 30 0 0 := ⟨by decide, by decide, by decide, he⟩
theorem ks_v31 {En : Nat → Prop} {i j : Nat} (he : En 31) : ks_v En 31 0 0 := ⟨by decide, by decide, by decide, he⟩
theorem ks_v32 {En : Nat → Prop} {i j : Nat} (he : En 32) : ks_v En 32 0 0 := ⟨by decide, by decide, by decide, he⟩
theorem ks_v33 {En : Nat → Prop} {i j : Nat} (he : En 33) : ks_v En 33 0 0 := ⟨by decide, by decide, by decide, he⟩
theorem ks_v34 {En : Nat → Prop} {i j : Nat} (he : En 34) : ks_v En 34 0 0 := ⟨by decide, by decide, by decide, he⟩
theorem ks_v35 {En : Nat → Prop} {i j : Nat} (he : En 35) : ks_v En 35 0 0 := ⟨by decide, by decide, by decide, he⟩
theorem ks_v36 {En : Nat → Prop} {i j : Nat} (he : En 36) : ks_v En 36 0 0 := ⟨by decide, by decide, by decide, he⟩
theorem ks_v37 {En : Nat → Prop} {i j : Nat} (he : En 37) : ks_v En 37 0 0 := ⟨by decide, by decide, by decide, he⟩
theorem ks_v38 {En : Nat → Prop} {i j : Nat} (he : En 38) : ks_v En 38 0 0 := ⟨by decide, by decide, by decide, he⟩
theorem ks_v39 {En : Nat → Prop} {i j : Nat} (he : En 39) : ks_v En 39 0 0 := ⟨by decide, by decide, by decide, he⟩
theorem ks_v40 {En : Nat → Prop} {i j : Nat} (he : En 40) : ks_v En 40 0 0 := ⟨by decide, by decide, by decide, he⟩
theorem ks_v41 {En : Nat → Prop} {i j : Nat} (he : En 41) : ks_v En 41 0 0 := ⟨by decide, by decide, by decide, he⟩
theorem ks_v42 {En : Nat → Prop} {i j : Nat} (he : En 42) : ks_v En 42 0 0 := ⟨by decide, by decide, by decide, he⟩
theorem ks_v43 {En : Nat → Prop} {i j : Nat} (he : En 43) : ks_v En 43 0 0 := ⟨by decide, by decide, by decide, he⟩
theorem ks_v44 {En : Nat → Prop} {i j : Nat} (he : En 44) : ks_v En 44 0 0 := ⟨by decide, by decide, by decide, he⟩
theorem ks_v45 {En : Nat → Prop} {i j : Nat} (he : En 45) : ks_v En 45 0 0 := ⟨by decide, by decide, by decide, he⟩
theorem ks_c0 (cy : Nat → ClassId) (ad : ks_A) (o : Int64) (i j : Nat) (c : Nat → Int32) : ks_c cy ad o 0 i j c = .inr (4, [.ref (ad 1 0 0), .ref (ad 2 0 0), .ref (ad 3 0 0), .ref (ad 4 0 0), .ref (ad 6 0 0), .ref (ad 7 0 0), .int (c 6), .int (c 7)]) := rfl
theorem ks_c1 (cy : Nat → ClassId) (ad : ks_A) (o : Int64) (i j : Nat) (c : Nat → Int32) : ks_c cy ad o 1 i j c = .inl (cy 3, 16, ks_r (fun n => ad 8 n 0)) := rfl
theorem ks_c2 (cy : Nat → ClassId) (ad : ks_A) (o : Int64) (i j : Nat) (c : Nat → Int32) : ks_c cy ad o 2 i j c = .inl (cy 4, 8, ks_r (fun n => ad 12 n 0)) := rfl
theorem ks_c3 (cy : Nat → ClassId) (ad : ks_A) (o : Int64) (i j : Nat) (c : Nat → Int32) : ks_c cy ad o 3 i j c = .inl (cy 0, 8, .inl c) := rfl
theorem ks_c4 (cy : Nat → ClassId) (ad : ks_A) (o : Int64) (i j : Nat) (c : Nat → Int32) : ks_c cy ad o 4 i j c = .inl (cy 6, 4, ks_r (fun n => ad 5 n 0)) := rfl
theorem ks_c5 (cy : Nat → ClassId) (ad : ks_A) (o : Int64) (i j : Nat) (c : Nat → Int32) : ks_c cy ad o 5 i j c = .inl (cy 0, 8, .inl c) := rfl
theorem ks_c6 (cy : Nat → ClassId) (ad : ks_A) (o : Int64) (i j : Nat) (c : Nat → Int32) : ks_c cy ad o 6 i j c = .inl (cy 0, 4, .inl c) := rfl
theorem ks_c7 (cy : Nat → ClassId) (ad : ks_A) (o : Int64) (i j : Nat) (c : Nat → Int32) : ks_c cy ad o 7 i j c = .inl (cy 0, 4, .inl c) := rfl
theorem ks_c8 (cy : Nat → ClassId) (ad : ks_A) (o : Int64) (i j : Nat) (c : Nat → Int32) : ks_c cy ad o 8 i j c = .inr (3, [.int (c 0), .int (c 1), .int (c 2), .int (c 3), .int (c 4), .int (c 5), .int (c 6), .int (c 7), .ref (ad 10 i 0), .ref (ad 9 i 0)]) := rfl
theorem ks_c9 (cy : Nat → ClassId) (ad : ks_A) (o : Int64) (i j : Nat) (c : Nat → Int32) : ks_c cy ad o 9 i j c = .inr (0, [.int (c 0), .int (c 1), .int (c 2), .int (c 3), .int (c 4), .int (c 5), .int (c 6), .int (c 7), .int (c 8), .int (c 9), .int (c 10), .int (c 11)]) := rfl
theorem ks_c10 (cy : Nat → ClassId) (ad : ks_A) (o : Int64) (i j : Nat) (c : Nat → Int32) : ks_c cy ad o 10 i j c = .inl (cy 5, 6, ks_r (fun n => ad 11 i n)) := rfl
theorem ks_c11 (cy : Nat → ClassId) (ad : ks_A) (o : Int64) (i j : Nat) (c : Nat → Int32) : ks_c cy ad o 11 i j c = .inr (1, [.int (c 0), .int (c 1), .int (c 2), .int (c 3), .int (c 4), .int (c 5), .int (c 6), .int (c 7)]) := rfl
theorem ks_c12 (cy : Nat → ClassId) (ad : ks_A) (o : Int64) (i j : Nat) (c : Nat → Int32) : ks_c cy ad o 12 i j c = .inr (2, [.ref (ad 13 i 0), .int (c 1)]) := rfl
theorem ks_c13 (cy : Nat → ClassId) (ad : ks_A) (o : Int64) (i j : Nat) (c : Nat → Int32) : ks_c cy ad o 13 i j c = .inl (cy 0, 4, .inl c) := rfl
theorem ks_c14 (cy : Nat → ClassId) (ad : ks_A) (o : Int64) (i j : Nat) (c : Nat → Int32) : ks_c cy ad o 14 i j c = .inr (5, [.int (c 0), .ref (ad 15 0 0), .ref (ad 16 0 0), .ref (ad 17 0 0), .ref (ad 18 0 0), .ref (ad 19 0 0), .ref (ad 20 0 0), .ref (ad 21 0 0), .ref (ad 22 0 0), .ref (ad 23 0 0), .ref (ad 24 0 0), .ref (ad 25 0 0), .int (c 12), .int (c 13), .ref (ad 26 0 0), .ref (ad 27 0 0), .ref (ad 28 0 0), .ref (ad 29 0 0), .ref (ad 30 0 0), .ref (ad 31 0 0), .ref (ad 32 0 0), .ref (ad 33 0 0), .ref (ad 34 0 0), .ref (ad 35 0 0), .ref (ad 36 0 0), .ref (ad 37 0 0), .ref (ad 38 0 0), .int (c 27), .ref (ad 39 0 0), .ref (ad 40 0 0), .ref (ad 41 0 0), .ref (ad 42 0 0), .ref (ad 43 0 0), .ref (ad 44 0 0)]) := rfl
theorem ks_c15 (cy : Nat → ClassId) (ad : ks_A) (o : Int64) (i j : Nat) (c : Nat → Int32) : ks_c cy ad o 15 i j c = .inl (cy 0, 16, .inl c) := rfl
theorem ks_c16 (cy : Nat → ClassId) (ad : ks_A) (o : Int64) (i j : Nat) (c : Nat → Int32) : ks_c cy ad o 16 i j c = .inl (cy 0, 16, .inl c) := rfl
theorem ks_c17 (cy : Nat → ClassId) (ad : ks_A) (o : Int64) (i j : Nat) (c : Nat → Int32) : ks_c cy ad o 17 i j c = .inl (cy 0, 16, .inl c) := rfl
theorem ks_c18 (cy : Nat → ClassId) (ad : ks_A) (o : Int64) (i j : Nat) (c : Nat → Int32) : ks_c cy ad o 18 i j c = .inl (cy 0, 16, .inl c) := rfl
theorem ks_c19 (cy : Nat → ClassId) (ad : ks_A) (o : Int64) (i j : Nat) (c : Nat → Int32) : ks_c cy ad o 19 i j c = .inl (cy 0, 16, .inl c) := rfl
theorem ks_c20 (cy : Nat → ClassId) (ad : ks_A) (o : Int64) (i j : Nat) (c : Nat → Int32) : ks_c cy ad o 20 i j c = .inl (cy 0, 16, .inl c) := rfl
theorem ks_c21 (cy : Nat → ClassId) (ad : ks_A) (o : Int64) (i j : Nat) (c : Nat → Int32) : ks_c cy ad o 21 i j c = .inl (cy 0, 96, .inl c) := rfl
theorem ks_c22 (cy : Nat → ClassId) (ad : ks_A) (o : Int64) (i j : Nat) (c : Nat → Int32) : ks_c cy ad o 22 i j c = .inl (cy 0, 96, .inl c) := rfl
theorem ks_c23 (cy : Nat → ClassId) (ad : ks_A) (o : Int64) (i j : Nat) (c : Nat → Int32) : ks_c cy ad o 23 i j c = .inl (cy 0, 96, .inl c) := rfl
theorem ks_c24 (cy : Nat → ClassId) (ad : ks_A) (o : Int64) (i j : Nat) (c : Nat → Int32) : ks_c cy ad o 24 i j c = .inl (cy 0, 96, .inl c) := rfl
theorem ks_c25 (cy : Nat → ClassId) (ad : ks_A) (o : Int64) (i j : Nat) (c : Nat → Int32) : ks_c cy ad o 25 i j c = .inl (cy 0, 8, .inl c) := rfl
theorem ks_c26 (cy : Nat → ClassId) (ad : ks_A) (o : Int64) (i j : Nat) (c : Nat → Int32) : ks_c cy ad o 26 i j c = .inl (cy 1, 16, .inl c) := rfl
theorem ks_c27 (cy : Nat → ClassId) (ad : ks_A) (o : Int64) (i j : Nat) (c : Nat → Int32) : ks_c cy ad o 27 i j c = .inl (cy 1, 16, .inl c) := rfl
theorem ks_c28 (cy : Nat → ClassId) (ad : ks_A) (o : Int64) (i j : Nat) (c : Nat → Int32) : ks_c cy ad o 28 i j c = .inl (cy 0, 16, .inl c) := rfl
theorem ks_c29 (cy : Nat → ClassId) (ad : ks_A) (o : Int64) (i j : Nat) (c : Nat → Int32) : ks_c cy ad o 29 i j c = .inl (cy 0, 16, .inl c) := rfl
theorem ks_c30 (cy : Nat → ClassId) (ad : ks_A) (o : Int64) (i j : Nat) (c : Nat → Int32) : ks_c cy ad o 30 i j c = .inl (cy 0, 16, .inl c) := rfl
theorem ks_c31 (cy : Nat → ClassId) (ad : ks_A) (o : Int64) (i j : Nat) (c : Nat → Int32) : ks_c cy ad o 31 i j c = .inl (cy 0, 16, .inl c) := rfl
theorem ks_c32 (cy : Nat → ClassId) (ad : ks_A) (o : Int64) (i j : Nat) (c : Nat → Int32) : ks_c cy ad o 32 i j c = .inl (cy 0, 16, .inl c) := rfl
theorem ks_c33 (cy : Nat → ClassId) (ad : ks_A) (o : Int64) (i j : Nat) (c : Nat → Int32) : ks_c cy ad o 33 i j c = .inl (cy 0, 96, .inl c) := rfl
theorem ks_c34 (cy : Nat → ClassId) (ad : ks_A) (o : Int64) (i j : Nat) (c : Nat → Int32) : ks_c cy ad o 34 i j c = .inl (cy 0, 96, .inl c) := rfl
theorem ks_c35 (cy : Nat → ClassId) (ad : ks_A) (o : Int64) (i j : Nat) (c : Nat → Int32) : ks_c cy ad o 35 i j c = .inl (cy 0, 16, .inl c) := rfl
theorem ks_c36 (cy : Nat → ClassId) (ad : ks_A) (o : Int64) (i j : Nat) (c : Nat → Int32) : ks_c cy ad o 36 i j c = .inl (cy 0, 16, .inl c) := rfl
theorem ks_c37 (cy : Nat → ClassId) (ad : ks_A) (o : Int64) (i j : Nat) (c : Nat → Int32) : ks_c cy ad o 37 i j c = .inl (cy 0, 16, .inl c) := rfl
theorem ks_c38 (cy : Nat → ClassId) (ad : ks_A) (o : Int64) (i j : Nat) (c : Nat → Int32) : ks_c cy ad o 38 i j c = .inl (cy 0, 96, .inl c) := rfl
theorem ks_c39 (cy : Nat → ClassId) (ad : ks_A) (o : Int64) (i j : Nat) (c : Nat → Int32) : ks_c cy ad o 39 i j c = .inl (cy 0, 4, .inl c) := rfl
theorem ks_c40 (cy : Nat → ClassId) (ad : ks_A) (o : Int64) (i j : Nat) (c : Nat → Int32) : ks_c cy ad o 40 i j c = .inl (cy 0, 4, .inl c) := rfl
theorem ks_c41 (cy : Nat → ClassId) (ad : ks_A) (o : Int64) (i j : Nat) (c : Nat → Int32) : ks_c cy ad o 41 i j c = .inl (cy 0, 4, .inl c) := rfl
theorem ks_c42 (cy : Nat → ClassId) (ad : ks_A) (o : Int64) (i j : Nat) (c : Nat → Int32) : ks_c cy ad o 42 i j c = .inl (cy 0, 4, .inl c) := rfl
theorem ks_c43 (cy : Nat → ClassId) (ad : ks_A) (o : Int64) (i j : Nat) (c : Nat → Int32) : ks_c cy ad o 43 i j c = .inl (cy 0, 32, .inl c) := rfl
theorem ks_c44 (cy : Nat → ClassId) (ad : ks_A) (o : Int64) (i j : Nat) (c : Nat → Int32) : ks_c cy ad o 44 i j c = .inl (cy 0, 8, .inl c) := rfl
theorem ks_c45 (cy : Nat → ClassId) (ad : ks_A) (o : Int64) (i j : Nat) (c : Nat → Int32) : ks_c cy ad o 45 i j c = .inl (cy 2, 1, .inr (.inl (fun _ => o))) := rfl
theorem ks_c0s6 (cy : Nat → ClassId) (ad : ks_A) (o : Int64) (i j : Nat) (c : Nat → Int32) (v : Int32) : ks_c cy ad o 0 i j (upd c 6 v) = .inr (4, ([.ref (ad 1 0 0), .ref (ad 2 0 0), .ref (ad 3 0 0), .ref (ad 4 0 0), .ref (ad 6 0 0), .ref (ad 7 0 0), .int (c 6), .int (c 7)] : List Value).set 6 (.int v)) := rfl
theorem ks_c0s7 (cy : Nat → ClassId) (ad : ks_A) (o : Int64) (i j : Nat) (c : Nat → Int32) (v : Int32) : ks_c cy ad o 0 i j (upd c 7 v) = .inr (4, ([.ref (ad 1 0 0), .ref (ad 2 0 0), .ref (ad 3 0 0), .ref (ad 4 0 0), .ref (ad 6 0 0), .ref (ad 7 0 0), .int (c 6), .int (c 7)] : List Value).set 7 (.int v)) := rfl
theorem ks_c8s0 (cy : Nat → ClassId) (ad : ks_A) (o : Int64) (i j : Nat) (c : Nat → Int32) (v : Int32) : ks_c cy ad o 8 i j (upd c 0 v) = .inr (3, ([.int (c 0), .int (c 1), .int (c 2), .int (c 3), .int (c 4), .int (c 5), .int (c 6), .int (c 7), .ref (ad 10 i 0), .ref (ad 9 i 0)] : List Value).set 0 (.int v)) := rfl
theorem ks_c8s1 (cy : Nat → ClassId) (ad : ks_A) (o : Int64) (i j : Nat) (c : Nat → Int32) (v : Int32) : ks_c cy ad o 8 i j (upd c 1 v) = .inr (3, ([.int (c 0), .int (c 1), .int (c 2), .int (c 3), .int (c 4), .int (c 5), .int (c 6), .int (c 7), .ref (ad 10 i 0), .ref (ad 9 i 0)] : List Value).set 1 (.int v)) := rfl
theorem ks_c8s2 (cy : Nat → ClassId) (ad : ks_A) (o : Int64) (i j : Nat) (c : Nat → Int32) (v : Int32) : ks_c cy ad o 8 i j (upd c 2 v) = .inr (3, ([.int (c 0), .int (c 1), .int (c 2), .int (c 3), .int (c 4), .int (c 5), .int (c 6), .int (c 7), .ref (ad 10 i 0), .ref (ad 9 i 0)] : List Value).set 2 (.int v)) := rfl
theorem ks_c8s3 (cy : Nat → ClassId) (ad : ks_A) (o : Int64) (i j : Nat) (c : Nat → Int32) (v : Int32) : ks_c cy ad o 8 i j (upd c 3 v) = .inr (3, ([.int (c 0), .int (c 1), .int (c 2), .int (c 3), .int (c 4), .int (c 5), .int (c 6), .int (c 7), .ref (ad 10 i 0), .ref (ad 9 i 0)] : List Value).set 3 (.int v)) := rfl
theorem ks_c8s4 (cy : Nat → ClassId) (ad : ks_A) (o : Int64) (i j : Nat) (c : Nat → Int32) (v : Int32) : ks_c cy ad o 8 i j (upd c 4 v) = .inr (3, ([.int (c 0), .int (c 1), .int (c 2), .int (c 3), .int (c 4), .int (c 5), .int (c 6), .int (c 7), .ref (ad 10 i 0), .ref (ad 9 i 0)] : List Value).set 4 (.int v)) := rfl
theorem ks_c8s5 (cy : Nat → ClassId) (ad : ks_A) (o : Int64) (i j : Nat) (c : Nat → Int32) (v : Int32) : ks_c cy ad o 8 i j (upd c 5 v) = .inr (3, ([.int (c 0), .int (c 1), .int (c 2), .int (c 3), .int (c 4), .int (c 5), .int (c 6), .int (c 7), .ref (ad 10 i 0), .ref (ad 9 i 0)] : List Value).set 5 (.int v)) := rfl
theorem ks_c8s6 (cy : Nat → ClassId) (ad : ks_A) (o : Int64) (i j : Nat) (c : Nat → Int32) (v : Int32) : ks_c cy ad o 8 i j (upd c 6 v) = .inr (3, ([.int (c 0), .int (c 1), .int (c 2), .int (c 3), .int (c 4), .int (c 5), .int (c 6), .int (c 7), .ref (ad 10 i 0), .ref (ad 9 i 0)] : List Value).set 6 (.int v)) := rfl
theorem ks_c8s7 (cy : Nat → ClassId) (ad : ks_A) (o : Int64) (i j : Nat) (c : Nat → Int32) (v : Int32) : ks_c cy ad o 8 i j (upd c 7 v) = .inr (3, ([.int (c 0), .int (c 1), .int (c 2), .int (c 3), .int (c 4), .int (c 5), .int (c 6), .int (c 7), .ref (ad 10 i 0), .ref (ad 9 i 0)] : List Value).set 7 (.int v)) := rfl
theorem ks_c9s0 (cy : Nat → ClassId) (ad : ks_A) (o : Int64) (i j : Nat) (c : Nat → Int32) (v : Int32) : ks_c cy ad o 9 i j (upd c 0 v) = .inr (0, ([.int (c 0), .int (c 1), .int (c 2), .int (c 3), .int (c 4), .int (c 5), .int (c 6), .int (c 7), .int (c 8), .int (c 9), .int (c 10), .int (c 11)] : List Value).set 0 (.int v)) := rfl
theorem ks_c9s1 (cy : Nat → ClassId) (ad : ks_A) (o : Int64) (i j : Nat) (c : Nat → Int32) (v : Int32) : ks_c cy ad o 9 i j (upd c 1 v) = .inr (0, ([.int (c 0), .int (c 1), .int (c 2), .int (c 3), .int (c 4), .int (c 5), .int (c 6), .int (c 7), .int (c 8), .int (c 9), .int (c 10), .int (c 11)] : List Value).set 1 (.int v)) := rfl
theorem ks_c9s2 (cy : Nat → ClassId) (ad : ks_A) (o : Int64) (i j : Nat) (c : Nat → Int32) (v : Int32) : ks_c cy ad o 9 i j (upd c 2 v) = .inr (0, ([.int (c 0), .int (c 1), .int (c 2), .int (c 3), .int (c 4), .int (c 5), .int (c 6), .int (c 7), .int (c 8), .int (c 9), .int (c 10), .int (c 11)] : List Value).set 2 (.int v)) := rfl
theorem ks_c9s3 (cy : Nat → ClassId) (ad : ks_A) (o : Int64) (i j : Nat) (c : Nat → Int32) (v : Int32) : ks_c cy ad o 9 i j (upd c 3 v) = .inr (0, ([.int (c 0), .int (c 1), .int (c 2), .int (c 3), .int (c 4), .int (c 5), .int (c 6), .int (c 7), .int (c 8), .int (c 9), .int (c 10), .int (c 11)] : List Value).set 3 (.int v)) := rfl
theorem ks_c9s4 (cy : Nat → ClassId) (ad : ks_A) (o : Int64) (i j : Nat) (c : Nat → Int32) (v : Int32) : ks_c cy ad o 9 i j (upd c 4 v) = .inr (0, ([.int (c 0), .int (c 1), .int (c 2), .int (c 3), .int (c 4), .int (c 5), .int (c 6), .int (c 7), .int (c 8), .int (c 9), .int (c 10), .int (c 11)] : List Value).set 4 (.int v)) := rfl
theorem ks_c9s5 (cy : Nat → ClassId) (ad : ks_A) (o : Int64) (i j : Nat) (c : Nat → Int32) (v : Int32) : ks_c cy ad o 9 i j (upd c 5 v) = .inr (0, ([.int (c 0), .int (c 1), .int (c 2), .int (c 3), .int (c 4), .int (c 5), .int (c 6), .int (c 7), .int (c 8), .int (c 9), .int (c 10), .int (c 11)] : List Value).set 5 (.int v)) := rfl
theorem ks_c9s6 (cy : Nat → ClassId) (ad : ks_A) (o : Int64) (i j : Nat) (c : Nat → Int32) (v : Int32) : ks_c cy ad o 9 i j (upd c 6 v) = .inr (0, ([.int (c 0), .int (c 1), .int (c 2), .int (c 3), .int (c 4), .int (c 5), .int (c 6), .int (c 7), .int (c 8), .int (c 9), .int (c 10), .int (c 11)] : List Value).set 6 (.int v)) := rfl
theorem ks_c9s7 (cy : Nat → ClassId) (ad : ks_A) (o : Int64) (i j : Nat) (c : Nat → Int32) (v : Int32) : ks_c cy ad o 9 i j (upd c 7 v) = .inr (0, ([.int (c 0), .int (c 1), .int (c 2), .int (c 3), .int (c 4), .int (c 5), .int (c 6), .int (c 7), .int (c 8), .int (c 9), .int (c 10), .int (c 11)] : List Value).set 7 (.int v)) := rfl
theorem ks_c9s8 (cy : Nat → ClassId) (ad : ks_A) (o : Int64) (i j : Nat) (c : Nat → Int32) (v : Int32) : ks_c cy ad o 9 i j (upd c 8 v) = .inr (0, ([.int (c 0), .int (c 1), .int (c 2), .int (c 3), .int (c 4), .int (c 5), .int (c 6), .int (c 7), .int (c 8), .int (c 9), .int (c 10), .int (c 11)] : List Value).set 8 (.int v)) := rfl
theorem ks_c9s9 (cy : Nat → ClassId) (ad : ks_A) (o : Int64) (i j : Nat) (c : Nat → Int32) (v : Int32) : ks_c cy ad o 9 i j (upd c 9 v) = .inr (0, ([.int (c 0), .int (c 1), .int (c 2), .int (c 3), .int (c 4), .int (c 5), .int (c 6), .int (c 7), .int (c 8), .int (c 9), .int (c 10), .int (c 11)] : List Value).set 9 (.int v)) := rfl
theorem ks_c9s10 (cy : Nat → ClassId) (ad : ks_A) (o : Int64) (i j : Nat) (c : Nat → Int32) (v : Int32) : ks_c cy ad o 9 i j (upd c 10 v) = .inr (0, ([.int (c 0), .int (c 1), .int (c 2), .int (c 3), .int (c 4), .int (c 5), .int (c 6), .int (c 7), .int (c 8), .int (c 9), .int (c 10), .int (c 11)] : List Value).set 10 (.int v)) := rfl
theorem ks_c9s11 (cy : Nat → ClassId) (ad : ks_A) (o : Int64) (i j : Nat) (c : Nat → Int32) (v : Int32) : ks_c cy ad o 9 i j (upd c 11 v) = .inr (0, ([.int (c 0), .int (c 1), .int (c 2), .int (c 3), .int (c 4), .int (c 5), .int (c 6), .int (c 7), .int (c 8), .int (c 9), .int (c 10), .int (c 11)] : List Value).set 11 (.int v)) := rfl
theorem ks_c11s0 (cy : Nat → ClassId) (ad : ks_A) (o : Int64) (i j : Nat) (c : Nat → Int32) (v : Int32) : ks_c cy ad o 11 i j (upd c 0 v) = .inr (1, ([.int (c 0), .int (c 1), .int (c 2), .int (c 3), .int (c 4), .int (c 5), .int (c 6), .int (c 7)] : List Value).set 0 (.int v)) := rfl
theorem ks_c11s1 (cy : Nat → ClassId) (ad : ks_A) (o : Int64) (i j : Nat) (c : Nat → Int32) (v : Int32) : ks_c cy ad o 11 i j (upd c 1 v) = .inr (1, ([.int (c 0), .int (c 1), .int (c 2), .int (c 3), .int (c 4), .int (c 5), .int (c 6), .int (c 7)] : List Value).set 1 (.int v)) := rfl
theorem ks_c11s2 (cy : Nat → ClassId) (ad : ks_A) (o : Int64) (i j : Nat) (c : Nat → Int32) (v : Int32) : ks_c cy ad o 11 i j (upd c 2 v) = .inr (1, ([.int (c 0), .int (c 1), .int (c 2), .int (c 3), .int (c 4), .int (c 5), .int (c 6), .int (c 7)] : List Value).set 2 (.int v)) := rfl
theorem ks_c11s3 (cy : Nat → ClassId) (ad : ks_A) (o : Int64) (i j : Nat) (c : Nat → Int32) (v : Int32) : ks_c cy ad o 11 i j (upd c 3 v) = .inr (1, ([.int (c 0), .int (c 1), .int (c 2), .int (c 3), .int (c 4), .int (c 5), .int (c 6), .int (c 7)] : List Value).set 3 (.int v)) := rfl
theorem ks_c11s4 (cy : Nat → ClassId) (ad : ks_A) (o : Int64) (i j : Nat) (c : Nat → Int32) (v : Int32) : ks_c cy ad o 11 i j (upd c 4 v) = .inr (1, ([.int (c 0), .int (c 1), .int (c 2), .int (c 3), .int (c 4), .int (c 5), .int (c 6), .int (c 7)] : List Value).set 4 (.int v)) := rfl
theorem ks_c11s5 (cy : Nat → ClassId) (ad : ks_A) (o : Int64) (i j : Nat) (c : Nat → Int32) (v : Int32) : ks_c cy ad o 11 i j (upd c 5 v) = .inr (1, ([.int (c 0), .int (c 1), .int (c 2), .int (c 3), .int (c 4), .int (c 5), .int (c 6), .int (c 7)] : List Value).set 5 (.int v)) := rfl
theorem ks_c11s6 (cy : Nat → ClassId) (ad : ks_A) (o : Int64) (i j : Nat) (c : Nat → Int32) (v : Int32) : ks_c cy ad o 11 i j (upd c 6 v) = .inr (1, ([.int (c 0), .int (c 1), .int (c 2), .int (c 3), .int (c 4), .int (c 5), .int (c 6), .int (c 7)] : List Value).set 6 (.int v)) := rfl
theorem ks_c11s7 (cy : Nat → ClassId) (ad : ks_A) (o : Int64) (i j : Nat) (c : Nat → Int32) (v : Int32) : ks_c cy ad o 11 i j (upd c 7 v) = .inr (1, ([.int (c 0), .int (c 1), .int (c 2), .int (c 3), .int (c 4), .int (c 5), .int (c 6), .int (c 7)] : List Value).set 7 (.int v)) := rfl
theorem ks_c12s1 (cy : Nat → ClassId) (ad : ks_A) (o : Int64) (i j : Nat) (c : Nat → Int32) (v : Int32) : ks_c cy ad o 12 i j (upd c 1 v) = .inr (2, ([.ref (ad 13 i 0), .int (c 1)] : List Value).set 1 (.int v)) := rfl
theorem ks_c14s0 (cy : Nat → ClassId) (ad : ks_A) (o : Int64) (i j : Nat) (c : Nat → Int32) (v : Int32) : ks_c cy ad o 14 i j (upd c 0 v) = .inr (5, ([.int (c 0), .ref (ad 15 0 0), .ref (ad 16 0 0), .ref (ad 17 0 0), .ref (ad 18 0 0), .ref (ad 19 0 0), .ref (ad 20 0 0), .ref (ad 21 0 0), .ref (ad 22 0 0), .ref (ad 23 0 0), .ref (ad 24 0 0), .ref (ad 25 0 0), .int (c 12), .int (c 13), .ref (ad 26 0 0), .ref (ad 27 0 0), .ref (ad 28 0 0), .ref (ad 29 0 0), .ref (ad 30 0 0), .ref (ad 31 0 0), .ref (ad 32 0 0), .ref (ad 33 0 0), .ref (ad 34 0 0), .ref (ad 35 0 0), .ref (ad 36 0 0), .ref (ad 37 0 0), .ref (ad 38 0 0), .int (c 27), .ref (ad 39 0 0), .ref (ad 40 0 0), .ref (ad 41 0 0), .ref (ad 42 0 0), .ref (ad 43 0 0), .ref (ad 44 0 0)] : List Value).set 0 (.int v)) := rfl
theorem ks_c14s12 (cy : Nat → ClassId) (ad : ks_A) (o : Int64) (i j : Nat) (c : Nat → Int32) (v : Int32) : ks_c cy ad o 14 i j (upd c 12 v) = .inr (5, ([.int (c 0), .ref (ad 15 0 0), .ref (ad 16 0 0), .ref (ad 17 0 0), .ref (ad 18 0 0), .ref (ad 19 0 0), .ref (ad 20 0 0), .ref (ad 21 0 0), .ref (ad 22 0 0), .ref (ad 23 0 0), .ref (ad 24 0 0), .ref (ad 25 0 0), .int (c 12), .int (c 13), .ref (ad 26 0 0), .ref (ad 27 0 0), .ref (ad 28 0 0), .ref (ad 29 0 0), .ref (ad 30 0 0), .ref (ad 31 0 0), .ref (ad 32 0 0), .ref (ad 33 0 0), .ref (ad 34 0 0), .ref (ad 35 0 0), .ref (ad 36 0 0), .ref (ad 37 0 0), .ref (ad 38 0 0), .int (c 27), .ref (ad 39 0 0), .ref (ad 40 0 0), .ref (ad 41 0 0), .ref (ad 42 0 0), .ref (ad 43 0 0), .ref (ad 44 0 0)] : List Value).set 12 (.int v)) := rfl
theorem ks_c14s13 (cy : Nat → ClassId) (ad : ks_A) (o : Int64) (i j : Nat) (c : Nat → Int32) (v : Int32) : ks_c cy ad o 14 i j (upd c 13 v) = .inr (5, ([.int (c 0), .ref (ad 15 0 0), .ref (ad 16 0 0), .ref (ad 17 0 0), .ref (ad 18 0 0), .ref (ad 19 0 0), .ref (ad 20 0 0), .ref (ad 21 0 0), .ref (ad 22 0 0), .ref (ad 23 0 0), .ref (ad 24 0 0), .ref (ad 25 0 0), .int (c 12), .int (c 13), .ref (ad 26 0 0), .ref (ad 27 0 0), .ref (ad 28 0 0), .ref (ad 29 0 0), .ref (ad 30 0 0), .ref (ad 31 0 0), .ref (ad 32 0 0), .ref (ad 33 0 0), .ref (ad 34 0 0), .ref (ad 35 0 0), .ref (ad 36 0 0), .ref (ad 37 0 0), .ref (ad 38 0 0), .int (c 27), .ref (ad 39 0 0), .ref (ad 40 0 0), .ref (ad 41 0 0), .ref (ad 42 0 0), .ref (ad 43 0 0), .ref (ad 44 0 0)] : List Value).set 13 (.int v)) := rfl
theorem ks_c14s27 (cy : Nat → ClassId) (ad : ks_A) (o : Int64) (i j : Nat) (c : Nat → Int32) (v : Int32) : ks_c cy ad o 14 i j (upd c 27 v) = .inr (5, ([.int (c 0), .ref (ad 15 0 0), .ref (ad 16 0 0), .ref (ad 17 0 0), .ref (ad 18 0 0), .ref (ad 19 0 0), .ref (ad 20 0 0), .ref (ad 21 0 0), .ref (ad 22 0 0), .ref (ad 23 0 0), .ref (ad 24 0 0), .ref (ad 25 0 0), .int (c 12), .int (c 13), .ref (ad 26 0 0), .ref (ad 27 0 0), .ref (ad 28 0 0), .ref (ad 29 0 0), .ref (ad 30 0 0), .ref (ad 31 0 0), .ref (ad 32 0 0), .ref (ad 33 0 0), .ref (ad 34 0 0), .ref (ad 35 0 0), .ref (ad 36 0 0), .ref (ad 37 0 0), .ref (ad 38 0 0), .int (c 27), .ref (ad 39 0 0), .ref (ad 40 0 0), .ref (ad 41 0 0), .ref (ad 42 0 0), .ref (ad 43 0 0), .ref (ad 44 0 0)] : List Value).set 27 (.int v)) := rfl
abbrev ks_t (cy : Nat → ClassId) : List (ClassId × FieldType) := [(cy 0, .int), (cy 1, .boolean), (cy 2, .long), (cy 3, .object RX3), (cy 4, .object RX2), (cy 5, .object RX1), (cy 6, .array .int)]
def ks_W (D : va_G) (cy : Nat → ClassId) (ad : ks_A) (En : Nat → Prop) (σ : ks_S) (o : Int64) (H : Heap) : Prop := ∀ k i j, ks_v En k i j → va_at D vwCl (ad k i j, ks_c cy ad o k i j (σ k i j)) H
def ks_G (ad : ks_A) (En : Nat → Prop) (n0 : Nat → Prop) : Prop := (∀ k i j, ks_v En k i j → n0 (ad k i j)) ∧ ∀ k i j k' i' j', ks_v En k i j → ks_v En k' i' j' → ad k i j = ad k' i' j' → k' = k ∧ i' = i ∧ j' = j
abbrev ks_F (n0 : Nat → Prop) : Nat → Prop := n0
/-- the world in a state of the machine -/
def ks_U (D : va_G) (cy : Nat → ClassId) (ad : ks_A) (En : Nat → Prop) (n0 : Nat → Prop) (σ : ks_S) (o : Int64) (U : State) : Prop := True ∧ ks_W D cy ad En σ o U.heap ∧ va_K D vwCl (ks_t cy) U
theorem ks_P1 {D : va_G} {cy : Nat → ClassId} {ad : ks_A} {En : Nat → Prop} {σ : ks_S} {o : Int64} {H : Heap} (hW : ks_W D cy ad En σ o H) {k i j : Nat} (hv : ks_v En k i j) {E : va_E} (hc : ks_c cy ad o k i j (σ k i j) = E) : va_P D vwCl [(ad k i j, E)] H := by
  intro n q hq
  match n, hq with
  | 0, hq => cases hq; rw [← hc]; exact hW k i j hv
  | n + 1, hq => simp at hq
theorem ks_W.put {D : va_G} {cy : Nat → ClassId} {ad : ks_A} {En : Nat → Prop} {n0 : Nat → Prop} {σ : ks_S} {o : Int64} {H H1 : Heap} (hG : ks_G ad En n0) (hW : ks_W D cy ad En σ o H) {k i j : Nat} (hv : ks_v En k i j) {z : Nat} {v : Int32}
    (h1 : va_at D vwCl (ad k i j, ks_c cy ad o k i j (upd (σ k i j) z v)) H1) (h2 : ∀ q : Nat, q ≠ ad k i j → H1[q]? = H[q]?) : ks_W D cy ad En (ks_up σ k i j z v) o H1 := by
  intro k' i' j' hv'
  by_cases h : k' = k ∧ i' = i ∧ j' = j
  · obtain ⟨rfl, rfl, rfl⟩ := h
    rw [ks_up_c]
    exact h1
  · rw [ks_up_ne σ z v h]
    exact (hW k' i' j' hv').kept (h2 _ fun q => h (hG.2 k i j k' i' j' hv hv' q.symm))
theorem ks_W.out {D : va_G} {cy : Nat → ClassId} {ad : ks_A} {En : Nat → Prop} {n0 : Nat → Prop} {σ : ks_S} {o v : Int64} {H H1 : Heap} (hG : ks_G ad En n0) (hW : ks_W D cy ad En σ o H) (he : En 45)
    (h1 : va_at D vwCl (ad 45 0 0, ks_c cy ad v 45 0 0 (σ 45 0 0)) H1) (h2 : ∀ q : Nat, q ≠ ad 45 0 0 → H1[q]? = H[q]?) : ks_W D cy ad En σ v H1 := by
  intro k' i' j' hv'
  by_cases h : k' = 45 ∧ i' = 0 ∧ j' = 0
  · obtain ⟨rfl, rfl, rfl⟩ := h
    exact h1
  · have hne : ad k' i' j' ≠ ad 45 0 0 := fun q => h (hG.2 45 0 0 k' i' j' (ks_v45 (i := 0) (j := 0) he) hv' q.symm)
    have hk : k' ≠ 45 := fun q => by
      subst q
      obtain ⟨-, a1, a2, -⟩ := hv'
      have b1 : i' < 1 := a1
      have b2 : j' < 1 := a2
      exact h ⟨rfl, by omega, by omega⟩
    have he : ks_c cy ad v k' i' j' (σ k' i' j') = ks_c cy ad o k' i' j' (σ k' i' j') := by
      unfold ks_c
      simp only [hk, if_false]
    rw [he]
    exact (hW k' i' j' hv').kept (h2 _ hne)
section KSR
variable {p : Program} {l : Launch} {e : Env} {R : Room} {s : State} {m : MethodId} {args : Array Value} {below : List Frame} {meth : Method} {c : Code} {H : Heap} {locs : List Loc} {cells slots : Nat} {Q : State → Prop}
variable {cc : ByteArray} {pc : Nat} {ls : Array Slot} {rest : List Value} {D : va_G} {H0 : Heap} {cy : Nat → ClassId} {ad : ks_A} {En : Nat → Prop} {n0 : Nat → Prop} {σ : ks_S} {o : Int64} {k i j : Nat}
theorem ks_put (hexec : p.tables.exec = Jvm.exec) (hb : c.code = cc) {own C : String} {T : u_T} {N ci index : Nat} {Ts : List Cond} (hts : ∀ w ∈ Ts, w.before args s = true) (hin : ∀ w ∈ u_ws C T N, w ∈ Ts) (ty0 : Nat → FieldType) (hty : ∀ k, k < N → parseFieldDescriptor (T k).2.2.1 = some (ty0 k)) (hnm : ∀ a, a < N → ∀ b, b < N → a ≠ b → (T a).2.1 ≠ (T b).2.1) (hown : s.vm.findClass own = some m.cls) (hK : va_K D vwCl (ks_t cy) s) (hG : ks_G ad En n0) (hW : ks_W D cy ad En σ o H) (hS0 : va_S (ks_F n0) H0 H locs) (hv : ks_v En k i j) (z : Nat) {v : Int32} {fs : List Value} (hc : ks_c cy ad o k i j (σ k i j) = .inr (ci, fs)) (hc' : ks_c cy ad o k i j (upd (σ k i j) z v) = .inr (ci, fs.set z (.int v))) (hcl : vwCl[ci]? = some (C, T, N)) (hk : z < N) (hlink : (Cond.fieldLink own index (T z).1 (T z).2.1 (T z).2.2.1).before args s = true) (hfin : (T z).2.2.2 = false) {ty : FieldType} (hd : parseFieldDescriptor (T z).2.2.1 = some ty) (hn : narrow ty (.int v) = .int v) (hfit : fits ty (.int v) = true) (hl : z < fs.length)
    (hdg : decode cc pc = .ok (.putfield index, 3)) (kk : ∀ (H1 : Heap) (locs1 : List Loc), ks_W D cy ad En (ks_up σ k i j z v) o H1 → va_S (ks_F n0) H0 H1 locs1 → W p l e R s m args below meth c H1 locs1 cells slots Q (F0 m (pc + 3) ls rest)) : W p l e R s m args below meth c H locs cells slots Q (F0 m pc ls (.int v :: .ref (ad k i j) :: rest)) := by
  have hap := va_apart (own := own) hts hin ty0 hty hnm hK hcl
  have h0 := hW k i j hv
  rw [hc] at h0
  obtain ⟨r, h1, cell, q1, q2, q3, q4⟩ := h0
  have hr : r = (C, T, N) := Option.some.inj (h1.symm.trans hcl)
  subst hr
  obtain ⟨hS, hfc, kC, hkC, hkind⟩ := hK.1 ci _ hcl
  obtain ⟨cf, kf, fi, f, hi, hsl⟩ := hS z hk
  have hlay := hts _ (hin _ (u_in_lay hk))
  unfold u_lay at hlay
  rw [if_neg (by rw [hfin]; decide)] at hlay
  have hst := (u_facts hfc hkC (u_lays hts hin hk) hi).1
  have h6 := u_store hfc hkC hkind hlay hi hd hn hfit
  refine W.putK hexec hb (f := f) ⟨hown, hlink, ⟨_, _, _, hi⟩, hst⟩ (by rw [q2]; exact h6) q1 q3 (by rw [hsl]; exact k2_hasslot (q4 z hk)) rfl rfl hdg fun H' e1 e2 e3 => ?_
  rw [hsl] at e1 ⊢
  refine kk H' _ (hW.put hG hv ?_ e3) (hS0.put e2 e3 (hG.1 k i j hv))
  rw [hc']
  exact ⟨_, hcl, t_OB.to (V := updV (vp_V fs) z (.int v)) ⟨_, e1, q2, q3, t_set q4 hap hk (.int v)⟩ (fun j _ => vp_updV_set hl (.int v) j)⟩
theorem ks_iast (hexec : p.tables.exec = Jvm.exec) (hb : c.code = cc) (hK : va_K D vwCl (ks_t cy) s) (hG : ks_G ad En n0) (hW : ks_W D cy ad En σ o H) (hS0 : va_S (ks_F n0) H0 H locs) (hv : ks_v En k i j) {n : Nat} (hc : ∀ c, ks_c cy ad o k i j c = .inl (cy 0, n, .inl c)) {x y : Int32} (hin : ks_in x n = true) (hdg : decode cc pc = .ok (.iastore, 1))
    (kk : ∀ (H1 : Heap) (locs1 : List Loc), ks_W D cy ad En (ks_up σ k i j x.toNatClampNeg y) o H1 → va_S (ks_F n0) H0 H1 locs1 → W p l e R s m args below meth c H1 locs1 cells slots Q (F0 m (pc + 1) ls rest)) : W p l e R s m args below meth c H locs cells slots Q (F0 m pc ls (.int y :: .int x :: .ref (ad k i j) :: rest)) := by
  have h0 := hW k i j hv
  rw [hc] at h0
  have h0' : H[ad k i j]? = some (vp_cell (cy 0) (n, .inl (σ k i j))) := h0
  refine W.iast hexec hb h0' ((hK.2 0 _ rfl).1 n (fun j' => .int (σ k i j j'))) (fun q => by cases q) (by show ¬ (x < 0 ∨ (arrV _ _ _).slots.size ≤ _); rw [arrV_size]; exact ks_in_vp hin) rfl rfl hdg fun H1 e z oq => ?_
  refine kk H1 _ (hW.put hG hv ?_ oq) (hS0.put z oq (hG.1 k i j hv))
  rw [hc]
  show H1[ad k i j]? = some (vp_cell _ _)
  rw [e]
  rw [vp_cell_i, vp_cell_i, arrV_store]
  congr 2
  funext q
  by_cases hq : q = x.toNatClampNeg
  · subst hq
    simp [updV, upd]
  · simp [updV, upd, hq]
theorem ks_zast (hexec : p.tables.exec = Jvm.exec) (hb : c.code = cc) (hK : va_K D vwCl (ks_t cy) s) (hG : ks_G ad En n0) (hW : ks_W D cy ad En σ o H) (hS0 : va_S (ks_F n0) H0 H locs) (hv : ks_v En k i j) {n : Nat} (hc : ∀ c, ks_c cy ad o k i j c = .inl (cy 1, n, .inl c)) {x y : Int32} (hin : ks_in x n = true) (hy : vp_nar .boolean y = y) (hdg : decode cc pc = .ok (.bastore, 1))
    (kk : ∀ (H1 : Heap) (locs1 : List Loc), ks_W D cy ad En (ks_up σ k i j x.toNatClampNeg y) o H1 → va_S (ks_F n0) H0 H1 locs1 → W p l e R s m args below meth c H1 locs1 cells slots Q (F0 m (pc + 1) ls rest)) : W p l e R s m args below meth c H locs cells slots Q (F0 m pc ls (.int y :: .int x :: .ref (ad k i j) :: rest)) := by
  have h0 := hW k i j hv
  rw [hc] at h0
  have h0' : H[ad k i j]? = some (vp_cell (cy 1) (n, .inl (σ k i j))) := h0
  refine W.zast hexec hb h0' ((hK.2 1 _ rfl).1 n (fun j' => .int (σ k i j j'))) (fun q => by cases q) (by show ¬ (x < 0 ∨ (arrV _ _ _).slots.size ≤ _); rw [arrV_size]; exact ks_in_vp hin) rfl rfl hdg fun H1 e z oq => ?_
  refine kk H1 _ (hW.put hG hv ?_ oq) (hS0.put z oq (hG.1 k i j hv))
  rw [hc]
  show H1[ad k i j]? = some (vp_cell _ _)
  rw [e]
  rw [vp_cell_i, vp_cell_i, arrV_store]
  congr 2
  funext q
  by_cases hq : q = x.toNatClampNeg
  · subst hq
    simp only [updV, upd, if_true]
    rw [show narrow .boolean (.int y) = .int (vp_nar .boolean y) from rfl, hy]
  · simp [updV, upd, hq]
theorem ks_iald (hexec : p.tables.exec = Jvm.exec) (hb : c.code = cc) (hK : va_K D vwCl (ks_t cy) s) (hW : ks_W D cy ad En σ o H) (hv : ks_v En k i j) {n : Nat} (hc : ks_c cy ad o k i j (σ k i j) = .inl (cy 0, n, .inl (σ k i j))) {x : Int32} (hin : ks_in x n = true) (hdg : decode cc pc = .ok (.iaload, 1))
    (kk : W p l e R s m args below meth c H locs cells slots Q (F0 m (pc + 1) ls (.int (σ k i j x.toNatClampNeg) :: rest))) : W p l e R s m args below meth c H locs cells slots Q (F0 m pc ls (.int x :: .ref (ad k i j) :: rest)) :=
  va_iald hexec hb hK (ks_P1 hW hv hc) 0 0 rfl rfl (ks_in_vp hin) hdg kk
theorem ks_zald (hexec : p.tables.exec = Jvm.exec) (hb : c.code = cc) (hK : va_K D vwCl (ks_t cy) s) (hW : ks_W D cy ad En σ o H) (hv : ks_v En k i j) {n : Nat} (hc : ks_c cy ad o k i j (σ k i j) = .inl (cy 1, n, .inl (σ k i j))) {x : Int32} (hin : ks_in x n = true) (hdg : decode cc pc = .ok (.baload, 1))
    (kk : W p l e R s m args below meth c H locs cells slots Q (F0 m (pc + 1) ls (.int (σ k i j x.toNatClampNeg) :: rest))) : W p l e R s m args below meth c H locs cells slots Q (F0 m pc ls (.int x :: .ref (ad k i j) :: rest)) :=
  va_zald hexec hb hK (ks_P1 hW hv hc) 0 1 rfl rfl (ks_in_vp hin) hdg kk
theorem ks_aald (hexec : p.tables.exec = Jvm.exec) (hb : c.code = cc) (hK : va_K D vwCl (ks_t cy) s) (hW : ks_W D cy ad En σ o H) (hv : ks_v En k i j) (t0 : Nat) {n : Nat} {f : Nat → Nat} {cA : ClassId} {ty : FieldType} (hc : ks_c cy ad o k i j (σ k i j) = .inl (cA, n, ks_r f)) (ht : (ks_t cy)[t0]? = some (cA, ty)) (hty : ty.isReference = true) {x : Int32} (hin : ks_in x n = true) (hdg : decode cc pc = .ok (.aaload, 1))
    (kk : W p l e R s m args below meth c H locs cells slots Q (F0 m (pc + 1) ls (.ref (f x.toNatClampNeg) :: rest))) : W p l e R s m args below meth c H locs cells slots Q (F0 m pc ls (.int x :: .ref (ad k i j) :: rest)) := by
  have h0 := hW k i j hv
  rw [hc] at h0
  have h0' : H[ad k i j]? = some (arrV cA n (fun j' => va_rf (some (f j')))) := h0
  have hlt := ks_in_lt hin
  exact W.aald (v := .ref (f x.toNatClampNeg)) (ty := ty) hexec hb h0' ((hK.2 t0 _ ht).1 n (fun j' => va_rf (some (f j')))) hty (fun q => by cases q) (by rw [arrV_size]; exact ks_in_vp hin) (by rw [arrV_read _ _ hlt]; rfl) rfl rfl hdg kk
theorem ks_alen (hexec : p.tables.exec = Jvm.exec) (hb : c.code = cc) (hK : va_K D vwCl (ks_t cy) s) (hW : ks_W D cy ad En σ o H) (hv : ks_v En k i j) (t0 : Nat) {cA : ClassId} {x : vp_A} {ty : FieldType} (hc : ks_c cy ad o k i j (σ k i j) = .inl (cA, x)) (ht : (ks_t cy)[t0]? = some (cA, ty)) {v : Int32} (hv' : Int32.ofNat x.1 = v) (hdg : decode cc pc = .ok (.arraylength, 1))
    (kk : W p l e R s m args below meth c H locs cells slots Q (F0 m (pc + 1) ls (.int v :: rest))) : W p l e R s m args below meth c H locs cells slots Q (F0 m pc ls (.ref (ad k i j) :: rest)) :=
  va_alen hexec hb hK (ks_P1 hW hv hc) 0 t0 rfl ht hv' hdg kk
end KSR
/-- the world as a callee's start, and as a call leaves it -/
theorem ks_U.moved {D : va_G} {cy : Nat → ClassId} {ad : ks_A} {En : Nat → Prop} {n0 : Nat → Prop} {σ : ks_S} {o : Int64} {u U : State} (hvm : u.vm.Alike U.vm) (hh : U.heap = u.heap) (h : ks_U D cy ad En n0 σ o u) : ks_U D cy ad En n0 σ o U := by
  obtain ⟨h1, h2, h3⟩ := h
  exact ⟨trivial, by rw [hh]; exact h2, va_K.moved hvm h3⟩
theorem ks_U.blind {D : va_G} {cy : Nat → ClassId} {ad : ks_A} {En : Nat → Prop} {n0 : Nat → Prop} {σ : ks_S} {o : Int64} {av : List Value} : FrameBlind (va_Pc av (ks_U D cy ad En n0 σ o)) := fun a U g mk q => ⟨q.1, ks_U.moved (u := U) (U := U.calling g mk a) (Vm.Alike.refl U.vm) rfl q.2⟩
/-- what a walk holds: the method's start, and the world where it now is -/
theorem ks_U.now {D : va_G} {cy : Nat → ClassId} {ad : ks_A} {En : Nat → Prop} {n0 : Nat → Prop} {σ σ' : ks_S} {o o' : Int64} {s t : State} {H : Heap} {locs : List Loc} (h : ks_U D cy ad En n0 σ o s) (hS : va_S (ks_F n0) s.heap H locs) (hW : ks_W D cy ad En σ' o' H) (hvm : s.vm.Alike t.vm) (ht : t.heap = H) : ks_U D cy ad En n0 σ' o' t := by
  obtain ⟨h1, h2, h3⟩ := h
  exact ⟨trivial, by rw [ht]; exact hW, va_K.moved hvm h3⟩
theorem ks_U.W {D : va_G} {cy : Nat → ClassId} {ad : ks_A} {En : Nat → Prop} {n0 : Nat → Prop} {σ : ks_S} {o : Int64} {t : State} {H : Heap} (h : ks_U D cy ad En n0 σ o t) (ht : t.heap = H) : ks_W D cy ad En σ o H := by
  subst ht
  exact h.2.1
theorem ks_recv {D : va_G} {cy : Nat → ClassId} {ad : ks_A} {En : Nat → Prop} {σ : ks_S} {o : Int64} {s : State} {H : Heap} (hK : va_K D vwCl (ks_t cy) s) (hW : ks_W D cy ad En σ o H) {k i j ci : Nat} {fs : List Value} {q : vw_C} (hv : ks_v En k i j) (hc : ks_c cy ad o k i j (σ k i j) = .inr (ci, fs)) (hcl : vwCl[ci]? = some q) : ∃ cell : Cell, H[ad k i j]? = some cell ∧ cell.vm.isStatics = false ∧ s.vm.findClass q.1 = some cell.cls :=
  va_recv hK (ks_P1 hW hv hc) (q0 := 0) hcl rfl
