/-! SpinKernel$Job.start(II)V -/
def f_X0_start (σ : ks_S) (a0 : Nat) (x1 : Int32) (x2 : Int32) : Option ks_S :=
  some ((ks_up (ks_up (ks_up (ks_up (ks_up (ks_up σ 9 a0 0 0 1) 9 a0 0 1 1) 9 a0 0 2 x1) 9 a0 0 3 1) 9 a0 0 4 0) 9 a0 0 5 x2))
theorem in_X0_start_0 : ∀ w ∈ wsX00, w ∈ wsX0_start := by decide +kernel
set_option maxHeartbeats 4000000 in
set_option maxRecDepth 100000 in
theorem t_X0_start {p : Program} {l : Launch} {e : Env} {s : State} {m : MethodId} {args : Array Value} {below : List Frame} {meth : Method} {c : Code} {D : va_G} {cy : Nat → ClassId} {ad : ks_A} {En : Nat → Prop} {n0 : Nat → Prop} {σ0 : ks_S} {o : Int64} {out : ks_S} (C : ks_M p s m args meth c D cy ad En (fun k => ks_g k = 0) n0 σ0 o wsX0_start cX0_start RX0 3 (none)) {σ : ks_S} {a0 : Nat} {x1 : Int32} {x2 : Int32} (v0 : ks_v En 9 a0 0) (hf : f_X0_start σ a0 x1 x2 = some out) {H : Heap} {locs : List Loc} {ls : Array Slot} (hW : ks_W D cy ad En σ o H) (hS : va_S (ks_F n0) s.heap H locs) (hl : lv_has ls 3 [(0, .ref (ad 9 a0 0)), (1, .int x1), (2, .int x2)]) : W p l e (ks_Rm 0 0 0 0) s m args below meth c H locs 0 0 (MQ below (ks_Qv D cy ad En n0 o out) args s 0 0 (ks_F n0)) (F0 m 0 ls []) := by
  obtain ⟨hx, hb, hml, hr, hown, hts, hlocks, hG, hU0, hE⟩ := id C
  have hK := hU0.2.2
  unfold f_X0_start at hf
  refine lv_aload_n hx hb dX0_start_0 rfl (lv_at hl 0 rfl) ?_
  refine lv_iconst (v := 1) hx hb dX0_start_1 (by decide) ?_
  refine ks_put (D := D) (ci := 0) (C := RX0) (T := TX0) (N := 12) hx hb hts in_X0_start_0 tyX0 tyX0_ok nmX0 hown hK hG hW hS v0 0 (v := 1) (ks_c9 cy ad o a0 0 _) (ks_c9s0 cy ad o a0 0 _ _) rfl (by decide) (hts (.fieldLink RX0 15 "SpinKernel$Job" "hasCome" "Z") (by decide +kernel)) rfl (ty := .boolean) (by decide +kernel) rfl rfl (Nat.le_of_ble_eq_true rfl) dX0_start_2 (fun H locs hW hS => ?_)
  refine lv_aload_n hx hb dX0_start_5 rfl (lv_at hl 0 rfl) ?_
  refine lv_iconst (v := 1) hx hb dX0_start_6 (by decide) ?_
  refine ks_put (D := D) (ci := 0) (C := RX0) (T := TX0) (N := 12) hx hb hts in_X0_start_0 tyX0 tyX0_ok nmX0 hown hK hG hW hS v0 1 (v := 1) (ks_c9 cy ad o a0 0 _) (ks_c9s1 cy ad o a0 0 _ _) rfl (by decide) (hts (.fieldLink RX0 19 "SpinKernel$Job" "isOpen" "Z") (by decide +kernel)) rfl (ty := .boolean) (by decide +kernel) rfl rfl (Nat.le_of_ble_eq_true rfl) dX0_start_7 (fun H locs hW hS => ?_)
  refine lv_aload_n hx hb dX0_start_10 rfl (lv_at hl 0 rfl) ?_
  refine lv_iload_n hx hb dX0_start_11 rfl (lv_at hl 1 rfl) ?_
  refine ks_put (D := D) (ci := 0) (C := RX0) (T := TX0) (N := 12) hx hb hts in_X0_start_0 tyX0 tyX0_ok nmX0 hown hK hG hW hS v0 2 (v := x1) (ks_c9 cy ad o a0 0 _) (ks_c9s2 cy ad o a0 0 _ _) rfl (by decide) (hts (.fieldLink RX0 22 "SpinKernel$Job" "cameAt" "I") (by decide +kernel)) rfl (ty := .int) (by decide +kernel) rfl rfl (Nat.le_of_ble_eq_true rfl) dX0_start_12 (fun H locs hW hS => ?_)
  refine lv_aload_n hx hb dX0_start_15 rfl (lv_at hl 0 rfl) ?_
  refine lv_iconst (v := 1) hx hb dX0_start_16 (by decide) ?_
  refine ks_put (D := D) (ci := 0) (C := RX0) (T := TX0) (N := 12) hx hb hts in_X0_start_0 tyX0 tyX0_ok nmX0 hown hK hG hW hS v0 3 (v := 1) (ks_c9 cy ad o a0 0 _) (ks_c9s3 cy ad o a0 0 _ _) rfl (by decide) (hts (.fieldLink RX0 9 "SpinKernel$Job" "state" "I") (by decide +kernel)) rfl (ty := .int) (by decide +kernel) rfl rfl (Nat.le_of_ble_eq_true rfl) dX0_start_17 (fun H locs hW hS => ?_)
  refine lv_aload_n hx hb dX0_start_20 rfl (lv_at hl 0 rfl) ?_
  refine lv_iconst (v := 0) hx hb dX0_start_21 (by decide) ?_
  refine ks_put (D := D) (ci := 0) (C := RX0) (T := TX0) (N := 12) hx hb hts in_X0_start_0 tyX0 tyX0_ok nmX0 hown hK hG hW hS v0 4 (v := 0) (ks_c9 cy ad o a0 0 _) (ks_c9s4 cy ad o a0 0 _ _) rfl (by decide) (hts (.fieldLink RX0 25 "SpinKernel$Job" "workDone" "I") (by decide +kernel)) rfl (ty := .int) (by decide +kernel) rfl rfl (Nat.le_of_ble_eq_true rfl) dX0_start_22 (fun H locs hW hS => ?_)
  refine lv_aload_n hx hb dX0_start_25 rfl (lv_at hl 0 rfl) ?_
  refine lv_iload_n hx hb dX0_start_26 rfl (lv_at hl 2 rfl) ?_
  refine ks_put (D := D) (ci := 0) (C := RX0) (T := TX0) (N := 12) hx hb hts in_X0_start_0 tyX0 tyX0_ok nmX0 hown hK hG hW hS v0 5 (v := x2) (ks_c9 cy ad o a0 0 _) (ks_c9s5 cy ad o a0 0 _ _) rfl (by decide) (hts (.fieldLink RX0 28 "SpinKernel$Job" "next" "I") (by decide +kernel)) rfl (ty := .int) (by decide +kernel) rfl rfl (Nat.le_of_ble_eq_true rfl) dX0_start_27 (fun H locs hW hS => ?_)
  exact ks_vret C hf hW hS dX0_start_30
set_option maxHeartbeats 4000000 in
set_option maxRecDepth 100000 in
theorem m_X0_start (l : Launch) (D : va_G) (cy : Nat → ClassId) (ad : ks_A) (En : Nat → Prop) (n0 : Nat → Prop) (hG : ks_G ad En n0) (hE : ∀ k, ks_g k = 0 → En k) (o : Int64) {σ : ks_S} {a0 : Nat} {x1 : Int32} {x2 : Int32} (v0 : ks_v En 9 a0 0) {out : ks_S} (hf : f_X0_start σ a0 x1 x2 = some out) : Met l yX0_start wsX0_start (ks_Rm 0 0 0 0) (va_Pc [.ref (ad 9 a0 0), .int x1, .int x2] (ks_U D cy ad En n0 σ o)) (ks_Qv D cy ad En n0 o out) 0 0 (ks_F n0) := by
  refine Met.ofW (cc := cX0_start) (maxL := 3) (ret := none) (by decide) rfl ?_
  intro p e s m args below meth c s₁ B hml hv
  obtain ⟨rfl, hU⟩ := hv
  have hl := lv_entry ([.ref (ad 9 a0 0), .int x1, .int x2]) (n := 3) (Nat.le_of_ble_eq_true rfl)
  rw [lg_entry_eq]
  generalize (lg_sl ([.ref (ad 9 a0 0), .int x1, .int x2]) ++ List.replicate (3 - (lg_sl ([.ref (ad 9 a0 0), .int x1, .int x2])).length) Slot.unset).toArray = ls at hl ⊢
  exact t_X0_start ⟨B.exec, B.bytes, hml, B.returns, findClass_of_methodNamed B.named, atoms_spec (ws := wsX0_start) B.pre, B.notSynchronized, hG, hU, hE⟩ v0 hf hU.2.1 va_S.rf hl

/-! SpinKernel$Job.end(II)V -/
def f_X0_end (σ : ks_S) (a0 : Nat) (x1 : Int32) (x2 : Int32) : Option ks_S :=
  (if ((((ks_up (ks_up (ks_up (ks_up σ 9 a0 0 1 0) 9 a0 0 8 ((((((ks_up σ 9 a0 0 1 0)) 9 a0 0 8)) + 1))) 9 a0 0 11 ((x1 - ((((ks_up (ks_up σ 9 a0 0 1 0) 9 a0 0 8 ((((((ks_up σ 9 a0 0 1 0)) 9 a0 0 8)) + 1)))) 9 a0 0 2))))) 9 a0 0 10 ((if ((((ks_up (ks_up (ks_up σ 9 a0 0 1 0) 9 a0 0 8 ((((((ks_up σ 9 a0 0 1 0)) 9 a0 0 8)) + 1))) 9 a0 0 11 ((x1 - ((((ks_up (ks_up σ 9 a0 0 1 0) 9 a0 0 8 ((((((ks_up σ 9 a0 0 1 0)) 9 a0 0 8)) + 1)))) 9 a0 0 2)))))) 9 a0 0 10)) < ((((ks_up (ks_up (ks_up σ 9 a0 0 1 0) 9 a0 0 8 ((((((ks_up σ 9 a0 0 1 0)) 9 a0 0 8)) + 1))) 9 a0 0 11 ((x1 - ((((ks_up (ks_up σ 9 a0 0 1 0) 9 a0 0 8 ((((((ks_up σ 9 a0 0 1 0)) 9 a0 0 8)) + 1)))) 9 a0 0 2)))))) 9 a0 0 11)) then ((((ks_up (ks_up (ks_up σ 9 a0 0 1 0) 9 a0 0 8 ((((((ks_up σ 9 a0 0 1 0)) 9 a0 0 8)) + 1))) 9 a0 0 11 ((x1 - ((((ks_up (ks_up σ 9 a0 0 1 0) 9 a0 0 8 ((((((ks_up σ 9 a0 0 1 0)) 9 a0 0 8)) + 1)))) 9 a0 0 2)))))) 9 a0 0 11)) else ((((ks_up (ks_up (ks_up σ 9 a0 0 1 0) 9 a0 0 8 ((((((ks_up σ 9 a0 0 1 0)) 9 a0 0 8)) + 1))) 9 a0 0 11 ((x1 - ((((ks_up (ks_up σ 9 a0 0 1 0) 9 a0 0 8 ((((((ks_up σ 9 a0 0 1 0)) 9 a0 0 8)) + 1)))) 9 a0 0 2)))))) 9 a0 0 10)))))) 9 a0 0 11)) ≤ x2 then some ((ks_up (ks_up (ks_up (ks_up σ 9 a0 0 1 0) 9 a0 0 8 ((((((ks_up σ 9 a0 0 1 0)) 9 a0 0 8)) + 1))) 9 a0 0 11 ((x1 - ((((ks_up (ks_up σ 9 a0 0 1 0) 9 a0 0 8 ((((((ks_up σ 9 a0 0 1 0)) 9 a0 0 8)) + 1)))) 9 a0 0 2))))) 9 a0 0 10 ((if ((((ks_up (ks_up (ks_up σ 9 a0 0 1 0) 9 a0 0 8 ((((((ks_up σ 9 a0 0 1 0)) 9 a0 0 8)) + 1))) 9 a0 0 11 ((x1 - ((((ks_up (ks_up σ 9 a0 0 1 0) 9 a0 0 8 ((((((ks_up σ 9 a0 0 1 0)) 9 a0 0 8)) + 1)))) 9 a0 0 2)))))) 9 a0 0 10)) < ((((ks_up (ks_up (ks_up σ 9 a0 0 1 0) 9 a0 0 8 ((((((ks_up σ 9 a0 0 1 0)) 9 a0 0 8)) + 1))) 9 a0 0 11 ((x1 - ((((ks_up (ks_up σ 9 a0 0 1 0) 9 a0 0 8 ((((((ks_up σ 9 a0 0 1 0)) 9 a0 0 8)) + 1)))) 9 a0 0 2)))))) 9 a0 0 11)) then ((((ks_up (ks_up (ks_up σ 9 a0 0 1 0) 9 a0 0 8 ((((((ks_up σ 9 a0 0 1 0)) 9 a0 0 8)) + 1))) 9 a0 0 11 ((x1 - ((((ks_up (ks_up σ 9 a0 0 1 0) 9 a0 0 8 ((((((ks_up σ 9 a0 0 1 0)) 9 a0 0 8)) + 1)))) 9 a0 0 2)))))) 9 a0 0 11)) else ((((ks_up (ks_up (ks_up σ 9 a0 0 1 0) 9 a0 0 8 ((((((ks_up σ 9 a0 0 1 0)) 9 a0 0 8)) + 1))) 9 a0 0 11 ((x1 - ((((ks_up (ks_up σ 9 a0 0 1 0) 9 a0 0 8 ((((((ks_up σ 9 a0 0 1 0)) 9 a0 0 8)) + 1)))) 9 a0 0 2)))))) 9 a0 0 10)))))) else some ((ks_up (ks_up (ks_up (ks_up (ks_up σ 9 a0 0 1 0) 9 a0 0 8 ((((((ks_up σ 9 a0 0 1 0)) 9 a0 0 8)) + 1))) 9 a0 0 11 ((x1 - ((((ks_up (ks_up σ 9 a0 0 1 0) 9 a0 0 8 ((((((ks_up σ 9 a0 0 1 0)) 9 a0 0 8)) + 1)))) 9 a0 0 2))))) 9 a0 0 10 ((if ((((ks_up (ks_up (ks_up σ 9 a0 0 1 0) 9 a0 0 8 ((((((ks_up σ 9 a0 0 1 0)) 9 a0 0 8)) + 1))) 9 a0 0 11 ((x1 - ((((ks_up (ks_up σ 9 a0 0 1 0) 9 a0 0 8 ((((((ks_up σ 9 a0 0 1 0)) 9 a0 0 8)) + 1)))) 9 a0 0 2)))))) 9 a0 0 10)) < ((((ks_up (ks_up (ks_up σ 9 a0 0 1 0) 9 a0 0 8 ((((((ks_up σ 9 a0 0 1 0)) 9 a0 0 8)) + 1))) 9 a0 0 11 ((x1 - ((((ks_up (ks_up σ 9 a0 0 1 0) 9 a0 0 8 ((((((ks_up σ 9 a0 0 1 0)) 9 a0 0 8)) + 1)))) 9 a0 0 2)))))) 9 a0 0 11)) then ((((ks_up (ks_up (ks_up σ 9 a0 0 1 0) 9 a0 0 8 ((((((ks_up σ 9 a0 0 1 0)) 9 a0 0 8)) + 1))) 9 a0 0 11 ((x1 - ((((ks_up (ks_up σ 9 a0 0 1 0) 9 a0 0 8 ((((((ks_up σ 9 a0 0 1 0)) 9 a0 0 8)) + 1)))) 9 a0 0 2)))))) 9 a0 0 11)) else ((((ks_up (ks_up (ks_up σ 9 a0 0 1 0) 9 a0 0 8 ((((((ks_up σ 9 a0 0 1 0)) 9 a0 0 8)) + 1))) 9 a0 0 11 ((x1 - ((((ks_up (ks_up σ 9 a0 0 1 0) 9 a0 0 8 ((((((ks_up σ 9 a0 0 1 0)) 9 a0 0 8)) + 1)))) 9 a0 0 2)))))) 9 a0 0 10))))) 9 a0 0 9 ((((((ks_up (ks_up (ks_up (ks_up σ 9 a0 0 1 0) 9 a0 0 8 ((((((ks_up σ 9 a0 0 1 0)) 9 a0 0 8)) + 1))) 9 a0 0 11 ((x1 - ((((ks_up (ks_up σ 9 a0 0 1 0) 9 a0 0 8 ((((((ks_up σ 9 a0 0 1 0)) 9 a0 0 8)) + 1)))) 9 a0 0 2))))) 9 a0 0 10 ((if ((((ks_up (ks_up (ks_up σ 9 a0 0 1 0) 9 a0 0 8 ((((((ks_up σ 9 a0 0 1 0)) 9 a0 0 8)) + 1))) 9 a0 0 11 ((x1 - ((((ks_up (ks_up σ 9 a0 0 1 0) 9 a0 0 8 ((((((ks_up σ 9 a0 0 1 0)) 9 a0 0 8)) + 1)))) 9 a0 0 2)))))) 9 a0 0 10)) < ((((ks_up (ks_up (ks_up σ 9 a0 0 1 0) 9 a0 0 8 ((((((ks_up σ 9 a0 0 1 0)) 9 a0 0 8)) + 1))) 9 a0 0 11 ((x1 - ((((ks_up (ks_up σ 9 a0 0 1 0) 9 a0 0 8 ((((((ks_up σ 9 a0 0 1 0)) 9 a0 0 8)) + 1)))) 9 a0 0 2)))))) 9 a0 0 11)) then ((((ks_up (ks_up (ks_up σ 9 a0 0 1 0) 9 a0 0 8 ((((((ks_up σ 9 a0 0 1 0)) 9 a0 0 8)) + 1))) 9 a0 0 11 ((x1 - ((((ks_up (ks_up σ 9 a0 0 1 0) 9 a0 0 8 ((((((ks_up σ 9 a0 0 1 0)) 9 a0 0 8)) + 1)))) 9 a0 0 2)))))) 9 a0 0 11)) else ((((ks_up (ks_up (ks_up σ 9 a0 0 1 0) 9 a0 0 8 ((((((ks_up σ 9 a0 0 1 0)) 9 a0 0 8)) + 1))) 9 a0 0 11 ((x1 - ((((ks_up (ks_up σ 9 a0 0 1 0) 9 a0 0 8 ((((((ks_up σ 9 a0 0 1 0)) 9 a0 0 8)) + 1)))) 9 a0 0 2)))))) 9 a0 0 10)))))) 9 a0 0 9)) + 1)))))
theorem in_X0_end_0 : ∀ w ∈ wsX00, w ∈ wsX0_end := by decide +kernel
set_option maxHeartbeats 4000000 in
set_option maxRecDepth 100000 in
theorem t_X0_end {p : Program} {l : Launch} {e : Env} {s : State} {m : MethodId} {args : Array Value} {below : List Frame} {meth : Method} {c : Code} {D : va_G} {cy : Nat → ClassId} {ad : ks_A} {En : Nat → Prop} {n0 : Nat → Prop} {σ0 : ks_S} {o : Int64} {out : ks_S} (C : ks_M p s m args meth c D cy ad En (fun k => ks_g k = 0) n0 σ0 o wsX0_end cX0_end RX0 3 (none)) {σ : ks_S} {a0 : Nat} {x1 : Int32} {x2 : Int32} (v0 : ks_v En 9 a0 0) (hf : f_X0_end σ a0 x1 x2 = some out) {H : Heap} {locs : List Loc} {ls : Array Slot} (hW : ks_W D cy ad En σ o H) (hS : va_S (ks_F n0) s.heap H locs) (hl : lv_has ls 3 [(0, .ref (ad 9 a0 0)), (1, .int x1), (2, .int x2)]) : W p l e (ks_Rm 1 0 0 14) s m args below meth c H locs 0 0 (MQ below (ks_Qv D cy ad En n0 o out) args s 0 0 (ks_F n0)) (F0 m 0 ls []) := by
  obtain ⟨hx, hb, hml, hr, hown, hts, hlocks, hG, hU0, hE⟩ := id C
  have hK := hU0.2.2
  unfold f_X0_end at hf
  refine lv_aload_n hx hb dX0_end_0 rfl (lv_at hl 0 rfl) ?_
  refine lv_iconst (v := 0) hx hb dX0_end_1 (by decide) ?_
  refine ks_put (D := D) (ci := 0) (C := RX0) (T := TX0) (N := 12) hx hb hts in_X0_end_0 tyX0 tyX0_ok nmX0 hown hK hG hW hS v0 1 (v := 0) (ks_c9 cy ad o a0 0 _) (ks_c9s1 cy ad o a0 0 _ _) rfl (by decide) (hts (.fieldLink RX0 19 "SpinKernel$Job" "isOpen" "Z") (by decide +kernel)) rfl (ty := .boolean) (by decide +kernel) rfl rfl (Nat.le_of_ble_eq_true rfl) dX0_end_2 (fun H locs hW hS => ?_)
  refine lv_aload_n hx hb dX0_end_5 rfl (lv_at hl 0 rfl) ?_
  refine lv_dup hx hb dX0_end_6 rfl ?_
  refine va_get (D := D) (ci := 0) (v := .int (((ks_up σ 9 a0 0 1 0)) 9 a0 0 8)) (C := RX0) (T := TX0) (N := 12) hx hb hts in_X0_end_0 hown hK (ks_P1 hW v0 (ks_c9 cy ad o a0 0 _)) 0 rfl rfl 8 (by decide) (hts (.fieldLink RX0 31 "SpinKernel$Job" "ended" "I") (by decide +kernel)) (fun _ h => h) rfl dX0_end_7 ?_
  refine lv_iconst (v := 1) hx hb dX0_end_10 (by decide) ?_
  refine lv_iadd hx hb dX0_end_11 ?_
  refine ks_put (D := D) (ci := 0) (C := RX0) (T := TX0) (N := 12) hx hb hts in_X0_end_0 tyX0 tyX0_ok nmX0 hown hK hG hW hS v0 8 (v := (((((ks_up σ 9 a0 0 1 0)) 9 a0 0 8)) + 1)) (ks_c9 cy ad o a0 0 _) (ks_c9s8 cy ad o a0 0 _ _) rfl (by decide) (hts (.fieldLink RX0 31 "SpinKernel$Job" "ended" "I") (by decide +kernel)) rfl (ty := .int) (by decide +kernel) rfl rfl (Nat.le_of_ble_eq_true rfl) dX0_end_12 (fun H locs hW hS => ?_)
  refine lv_aload_n hx hb dX0_end_15 rfl (lv_at hl 0 rfl) ?_
  refine lv_iload_n hx hb dX0_end_16 rfl (lv_at hl 1 rfl) ?_
  refine lv_aload_n hx hb dX0_end_17 rfl (lv_at hl 0 rfl) ?_
  refine va_get (D := D) (ci := 0) (v := .int (((ks_up (ks_up σ 9 a0 0 1 0) 9 a0 0 8 ((((((ks_up σ 9 a0 0 1 0)) 9 a0 0 8)) + 1)))) 9 a0 0 2)) (C := RX0) (T := TX0) (N := 12) hx hb hts in_X0_end_0 hown hK (ks_P1 hW v0 (ks_c9 cy ad o a0 0 _)) 0 rfl rfl 2 (by decide) (hts (.fieldLink RX0 22 "SpinKernel$Job" "cameAt" "I") (by decide +kernel)) (fun _ h => h) rfl dX0_end_18 ?_
  refine lv_isub hx hb dX0_end_21 ?_
  refine ks_put (D := D) (ci := 0) (C := RX0) (T := TX0) (N := 12) hx hb hts in_X0_end_0 tyX0 tyX0_ok nmX0 hown hK hG hW hS v0 11 (v := (x1 - ((((ks_up (ks_up σ 9 a0 0 1 0) 9 a0 0 8 ((((((ks_up σ 9 a0 0 1 0)) 9 a0 0 8)) + 1)))) 9 a0 0 2)))) (ks_c9 cy ad o a0 0 _) (ks_c9s11 cy ad o a0 0 _ _) rfl (by decide) (hts (.fieldLink RX0 34 "SpinKernel$Job" "latestResponse" "I") (by decide +kernel)) rfl (ty := .int) (by decide +kernel) rfl rfl (Nat.le_of_ble_eq_true rfl) dX0_end_22 (fun H locs hW hS => ?_)
  refine lv_aload_n hx hb dX0_end_25 rfl (lv_at hl 0 rfl) ?_
  refine lv_aload_n hx hb dX0_end_26 rfl (lv_at hl 0 rfl) ?_
  refine va_get (D := D) (ci := 0) (v := .int (((ks_up (ks_up (ks_up σ 9 a0 0 1 0) 9 a0 0 8 ((((((ks_up σ 9 a0 0 1 0)) 9 a0 0 8)) + 1))) 9 a0 0 11 ((x1 - ((((ks_up (ks_up σ 9 a0 0 1 0) 9 a0 0 8 ((((((ks_up σ 9 a0 0 1 0)) 9 a0 0 8)) + 1)))) 9 a0 0 2)))))) 9 a0 0 10)) (C := RX0) (T := TX0) (N := 12) hx hb hts in_X0_end_0 hown hK (ks_P1 hW v0 (ks_c9 cy ad o a0 0 _)) 0 rfl rfl 10 (by decide) (hts (.fieldLink RX0 37 "SpinKernel$Job" "greatestResponse" "I") (by decide +kernel)) (fun _ h => h) rfl dX0_end_27 ?_
  refine lv_aload_n hx hb dX0_end_30 rfl (lv_at hl 0 rfl) ?_
  refine va_get (D := D) (ci := 0) (v := .int (((ks_up (ks_up (ks_up σ 9 a0 0 1 0) 9 a0 0 8 ((((((ks_up σ 9 a0 0 1 0)) 9 a0 0 8)) + 1))) 9 a0 0 11 ((x1 - ((((ks_up (ks_up σ 9 a0 0 1 0) 9 a0 0 8 ((((((ks_up σ 9 a0 0 1 0)) 9 a0 0 8)) + 1)))) 9 a0 0 2)))))) 9 a0 0 11)) (C := RX0) (T := TX0) (N := 12) hx hb hts in_X0_end_0 hown hK (ks_P1 hW v0 (ks_c9 cy ad o a0 0 _)) 0 rfl rfl 11 (by decide) (hts (.fieldLink RX0 34 "SpinKernel$Job" "latestResponse" "I") (by decide +kernel)) (fun _ h => h) rfl dX0_end_31 ?_
  refine va_mmax hx hb (hml.trans hl.1.symm) hown (hts (.methodLink RX0 40 Lib.Math.max.name) (by decide +kernel)) (hts (.static Lib.Math.max.name) (by decide +kernel)) (hts (.initialized "java/lang/Math") (by decide +kernel)) (hts (.code Lib.Math.max.name Lib.Math.max.code 2 (some .int)) (by decide +kernel)) (Nat.le_of_ble_eq_true rfl) (Nat.le_of_ble_eq_true rfl) (Nat.le_of_ble_eq_true rfl) (Nat.le_of_ble_eq_true rfl) dX0_end_34 ?_
  refine ks_put (D := D) (ci := 0) (C := RX0) (T := TX0) (N := 12) hx hb hts in_X0_end_0 tyX0 tyX0_ok nmX0 hown hK hG hW hS v0 10 (v := (if ((((ks_up (ks_up (ks_up σ 9 a0 0 1 0) 9 a0 0 8 ((((((ks_up σ 9 a0 0 1 0)) 9 a0 0 8)) + 1))) 9 a0 0 11 ((x1 - ((((ks_up (ks_up σ 9 a0 0 1 0) 9 a0 0 8 ((((((ks_up σ 9 a0 0 1 0)) 9 a0 0 8)) + 1)))) 9 a0 0 2)))))) 9 a0 0 10)) < ((((ks_up (ks_up (ks_up σ 9 a0 0 1 0) 9 a0 0 8 ((((((ks_up σ 9 a0 0 1 0)) 9 a0 0 8)) + 1))) 9 a0 0 11 ((x1 - ((((ks_up (ks_up σ 9 a0 0 1 0) 9 a0 0 8 ((((((ks_up σ 9 a0 0 1 0)) 9 a0 0 8)) + 1)))) 9 a0 0 2)))))) 9 a0 0 11)) then ((((ks_up (ks_up (ks_up σ 9 a0 0 1 0) 9 a0 0 8 ((((((ks_up σ 9 a0 0 1 0)) 9 a0 0 8)) + 1))) 9 a0 0 11 ((x1 - ((((ks_up (ks_up σ 9 a0 0 1 0) 9 a0 0 8 ((((((ks_up σ 9 a0 0 1 0)) 9 a0 0 8)) + 1)))) 9 a0 0 2)))))) 9 a0 0 11)) else ((((ks_up (ks_up (ks_up σ 9 a0 0 1 0) 9 a0 0 8 ((((((ks_up σ 9 a0 0 1 0)) 9 a0 0 8)) + 1))) 9 a0 0 11 ((x1 - ((((ks_up (ks_up σ 9 a0 0 1 0) 9 a0 0 8 ((((((ks_up σ 9 a0 0 1 0)) 9 a0 0 8)) + 1)))) 9 a0 0 2)))))) 9 a0 0 10)))) (ks_c9 cy ad o a0 0 _) (ks_c9s10 cy ad o a0 0 _ _) rfl (by decide) (hts (.fieldLink RX0 37 "SpinKernel$Job" "greatestResponse" "I") (by decide +kernel)) rfl (ty := .int) (by decide +kernel) rfl rfl (Nat.le_of_ble_eq_true rfl) dX0_end_37 (fun H locs hW hS => ?_)
  refine lv_aload_n hx hb dX0_end_40 rfl (lv_at hl 0 rfl) ?_
  refine va_get (D := D) (ci := 0) (v := .int (((ks_up (ks_up (ks_up (ks_up σ 9 a0 0 1 0) 9 a0 0 8 ((((((ks_up σ 9 a0 0 1 0)) 9 a0 0 8)) + 1))) 9 a0 0 11 ((x1 - ((((ks_up (ks_up σ 9 a0 0 1 0) 9 a0 0 8 ((((((ks_up σ 9 a0 0 1 0)) 9 a0 0 8)) + 1)))) 9 a0 0 2))))) 9 a0 0 10 ((if ((((ks_up (ks_up (ks_up σ 9 a0 0 1 0) 9 a0 0 8 ((((((ks_up σ 9 a0 0 1 0)) 9 a0 0 8)) + 1))) 9 a0 0 11 ((x1 - ((((ks_up (ks_up σ 9 a0 0 1 0) 9 a0 0 8 ((((((ks_up σ 9 a0 0 1 0)) 9 a0 0 8)) + 1)))) 9 a0 0 2)))))) 9 a0 0 10)) < ((((ks_up (ks_up (ks_up σ 9 a0 0 1 0) 9 a0 0 8 ((((((ks_up σ 9 a0 0 1 0)) 9 a0 0 8)) + 1))) 9 a0 0 11 ((x1 - ((((ks_up (ks_up σ 9 a0 0 1 0) 9 a0 0 8 ((((((ks_up σ 9 a0 0 1 0)) 9 a0 0 8)) + 1)))) 9 a0 0 2)))))) 9 a0 0 11)) then ((((ks_up (ks_up (ks_up σ 9 a0 0 1 0) 9 a0 0 8 ((((((ks_up σ 9 a0 0 1 0)) 9 a0 0 8)) + 1))) 9 a0 0 11 ((x1 - ((((ks_up (ks_up σ 9 a0 0 1 0) 9 a0 0 8 ((((((ks_up σ 9 a0 0 1 0)) 9 a0 0 8)) + 1)))) 9 a0 0 2)))))) 9 a0 0 11)) else ((((ks_up (ks_up (ks_up σ 9 a0 0 1 0) 9 a0 0 8 ((((((ks_up σ 9 a0 0 1 0)) 9 a0 0 8)) + 1))) 9 a0 0 11 ((x1 - ((((ks_up (ks_up σ 9 a0 0 1 0) 9 a0 0 8 ((((((ks_up σ 9 a0 0 1 0)) 9 a0 0 8)) + 1)))) 9 a0 0 2)))))) 9 a0 0 10)))))) 9 a0 0 11)) (C := RX0) (T := TX0) (N := 12) hx hb hts in_X0_end_0 hown hK (ks_P1 hW v0 (ks_c9 cy ad o a0 0 _)) 0 rfl rfl 11 (by decide) (hts (.fieldLink RX0 34 "SpinKernel$Job" "latestResponse" "I") (by decide +kernel)) (fun _ h => h) rfl dX0_end_41 ?_
  refine lv_iload_n hx hb dX0_end_44 rfl (lv_at hl 2 rfl) ?_
  refine lv_icmp_le (tgt := 58) hx hb dX0_end_45 (by decide) (fun c1 => ?_) (fun c1 => ?_)
  · rw [if_pos c1] at hf
    exact ks_vret C hf hW hS dX0_end_58
  · rw [if_neg c1] at hf
    refine lv_aload_n hx hb dX0_end_48 rfl (lv_at hl 0 rfl) ?_
    refine lv_dup hx hb dX0_end_49 rfl ?_
    refine va_get (D := D) (ci := 0) (v := .int (((ks_up (ks_up (ks_up (ks_up σ 9 a0 0 1 0) 9 a0 0 8 ((((((ks_up σ 9 a0 0 1 0)) 9 a0 0 8)) + 1))) 9 a0 0 11 ((x1 - ((((ks_up (ks_up σ 9 a0 0 1 0) 9 a0 0 8 ((((((ks_up σ 9 a0 0 1 0)) 9 a0 0 8)) + 1)))) 9 a0 0 2))))) 9 a0 0 10 ((if ((((ks_up (ks_up (ks_up σ 9 a0 0 1 0) 9 a0 0 8 ((((((ks_up σ 9 a0 0 1 0)) 9 a0 0 8)) + 1))) 9 a0 0 11 ((x1 - ((((ks_up (ks_up σ 9 a0 0 1 0) 9 a0 0 8 ((((((ks_up σ 9 a0 0 1 0)) 9 a0 0 8)) + 1)))) 9 a0 0 2)))))) 9 a0 0 10)) < ((((ks_up (ks_up (ks_up σ 9 a0 0 1 0) 9 a0 0 8 ((((((ks_up σ 9 a0 0 1 0)) 9 a0 0 8)) + 1))) 9 a0 0 11 ((x1 - ((((ks_up (ks_up σ 9 a0 0 1 0) 9 a0 0 8 ((((((ks_up σ 9 a0 0 1 0)) 9 a0 0 8)) + 1)))) 9 a0 0 2)))))) 9 a0 0 11)) then ((((ks_up (ks_up (ks_up σ 9 a0 0 1 0) 9 a0 0 8 ((((((ks_up σ 9 a0 0 1 0)) 9 a0 0 8)) + 1))) 9 a0 0 11 ((x1 - ((((ks_up (ks_up σ 9 a0 0 1 0) 9 a0 0 8 ((((((ks_up σ 9 a0 0 1 0)) 9 a0 0 8)) + 1)))) 9 a0 0 2)))))) 9 a0 0 11)) else ((((ks_up (ks_up (ks_up σ 9 a0 0 1 0) 9 a0 0 8 ((((((ks_up σ 9 a0 0 1 0)) 9 a0 0 8)) + 1))) 9 a0 0 11 ((x1 - ((((ks_up (ks_up σ 9 a0 0 1 0) 9 a0 0 8 ((((((ks_up σ 9 a0 0 1 0)) 9 a0 0 8)) + 1)))) 9 a0 0 2)))))) 9 a0 0 10)))))) 9 a0 0 9)) (C := RX0) (T := TX0) (N := 12) hx hb hts in_X0_end_0 hown hK (ks_P1 hW v0 (ks_c9 cy ad o a0 0 _)) 0 rfl rfl 9 (by decide) (hts (.fieldLink RX0 46 "SpinKernel$Job" "endedLate" "I") (by decide +kernel)) (fun _ h => h) rfl dX0_end_50 ?_
    refine lv_iconst (v := 1) hx hb dX0_end_53 (by decide) ?_
    refine lv_iadd hx hb dX0_end_54 ?_
    refine ks_put (D := D) (ci := 0) (C := RX0) (T := TX0) (N := 12) hx hb hts in_X0_end_0 tyX0 tyX0_ok nmX0 hown hK hG hW hS v0 9 (v := (((((ks_up (ks_up (ks_up (ks_up σ 9 a0 0 1 0) 9 a0 0 8 ((((((ks_up σ 9 a0 0 1 0)) 9 a0 0 8)) + 1))) 9 a0 0 11 ((x1 - ((((ks_up (ks_up σ 9 a0 0 1 0) 9 a0 0 8 ((((((ks_up σ 9 a0 0 1 0)) 9 a0 0 8)) + 1)))) 9 a0 0 2))))) 9 a0 0 10 ((if ((((ks_up (ks_up (ks_up σ 9 a0 0 1 0) 9 a0 0 8 ((((((ks_up σ 9 a0 0 1 0)) 9 a0 0 8)) + 1))) 9 a0 0 11 ((x1 - ((((ks_up (ks_up σ 9 a0 0 1 0) 9 a0 0 8 ((((((ks_up σ 9 a0 0 1 0)) 9 a0 0 8)) + 1)))) 9 a0 0 2)))))) 9 a0 0 10)) < ((((ks_up (ks_up (ks_up σ 9 a0 0 1 0) 9 a0 0 8 ((((((ks_up σ 9 a0 0 1 0)) 9 a0 0 8)) + 1))) 9 a0 0 11 ((x1 - ((((ks_up (ks_up σ 9 a0 0 1 0) 9 a0 0 8 ((((((ks_up σ 9 a0 0 1 0)) 9 a0 0 8)) + 1)))) 9 a0 0 2)))))) 9 a0 0 11)) then ((((ks_up (ks_up (ks_up σ 9 a0 0 1 0) 9 a0 0 8 ((((((ks_up σ 9 a0 0 1 0)) 9 a0 0 8)) + 1))) 9 a0 0 11 ((x1 - ((((ks_up (ks_up σ 9 a0 0 1 0) 9 a0 0 8 ((((((ks_up σ 9 a0 0 1 0)) 9 a0 0 8)) + 1)))) 9 a0 0 2)))))) 9 a0 0 11)) else ((((ks_up (ks_up (ks_up σ 9 a0 0 1 0) 9 a0 0 8 ((((((ks_up σ 9 a0 0 1 0)) 9 a0 0 8)) + 1))) 9 a0 0 11 ((x1 - ((((ks_up (ks_up σ 9 a0 0 1 0) 9 a0 0 8 ((((((ks_up σ 9 a0 0 1 0)) 9 a0 0 8)) + 1)))) 9 a0 0 2)))))) 9 a0 0 10)))))) 9 a0 0 9)) + 1)) (ks_c9 cy ad o a0 0 _) (ks_c9s9 cy ad o a0 0 _ _) rfl (by decide) (hts (.fieldLink RX0 46 "SpinKernel$Job" "endedLate" "I") (by decide +kernel)) rfl (ty := .int) (by decide +kernel) rfl rfl (Nat.le_of_ble_eq_true rfl) dX0_end_55 (fun H locs hW hS => ?_)
    exact ks_vret C hf hW hS dX0_end_58
set_option maxHeartbeats 4000000 in
set_option maxRecDepth 100000 in
theorem m_X0_end (l : Launch) (D : va_G) (cy : Nat → ClassId) (ad : ks_A) (En : Nat → Prop) (n0 : Nat → Prop) (hG : ks_G ad En n0) (hE : ∀ k, ks_g k = 0 → En k) (o : Int64) {σ : ks_S} {a0 : Nat} {x1 : Int32} {x2 : Int32} (v0 : ks_v En 9 a0 0) {out : ks_S} (hf : f_X0_end σ a0 x1 x2 = some out) : Met l yX0_end wsX0_end (ks_Rm 1 0 0 14) (va_Pc [.ref (ad 9 a0 0), .int x1, .int x2] (ks_U D cy ad En n0 σ o)) (ks_Qv D cy ad En n0 o out) 0 0 (ks_F n0) := by
  refine Met.ofW (cc := cX0_end) (maxL := 3) (ret := none) (by decide) rfl ?_
  intro p e s m args below meth c s₁ B hml hv
  obtain ⟨rfl, hU⟩ := hv
  have hl := lv_entry ([.ref (ad 9 a0 0), .int x1, .int x2]) (n := 3) (Nat.le_of_ble_eq_true rfl)
  rw [lg_entry_eq]
  generalize (lg_sl ([.ref (ad 9 a0 0), .int x1, .int x2]) ++ List.replicate (3 - (lg_sl ([.ref (ad 9 a0 0), .int x1, .int x2])).length) Slot.unset).toArray = ls at hl ⊢
  exact t_X0_end ⟨B.exec, B.bytes, hml, B.returns, findClass_of_methodNamed B.named, atoms_spec (ws := wsX0_end) B.pre, B.notSynchronized, hG, hU, hE⟩ v0 hf hU.2.1 va_S.rf hl

/-! SpinKernel$Job.forget()V -/
def f_X0_forget (σ : ks_S) (a0 : Nat) : Option ks_S :=
  some ((ks_up (ks_up (ks_up (ks_up (ks_up σ 9 a0 0 0 0) 9 a0 0 8 0) 9 a0 0 9 0) 9 a0 0 10 0) 9 a0 0 11 0))
theorem in_X0_forget_0 : ∀ w ∈ wsX00, w ∈ wsX0_forget := by decide +kernel
set_option maxHeartbeats 4000000 in
set_option maxRecDepth 100000 in
theorem t_X0_forget {p : Program} {l : Launch} {e : Env} {s : State} {m : MethodId} {args : Array Value} {below : List Frame} {meth : Method} {c : Code} {D : va_G} {cy : Nat → ClassId} {ad : ks_A} {En : Nat → Prop} {n0 : Nat → Prop} {σ0 : ks_S} {o : Int64} {out : ks_S} (C : ks_M p s m args meth c D cy ad En (fun k => ks_g k = 0) n0 σ0 o wsX0_forget cX0_forget RX0 1 (none)) {σ : ks_S} {a0 : Nat} (v0 : ks_v En 9 a0 0) (hf : f_X0_forget σ a0 = some out) {H : Heap} {locs : List Loc} {ls : Array Slot} (hW : ks_W D cy ad En σ o H) (hS : va_S (ks_F n0) s.heap H locs) (hl : lv_has ls 1 [(0, .ref (ad 9 a0 0))]) : W p l e (ks_Rm 0 0 0 0) s m args below meth c H locs 0 0 (MQ below (ks_Qv D cy ad En n0 o out) args s 0 0 (ks_F n0)) (F0 m 0 ls []) := by
  obtain ⟨hx, hb, hml, hr, hown, hts, hlocks, hG, hU0, hE⟩ := id C
  have hK := hU0.2.2
  unfold f_X0_forget at hf
  refine lv_aload_n hx hb dX0_forget_0 rfl (lv_at hl 0 rfl) ?_
  refine lv_iconst (v := 0) hx hb dX0_forget_1 (by decide) ?_
  refine ks_put (D := D) (ci := 0) (C := RX0) (T := TX0) (N := 12) hx hb hts in_X0_forget_0 tyX0 tyX0_ok nmX0 hown hK hG hW hS v0 0 (v := 0) (ks_c9 cy ad o a0 0 _) (ks_c9s0 cy ad o a0 0 _ _) rfl (by decide) (hts (.fieldLink RX0 15 "SpinKernel$Job" "hasCome" "Z") (by decide +kernel)) rfl (ty := .boolean) (by decide +kernel) rfl rfl (Nat.le_of_ble_eq_true rfl) dX0_forget_2 (fun H locs hW hS => ?_)
  refine lv_aload_n hx hb dX0_forget_5 rfl (lv_at hl 0 rfl) ?_
  refine lv_iconst (v := 0) hx hb dX0_forget_6 (by decide) ?_
  refine ks_put (D := D) (ci := 0) (C := RX0) (T := TX0) (N := 12) hx hb hts in_X0_forget_0 tyX0 tyX0_ok nmX0 hown hK hG hW hS v0 8 (v := 0) (ks_c9 cy ad o a0 0 _) (ks_c9s8 cy ad o a0 0 _ _) rfl (by decide) (hts (.fieldLink RX0 31 "SpinKernel$Job" "ended" "I") (by decide +kernel)) rfl (ty := .int) (by decide +kernel) rfl rfl (Nat.le_of_ble_eq_true rfl) dX0_forget_7 (fun H locs hW hS => ?_)
  refine lv_aload_n hx hb dX0_forget_10 rfl (lv_at hl 0 rfl) ?_
  refine lv_iconst (v := 0) hx hb dX0_forget_11 (by decide) ?_
  refine ks_put (D := D) (ci := 0) (C := RX0) (T := TX0) (N := 12) hx hb hts in_X0_forget_0 tyX0 tyX0_ok nmX0 hown hK hG hW hS v0 9 (v := 0) (ks_c9 cy ad o a0 0 _) (ks_c9s9 cy ad o a0 0 _ _) rfl (by decide) (hts (.fieldLink RX0 46 "SpinKernel$Job" "endedLate" "I") (by decide +kernel)) rfl (ty := .int) (by decide +kernel) rfl rfl (Nat.le_of_ble_eq_true rfl) dX0_forget_12 (fun H locs hW hS => ?_)
  refine lv_aload_n hx hb dX0_forget_15 rfl (lv_at hl 0 rfl) ?_
  refine lv_iconst (v := 0) hx hb dX0_forget_16 (by decide) ?_
  refine ks_put (D := D) (ci := 0) (C := RX0) (T := TX0) (N := 12) hx hb hts in_X0_forget_0 tyX0 tyX0_ok nmX0 hown hK hG hW hS v0 10 (v := 0) (ks_c9 cy ad o a0 0 _) (ks_c9s10 cy ad o a0 0 _ _) rfl (by decide) (hts (.fieldLink RX0 37 "SpinKernel$Job" "greatestResponse" "I") (by decide +kernel)) rfl (ty := .int) (by decide +kernel) rfl rfl (Nat.le_of_ble_eq_true rfl) dX0_forget_17 (fun H locs hW hS => ?_)
  refine lv_aload_n hx hb dX0_forget_20 rfl (lv_at hl 0 rfl) ?_
  refine lv_iconst (v := 0) hx hb dX0_forget_21 (by decide) ?_
  refine ks_put (D := D) (ci := 0) (C := RX0) (T := TX0) (N := 12) hx hb hts in_X0_forget_0 tyX0 tyX0_ok nmX0 hown hK hG hW hS v0 11 (v := 0) (ks_c9 cy ad o a0 0 _) (ks_c9s11 cy ad o a0 0 _ _) rfl (by decide) (hts (.fieldLink RX0 34 "SpinKernel$Job" "latestResponse" "I") (by decide +kernel)) rfl (ty := .int) (by decide +kernel) rfl rfl (Nat.le_of_ble_eq_true rfl) dX0_forget_22 (fun H locs hW hS => ?_)
  exact ks_vret C hf hW hS dX0_forget_25
set_option maxHeartbeats 4000000 in
set_option maxRecDepth 100000 in
theorem m_X0_forget (l : Launch) (D : va_G) (cy : Nat → ClassId) (ad : ks_A) (En : Nat → Prop) (n0 : Nat → Prop) (hG : ks_G ad En n0) (hE : ∀ k, ks_g k = 0 → En k) (o : Int64) {σ : ks_S} {a0 : Nat} (v0 : ks_v En 9 a0 0) {out : ks_S} (hf : f_X0_forget σ a0 = some out) : Met l yX0_forget wsX0_forget (ks_Rm 0 0 0 0) (va_Pc [.ref (ad 9 a0 0)] (ks_U D cy ad En n0 σ o)) (ks_Qv D cy ad En n0 o out) 0 0 (ks_F n0) := by
  refine Met.ofW (cc := cX0_forget) (maxL := 1) (ret := none) (by decide) rfl ?_
  intro p e s m args below meth c s₁ B hml hv
  obtain ⟨rfl, hU⟩ := hv
  have hl := lv_entry ([.ref (ad 9 a0 0)]) (n := 1) (Nat.le_of_ble_eq_true rfl)
  rw [lg_entry_eq]
  generalize (lg_sl ([.ref (ad 9 a0 0)]) ++ List.replicate (1 - (lg_sl ([.ref (ad 9 a0 0)])).length) Slot.unset).toArray = ls at hl ⊢
  exact t_X0_forget ⟨B.exec, B.bytes, hml, B.returns, findClass_of_methodNamed B.named, atoms_spec (ws := wsX0_forget) B.pre, B.notSynchronized, hG, hU, hE⟩ v0 hf hU.2.1 va_S.rf hl

/-! SpinKernel$Request.layDown(IIII)V -/
def f_X1_layDown (σ : ks_S) (a0 : Nat) (b0 : Nat) (x1 : Int32) (x2 : Int32) (x3 : Int32) (x4 : Int32) : Option ks_S :=
  some ((ks_up (ks_up (ks_up (ks_up (ks_up σ 11 a0 b0 0 x1) 11 a0 b0 1 x2) 11 a0 b0 2 x3) 11 a0 b0 3 x4) 11 a0 b0 4 0))
theorem in_X1_layDown_1 : ∀ w ∈ wsX10, w ∈ wsX1_layDown := by decide +kernel
set_option maxHeartbeats 4000000 in
set_option maxRecDepth 100000 in
theorem t_X1_layDown {p : Program} {l : Launch} {e : Env} {s : State} {m : MethodId} {args : Array Value} {below : List Frame} {meth : Method} {c : Code} {D : va_G} {cy : Nat → ClassId} {ad : ks_A} {En : Nat → Prop} {n0 : Nat → Prop} {σ0 : ks_S} {o : Int64} {out : ks_S} (C : ks_M p s m args meth c D cy ad En (fun k => ks_g k = 0) n0 σ0 o wsX1_layDown cX1_layDown RX1 5 (none)) {σ : ks_S} {a0 : Nat} {b0 : Nat} {x1 : Int32} {x2 : Int32} {x3 : Int32} {x4 : Int32} (v0 : ks_v En 11 a0 b0) (hf : f_X1_layDown σ a0 b0 x1 x2 x3 x4 = some out) {H : Heap} {locs : List Loc} {ls : Array Slot} (hW : ks_W D cy ad En σ o H) (hS : va_S (ks_F n0) s.heap H locs) (hl : lv_has ls 5 [(0, .ref (ad 11 a0 b0)), (1, .int x1), (2, .int x2), (3, .int x3), (4, .int x4)]) : W p l e (ks_Rm 0 0 0 0) s m args below meth c H locs 0 0 (MQ below (ks_Qv D cy ad En n0 o out) args s 0 0 (ks_F n0)) (F0 m 0 ls []) := by
  obtain ⟨hx, hb, hml, hr, hown, hts, hlocks, hG, hU0, hE⟩ := id C
  have hK := hU0.2.2
  unfold f_X1_layDown at hf
  refine lv_aload_n hx hb dX1_layDown_0 rfl (lv_at hl 0 rfl) ?_
  refine lv_iload_n hx hb dX1_layDown_1 rfl (lv_at hl 1 rfl) ?_
  refine ks_put (D := D) (ci := 1) (C := RX1) (T := TX1) (N := 8) hx hb hts in_X1_layDown_1 tyX1 tyX1_ok nmX1 hown hK hG hW hS v0 0 (v := x1) (ks_c11 cy ad o a0 b0 _) (ks_c11s0 cy ad o a0 b0 _ _) rfl (by decide) (hts (.fieldLink RX1 9 "SpinKernel$Request" "after" "I") (by decide +kernel)) rfl (ty := .int) (by decide +kernel) rfl rfl (Nat.le_of_ble_eq_true rfl) dX1_layDown_2 (fun H locs hW hS => ?_)
  refine lv_aload_n hx hb dX1_layDown_5 rfl (lv_at hl 0 rfl) ?_
  refine lv_iload_n hx hb dX1_layDown_6 rfl (lv_at hl 2 rfl) ?_
  refine ks_put (D := D) (ci := 1) (C := RX1) (T := TX1) (N := 8) hx hb hts in_X1_layDown_1 tyX1 tyX1_ok nmX1 hown hK hG hW hS v0 1 (v := x2) (ks_c11 cy ad o a0 b0 _) (ks_c11s1 cy ad o a0 b0 _ _) rfl (by decide) (hts (.fieldLink RX1 15 "SpinKernel$Request" "lock" "I") (by decide +kernel)) rfl (ty := .int) (by decide +kernel) rfl rfl (Nat.le_of_ble_eq_true rfl) dX1_layDown_7 (fun H locs hW hS => ?_)
  refine lv_aload_n hx hb dX1_layDown_10 rfl (lv_at hl 0 rfl) ?_
  refine lv_iload_n hx hb dX1_layDown_11 rfl (lv_at hl 3 rfl) ?_
  refine ks_put (D := D) (ci := 1) (C := RX1) (T := TX1) (N := 8) hx hb hts in_X1_layDown_1 tyX1 tyX1_ok nmX1 hown hK hG hW hS v0 2 (v := x3) (ks_c11 cy ad o a0 b0 _) (ks_c11s2 cy ad o a0 b0 _ _) rfl (by decide) (hts (.fieldLink RX1 18 "SpinKernel$Request" "length" "I") (by decide +kernel)) rfl (ty := .int) (by decide +kernel) rfl rfl (Nat.le_of_ble_eq_true rfl) dX1_layDown_12 (fun H locs hW hS => ?_)
  refine lv_aload_n hx hb dX1_layDown_15 rfl (lv_at hl 0 rfl) ?_
  refine lv_iload hx hb dX1_layDown_16 (lv_at hl 4 rfl) ?_
  refine ks_put (D := D) (ci := 1) (C := RX1) (T := TX1) (N := 8) hx hb hts in_X1_layDown_1 tyX1 tyX1_ok nmX1 hown hK hG hW hS v0 3 (v := x4) (ks_c11 cy ad o a0 b0 _) (ks_c11s3 cy ad o a0 b0 _ _) rfl (by decide) (hts (.fieldLink RX1 21 "SpinKernel$Request" "in" "I") (by decide +kernel)) rfl (ty := .int) (by decide +kernel) rfl rfl (Nat.le_of_ble_eq_true rfl) dX1_layDown_18 (fun H locs hW hS => ?_)
  refine lv_aload_n hx hb dX1_layDown_21 rfl (lv_at hl 0 rfl) ?_
  refine lv_iconst (v := 0) hx hb dX1_layDown_22 (by decide) ?_
  refine ks_put (D := D) (ci := 1) (C := RX1) (T := TX1) (N := 8) hx hb hts in_X1_layDown_1 tyX1 tyX1_ok nmX1 hown hK hG hW hS v0 4 (v := 0) (ks_c11 cy ad o a0 b0 _) (ks_c11s4 cy ad o a0 b0 _ _) rfl (by decide) (hts (.fieldLink RX1 24 "SpinKernel$Request" "spinBound" "I") (by decide +kernel)) rfl (ty := .int) (by decide +kernel) rfl rfl (Nat.le_of_ble_eq_true rfl) dX1_layDown_23 (fun H locs hW hS => ?_)
  exact ks_vret C hf hW hS dX1_layDown_26
set_option maxHeartbeats 4000000 in
set_option maxRecDepth 100000 in
theorem m_X1_layDown (l : Launch) (D : va_G) (cy : Nat → ClassId) (ad : ks_A) (En : Nat → Prop) (n0 : Nat → Prop) (hG : ks_G ad En n0) (hE : ∀ k, ks_g k = 0 → En k) (o : Int64) {σ : ks_S} {a0 : Nat} {b0 : Nat} {x1 : Int32} {x2 : Int32} {x3 : Int32} {x4 : Int32} (v0 : ks_v En 11 a0 b0) {out : ks_S} (hf : f_X1_layDown σ a0 b0 x1 x2 x3 x4 = some out) : Met l yX1_layDown wsX1_layDown (ks_Rm 0 0 0 0) (va_Pc [.ref (ad 11 a0 b0), .int x1, .int x2, .int x3, .int x4] (ks_U D cy ad En n0 σ o)) (ks_Qv D cy ad En n0 o out) 0 0 (ks_F n0) := by
  refine Met.ofW (cc := cX1_layDown) (maxL := 5) (ret := none) (by decide) rfl ?_
  intro p e s m args below meth c s₁ B hml hv
  obtain ⟨rfl, hU⟩ := hv
  have hl := lv_entry ([.ref (ad 11 a0 b0), .int x1, .int x2, .int x3, .int x4]) (n := 5) (Nat.le_of_ble_eq_true rfl)
  rw [lg_entry_eq]
  generalize (lg_sl ([.ref (ad 11 a0 b0), .int x1, .int x2, .int x3, .int x4]) ++ List.replicate (5 - (lg_sl ([.ref (ad 11 a0 b0), .int x1, .int x2, .int x3, .int x4])).length) Slot.unset).toArray = ls at hl ⊢
  exact t_X1_layDown ⟨B.exec, B.bytes, hml, B.returns, findClass_of_methodNamed B.named, atoms_spec (ws := wsX1_layDown) B.pre, B.notSynchronized, hG, hU, hE⟩ v0 hf hU.2.1 va_S.rf hl

/-! SpinKernel$Request.isOuter()Z -/
def f_X1_isOuter (σ : ks_S) (a0 : Nat) (b0 : Nat) : Option (Int32 × ks_S) :=
  (if ((σ 11 a0 b0 3)) = ((-1)) then some (1, σ) else some (0, σ))
theorem in_X1_isOuter_1 : ∀ w ∈ wsX10, w ∈ wsX1_isOuter := by decide +kernel
set_option maxHeartbeats 4000000 in
set_option maxRecDepth 100000 in
theorem t_X1_isOuter {p : Program} {l : Launch} {e : Env} {s : State} {m : MethodId} {args : Array Value} {below : List Frame} {meth : Method} {c : Code} {D : va_G} {cy : Nat → ClassId} {ad : ks_A} {En : Nat → Prop} {n0 : Nat → Prop} {σ0 : ks_S} {o : Int64} {out : (Int32 × ks_S)} (C : ks_M p s m args meth c D cy ad En (fun k => ks_g k = 0) n0 σ0 o wsX1_isOuter cX1_isOuter RX1 1 (some .boolean)) {σ : ks_S} {a0 : Nat} {b0 : Nat} (v0 : ks_v En 11 a0 b0) (hf : f_X1_isOuter σ a0 b0 = some out) {H : Heap} {locs : List Loc} {ls : Array Slot} (hW : ks_W D cy ad En σ o H) (hS : va_S (ks_F n0) s.heap H locs) (hl : lv_has ls 1 [(0, .ref (ad 11 a0 b0))]) : W p l e (ks_Rm 0 0 0 0) s m args below meth c H locs 0 0 (MQ below (ks_Qi D cy ad En n0 o out) args s 0 0 (ks_F n0)) (F0 m 0 ls []) := by
  obtain ⟨hx, hb, hml, hr, hown, hts, hlocks, hG, hU0, hE⟩ := id C
  have hK := hU0.2.2
  unfold f_X1_isOuter at hf
  refine lv_aload_n hx hb dX1_isOuter_0 rfl (lv_at hl 0 rfl) ?_
  refine va_get (D := D) (ci := 1) (v := .int (σ 11 a0 b0 3)) (C := RX1) (T := TX1) (N := 8) hx hb hts in_X1_isOuter_1 hown hK (ks_P1 hW v0 (ks_c11 cy ad o a0 b0 _)) 0 rfl rfl 3 (by decide) (hts (.fieldLink RX1 21 "SpinKernel$Request" "in" "I") (by decide +kernel)) (fun _ h => h) rfl dX1_isOuter_1 ?_
  refine lv_iconst (v := (-1)) hx hb dX1_isOuter_4 (by decide) ?_
  refine lv_icmp_ne (tgt := 12) hx hb dX1_isOuter_5 (by decide) (fun c1 => ?_) (fun c1 => ?_)
  · rw [if_neg c1] at hf
    refine lv_iconst (v := 0) hx hb dX1_isOuter_12 (by decide) ?_
    exact ks_zret C rfl hf hW hS dX1_isOuter_13
  · rw [if_pos c1] at hf
    refine lv_iconst (v := 1) hx hb dX1_isOuter_8 (by decide) ?_
    refine lv_goto (tgt := 13) hx hb dX1_isOuter_9 (by decide) ?_
    exact ks_zret C rfl hf hW hS dX1_isOuter_13
set_option maxHeartbeats 4000000 in
set_option maxRecDepth 100000 in
theorem m_X1_isOuter (l : Launch) (D : va_G) (cy : Nat → ClassId) (ad : ks_A) (En : Nat → Prop) (n0 : Nat → Prop) (hG : ks_G ad En n0) (hE : ∀ k, ks_g k = 0 → En k) (o : Int64) {σ : ks_S} {a0 : Nat} {b0 : Nat} (v0 : ks_v En 11 a0 b0) {out : (Int32 × ks_S)} (hf : f_X1_isOuter σ a0 b0 = some out) : Met l yX1_isOuter wsX1_isOuter (ks_Rm 0 0 0 0) (va_Pc [.ref (ad 11 a0 b0)] (ks_U D cy ad En n0 σ o)) (ks_Qi D cy ad En n0 o out) 0 0 (ks_F n0) := by
  refine Met.ofW (cc := cX1_isOuter) (maxL := 1) (ret := some .boolean) (by decide) rfl ?_
  intro p e s m args below meth c s₁ B hml hv
  obtain ⟨rfl, hU⟩ := hv
  have hl := lv_entry ([.ref (ad 11 a0 b0)]) (n := 1) (Nat.le_of_ble_eq_true rfl)
  rw [lg_entry_eq]
  generalize (lg_sl ([.ref (ad 11 a0 b0)]) ++ List.replicate (1 - (lg_sl ([.ref (ad 11 a0 b0)])).length) Slot.unset).toArray = ls at hl ⊢
  exact t_X1_isOuter ⟨B.exec, B.bytes, hml, B.returns, findClass_of_methodNamed B.named, atoms_spec (ws := wsX1_isOuter) B.pre, B.notSynchronized, hG, hU, hE⟩ v0 hf hU.2.1 va_S.rf hl

/-! SpinKernel$Request.startJob()V -/
def f_X1_startJob (σ : ks_S) (a0 : Nat) (b0 : Nat) : Option ks_S :=
  (if ((σ 11 a0 b0 5)) = 0 then some ((ks_up (ks_up σ 11 a0 b0 6 ((σ 11 a0 b0 2))) 11 a0 b0 5 0)) else some ((ks_up (ks_up σ 11 a0 b0 6 ((σ 11 a0 b0 5))) 11 a0 b0 5 0)))
theorem in_X1_startJob_1 : ∀ w ∈ wsX10, w ∈ wsX1_startJob := by decide +kernel
set_option maxHeartbeats 4000000 in
set_option maxRecDepth 100000 in
theorem t_X1_startJob {p : Program} {l : Launch} {e : Env} {s : State} {m : MethodId} {args : Array Value} {below : List Frame} {meth : Method} {c : Code} {D : va_G} {cy : Nat → ClassId} {ad : ks_A} {En : Nat → Prop} {n0 : Nat → Prop} {σ0 : ks_S} {o : Int64} {out : ks_S} (C : ks_M p s m args meth c D cy ad En (fun k => ks_g k = 0) n0 σ0 o wsX1_startJob cX1_startJob RX1 1 (none)) {σ : ks_S} {a0 : Nat} {b0 : Nat} (v0 : ks_v En 11 a0 b0) (hf : f_X1_startJob σ a0 b0 = some out) {H : Heap} {locs : List Loc} {ls : Array Slot} (hW : ks_W D cy ad En σ o H) (hS : va_S (ks_F n0) s.heap H locs) (hl : lv_has ls 1 [(0, .ref (ad 11 a0 b0))]) : W p l e (ks_Rm 0 0 0 0) s m args below meth c H locs 0 0 (MQ below (ks_Qv D cy ad En n0 o out) args s 0 0 (ks_F n0)) (F0 m 0 ls []) := by
  obtain ⟨hx, hb, hml, hr, hown, hts, hlocks, hG, hU0, hE⟩ := id C
  have hK := hU0.2.2
  unfold f_X1_startJob at hf
  refine lv_aload_n hx hb dX1_startJob_0 rfl (lv_at hl 0 rfl) ?_
  refine lv_aload_n hx hb dX1_startJob_1 rfl (lv_at hl 0 rfl) ?_
  refine va_get (D := D) (ci := 1) (v := .int (σ 11 a0 b0 5)) (C := RX1) (T := TX1) (N := 8) hx hb hts in_X1_startJob_1 hown hK (ks_P1 hW v0 (ks_c11 cy ad o a0 b0 _)) 0 rfl rfl 5 (by decide) (hts (.fieldLink RX1 27 "SpinKernel$Request" "ticksOfNextJob" "I") (by decide +kernel)) (fun _ h => h) rfl dX1_startJob_2 ?_
  refine lv_if_ne (tgt := 15) hx hb dX1_startJob_5 (by decide) (fun c1 => ?_) (fun c1 => ?_)
  · rw [if_neg c1] at hf
    refine lv_aload_n hx hb dX1_startJob_15 rfl (lv_at hl 0 rfl) ?_
    refine va_get (D := D) (ci := 1) (v := .int (σ 11 a0 b0 5)) (C := RX1) (T := TX1) (N := 8) hx hb hts in_X1_startJob_1 hown hK (ks_P1 hW v0 (ks_c11 cy ad o a0 b0 _)) 0 rfl rfl 5 (by decide) (hts (.fieldLink RX1 27 "SpinKernel$Request" "ticksOfNextJob" "I") (by decide +kernel)) (fun _ h => h) rfl dX1_startJob_16 ?_
    refine ks_put (D := D) (ci := 1) (C := RX1) (T := TX1) (N := 8) hx hb hts in_X1_startJob_1 tyX1 tyX1_ok nmX1 hown hK hG hW hS v0 6 (v := (σ 11 a0 b0 5)) (ks_c11 cy ad o a0 b0 _) (ks_c11s6 cy ad o a0 b0 _ _) rfl (by decide) (hts (.fieldLink RX1 30 "SpinKernel$Request" "ticksOfJob" "I") (by decide +kernel)) rfl (ty := .int) (by decide +kernel) rfl rfl (Nat.le_of_ble_eq_true rfl) dX1_startJob_19 (fun H locs hW hS => ?_)
    refine lv_aload_n hx hb dX1_startJob_22 rfl (lv_at hl 0 rfl) ?_
    refine lv_iconst (v := 0) hx hb dX1_startJob_23 (by decide) ?_
    refine ks_put (D := D) (ci := 1) (C := RX1) (T := TX1) (N := 8) hx hb hts in_X1_startJob_1 tyX1 tyX1_ok nmX1 hown hK hG hW hS v0 5 (v := 0) (ks_c11 cy ad o a0 b0 _) (ks_c11s5 cy ad o a0 b0 _ _) rfl (by decide) (hts (.fieldLink RX1 27 "SpinKernel$Request" "ticksOfNextJob" "I") (by decide +kernel)) rfl (ty := .int) (by decide +kernel) rfl rfl (Nat.le_of_ble_eq_true rfl) dX1_startJob_24 (fun H locs hW hS => ?_)
    exact ks_vret C hf hW hS dX1_startJob_27
  · rw [if_pos c1] at hf
    refine lv_aload_n hx hb dX1_startJob_8 rfl (lv_at hl 0 rfl) ?_
    refine va_get (D := D) (ci := 1) (v := .int (σ 11 a0 b0 2)) (C := RX1) (T := TX1) (N := 8) hx hb hts in_X1_startJob_1 hown hK (ks_P1 hW v0 (ks_c11 cy ad o a0 b0 _)) 0 rfl rfl 2 (by decide) (hts (.fieldLink RX1 18 "SpinKernel$Request" "length" "I") (by decide +kernel)) (fun _ h => h) rfl dX1_startJob_9 ?_
    refine lv_goto (tgt := 19) hx hb dX1_startJob_12 (by decide) ?_
    refine ks_put (D := D) (ci := 1) (C := RX1) (T := TX1) (N := 8) hx hb hts in_X1_startJob_1 tyX1 tyX1_ok nmX1 hown hK hG hW hS v0 6 (v := (σ 11 a0 b0 2)) (ks_c11 cy ad o a0 b0 _) (ks_c11s6 cy ad o a0 b0 _ _) rfl (by decide) (hts (.fieldLink RX1 30 "SpinKernel$Request" "ticksOfJob" "I") (by decide +kernel)) rfl (ty := .int) (by decide +kernel) rfl rfl (Nat.le_of_ble_eq_true rfl) dX1_startJob_19 (fun H locs hW hS => ?_)
    refine lv_aload_n hx hb dX1_startJob_22 rfl (lv_at hl 0 rfl) ?_
    refine lv_iconst (v := 0) hx hb dX1_startJob_23 (by decide) ?_
    refine ks_put (D := D) (ci := 1) (C := RX1) (T := TX1) (N := 8) hx hb hts in_X1_startJob_1 tyX1 tyX1_ok nmX1 hown hK hG hW hS v0 5 (v := 0) (ks_c11 cy ad o a0 b0 _) (ks_c11s5 cy ad o a0 b0 _ _) rfl (by decide) (hts (.fieldLink RX1 27 "SpinKernel$Request" "ticksOfNextJob" "I") (by decide +kernel)) rfl (ty := .int) (by decide +kernel) rfl rfl (Nat.le_of_ble_eq_true rfl) dX1_startJob_24 (fun H locs hW hS => ?_)
    exact ks_vret C hf hW hS dX1_startJob_27
set_option maxHeartbeats 4000000 in
set_option maxRecDepth 100000 in
theorem m_X1_startJob (l : Launch) (D : va_G) (cy : Nat → ClassId) (ad : ks_A) (En : Nat → Prop) (n0 : Nat → Prop) (hG : ks_G ad En n0) (hE : ∀ k, ks_g k = 0 → En k) (o : Int64) {σ : ks_S} {a0 : Nat} {b0 : Nat} (v0 : ks_v En 11 a0 b0) {out : ks_S} (hf : f_X1_startJob σ a0 b0 = some out) : Met l yX1_startJob wsX1_startJob (ks_Rm 0 0 0 0) (va_Pc [.ref (ad 11 a0 b0)] (ks_U D cy ad En n0 σ o)) (ks_Qv D cy ad En n0 o out) 0 0 (ks_F n0) := by
  refine Met.ofW (cc := cX1_startJob) (maxL := 1) (ret := none) (by decide) rfl ?_
  intro p e s m args below meth c s₁ B hml hv
  obtain ⟨rfl, hU⟩ := hv
  have hl := lv_entry ([.ref (ad 11 a0 b0)]) (n := 1) (Nat.le_of_ble_eq_true rfl)
  rw [lg_entry_eq]
  generalize (lg_sl ([.ref (ad 11 a0 b0)]) ++ List.replicate (1 - (lg_sl ([.ref (ad 11 a0 b0)])).length) Slot.unset).toArray = ls at hl ⊢
  exact t_X1_startJob ⟨B.exec, B.bytes, hml, B.returns, findClass_of_methodNamed B.named, atoms_spec (ws := wsX1_startJob) B.pre, B.notSynchronized, hG, hU, hE⟩ v0 hf hU.2.1 va_S.rf hl

/-! SpinKernel$Request.forgetJobs()V -/
def f_X1_forgetJobs (σ : ks_S) (a0 : Nat) (b0 : Nat) : Option ks_S :=
  some ((ks_up (ks_up σ 11 a0 b0 5 0) 11 a0 b0 7 0))
theorem in_X1_forgetJobs_1 : ∀ w ∈ wsX10, w ∈ wsX1_forgetJobs := by decide +kernel
set_option maxHeartbeats 4000000 in
set_option maxRecDepth 100000 in
theorem t_X1_forgetJobs {p : Program} {l : Launch} {e : Env} {s : State} {m : MethodId} {args : Array Value} {below : List Frame} {meth : Method} {c : Code} {D : va_G} {cy : Nat → ClassId} {ad : ks_A} {En : Nat → Prop} {n0 : Nat → Prop} {σ0 : ks_S} {o : Int64} {out : ks_S} (C : ks_M p s m args meth c D cy ad En (fun k => ks_g k = 0) n0 σ0 o wsX1_forgetJobs cX1_forgetJobs RX1 1 (none)) {σ : ks_S} {a0 : Nat} {b0 : Nat} (v0 : ks_v En 11 a0 b0) (hf : f_X1_forgetJobs σ a0 b0 = some out) {H : Heap} {locs : List Loc} {ls : Array Slot} (hW : ks_W D cy ad En σ o H) (hS : va_S (ks_F n0) s.heap H locs) (hl : lv_has ls 1 [(0, .ref (ad 11 a0 b0))]) : W p l e (ks_Rm 0 0 0 0) s m args below meth c H locs 0 0 (MQ below (ks_Qv D cy ad En n0 o out) args s 0 0 (ks_F n0)) (F0 m 0 ls []) := by
  obtain ⟨hx, hb, hml, hr, hown, hts, hlocks, hG, hU0, hE⟩ := id C
  have hK := hU0.2.2
  unfold f_X1_forgetJobs at hf
  refine lv_aload_n hx hb dX1_forgetJobs_0 rfl (lv_at hl 0 rfl) ?_
  refine lv_iconst (v := 0) hx hb dX1_forgetJobs_1 (by decide) ?_
  refine ks_put (D := D) (ci := 1) (C := RX1) (T := TX1) (N := 8) hx hb hts in_X1_forgetJobs_1 tyX1 tyX1_ok nmX1 hown hK hG hW hS v0 5 (v := 0) (ks_c11 cy ad o a0 b0 _) (ks_c11s5 cy ad o a0 b0 _ _) rfl (by decide) (hts (.fieldLink RX1 27 "SpinKernel$Request" "ticksOfNextJob" "I") (by decide +kernel)) rfl (ty := .int) (by decide +kernel) rfl rfl (Nat.le_of_ble_eq_true rfl) dX1_forgetJobs_2 (fun H locs hW hS => ?_)
  refine lv_aload_n hx hb dX1_forgetJobs_5 rfl (lv_at hl 0 rfl) ?_
  refine lv_iconst (v := 0) hx hb dX1_forgetJobs_6 (by decide) ?_
  refine ks_put (D := D) (ci := 1) (C := RX1) (T := TX1) (N := 8) hx hb hts in_X1_forgetJobs_1 tyX1 tyX1_ok nmX1 hown hK hG hW hS v0 7 (v := 0) (ks_c11 cy ad o a0 b0 _) (ks_c11s7 cy ad o a0 b0 _ _) rfl (by decide) (hts (.fieldLink RX1 33 "SpinKernel$Request" "mostSpun" "I") (by decide +kernel)) rfl (ty := .int) (by decide +kernel) rfl rfl (Nat.le_of_ble_eq_true rfl) dX1_forgetJobs_7 (fun H locs hW hS => ?_)
  exact ks_vret C hf hW hS dX1_forgetJobs_10
set_option maxHeartbeats 4000000 in
set_option maxRecDepth 100000 in
theorem m_X1_forgetJobs (l : Launch) (D : va_G) (cy : Nat → ClassId) (ad : ks_A) (En : Nat → Prop) (n0 : Nat → Prop) (hG : ks_G ad En n0) (hE : ∀ k, ks_g k = 0 → En k) (o : Int64) {σ : ks_S} {a0 : Nat} {b0 : Nat} (v0 : ks_v En 11 a0 b0) {out : ks_S} (hf : f_X1_forgetJobs σ a0 b0 = some out) : Met l yX1_forgetJobs wsX1_forgetJobs (ks_Rm 0 0 0 0) (va_Pc [.ref (ad 11 a0 b0)] (ks_U D cy ad En n0 σ o)) (ks_Qv D cy ad En n0 o out) 0 0 (ks_F n0) := by
  refine Met.ofW (cc := cX1_forgetJobs) (maxL := 1) (ret := none) (by decide) rfl ?_
  intro p e s m args below meth c s₁ B hml hv
  obtain ⟨rfl, hU⟩ := hv
  have hl := lv_entry ([.ref (ad 11 a0 b0)]) (n := 1) (Nat.le_of_ble_eq_true rfl)
  rw [lg_entry_eq]
  generalize (lg_sl ([.ref (ad 11 a0 b0)]) ++ List.replicate (1 - (lg_sl ([.ref (ad 11 a0 b0)])).length) Slot.unset).toArray = ls at hl ⊢
  exact t_X1_forgetJobs ⟨B.exec, B.bytes, hml, B.returns, findClass_of_methodNamed B.named, atoms_spec (ws := wsX1_forgetJobs) B.pre, B.notSynchronized, hG, hU, hE⟩ v0 hf hU.2.1 va_S.rf hl

/-! SpinKernel$Row.join(I)V -/
def f_X2_join (σ : ks_S) (a0 : Nat) (x1 : Int32) : Option ks_S :=
  (if 4 ≤ ((σ 12 a0 0 1)) then some σ else (if ks_in ((σ 12 a0 0 1)) 4 = true then some ((ks_up (ks_up σ 13 a0 0 ((σ 12 a0 0 1)).toNatClampNeg x1) 12 a0 0 1 ((((((ks_up σ 13 a0 0 ((σ 12 a0 0 1)).toNatClampNeg x1)) 12 a0 0 1)) + 1)))) else none))
theorem in_X2_join_2 : ∀ w ∈ wsX20, w ∈ wsX2_join := by decide +kernel
set_option maxHeartbeats 4000000 in
set_option maxRecDepth 100000 in
theorem t_X2_join {p : Program} {l : Launch} {e : Env} {s : State} {m : MethodId} {args : Array Value} {below : List Frame} {meth : Method} {c : Code} {D : va_G} {cy : Nat → ClassId} {ad : ks_A} {En : Nat → Prop} {n0 : Nat → Prop} {σ0 : ks_S} {o : Int64} {out : ks_S} (C : ks_M p s m args meth c D cy ad En (fun k => ks_g k = 0) n0 σ0 o wsX2_join cX2_join RX2 2 (none)) {σ : ks_S} {a0 : Nat} {x1 : Int32} (v0 : ks_v En 12 a0 0) (hf : f_X2_join σ a0 x1 = some out) {H : Heap} {locs : List Loc} {ls : Array Slot} (hW : ks_W D cy ad En σ o H) (hS : va_S (ks_F n0) s.heap H locs) (hl : lv_has ls 2 [(0, .ref (ad 12 a0 0)), (1, .int x1)]) : W p l e (ks_Rm 0 0 0 0) s m args below meth c H locs 0 0 (MQ below (ks_Qv D cy ad En n0 o out) args s 0 0 (ks_F n0)) (F0 m 0 ls []) := by
  obtain ⟨hx, hb, hml, hr, hown, hts, hlocks, hG, hU0, hE⟩ := id C
  have hK := hU0.2.2
  unfold f_X2_join at hf
  refine lv_aload_n hx hb dX2_join_0 rfl (lv_at hl 0 rfl) ?_
  refine va_get (D := D) (ci := 2) (v := .int (σ 12 a0 0 1)) (C := RX2) (T := TX2) (N := 2) hx hb hts in_X2_join_2 hown hK (ks_P1 hW v0 (ks_c12 cy ad o a0 0 _)) 0 rfl rfl 1 (by decide) (hts (.fieldLink RX2 15 "SpinKernel$Row" "size" "I") (by decide +kernel)) (fun _ h => h) rfl dX2_join_1 ?_
  refine lv_iconst (v := 4) hx hb dX2_join_4 (by decide) ?_
  refine lv_icmp_ge (tgt := 28) hx hb dX2_join_5 (by decide) (fun c1 => ?_) (fun c1 => ?_)
  · rw [if_pos c1] at hf
    exact ks_vret C hf hW hS dX2_join_28
  · rw [if_neg c1] at hf
    refine lv_aload_n hx hb dX2_join_8 rfl (lv_at hl 0 rfl) ?_
    refine va_get (D := D) (ci := 2) (v := .ref (ad 13 a0 0)) (C := RX2) (T := TX2) (N := 2) hx hb hts in_X2_join_2 hown hK (ks_P1 hW v0 (ks_c12 cy ad o a0 0 _)) 0 rfl rfl 0 (by decide) (hts (.fieldLink RX2 9 "SpinKernel$Row" "cores" "[I") (by decide +kernel)) (fun _ h => h) rfl dX2_join_9 ?_
    refine lv_aload_n hx hb dX2_join_12 rfl (lv_at hl 0 rfl) ?_
    refine va_get (D := D) (ci := 2) (v := .int (σ 12 a0 0 1)) (C := RX2) (T := TX2) (N := 2) hx hb hts in_X2_join_2 hown hK (ks_P1 hW v0 (ks_c12 cy ad o a0 0 _)) 0 rfl rfl 1 (by decide) (hts (.fieldLink RX2 15 "SpinKernel$Row" "size" "I") (by decide +kernel)) (fun _ h => h) rfl dX2_join_13 ?_
    refine lv_iload_n hx hb dX2_join_16 rfl (lv_at hl 1 rfl) ?_
    obtain ⟨hi2, hf⟩ := ks_guard hf
    refine ks_iast hx hb hK hG hW hS (ks_v13 (j := 0) v0.2.1 (hE 13 rfl)) (fun c => ks_c13 cy ad o a0 0 c) hi2 dX2_join_17 (fun H locs hW hS => ?_)
    refine lv_aload_n hx hb dX2_join_18 rfl (lv_at hl 0 rfl) ?_
    refine lv_dup hx hb dX2_join_19 rfl ?_
    refine va_get (D := D) (ci := 2) (v := .int (((ks_up σ 13 a0 0 ((σ 12 a0 0 1)).toNatClampNeg x1)) 12 a0 0 1)) (C := RX2) (T := TX2) (N := 2) hx hb hts in_X2_join_2 hown hK (ks_P1 hW v0 (ks_c12 cy ad o a0 0 _)) 0 rfl rfl 1 (by decide) (hts (.fieldLink RX2 15 "SpinKernel$Row" "size" "I") (by decide +kernel)) (fun _ h => h) rfl dX2_join_20 ?_
    refine lv_iconst (v := 1) hx hb dX2_join_23 (by decide) ?_
    refine lv_iadd hx hb dX2_join_24 ?_
    refine ks_put (D := D) (ci := 2) (C := RX2) (T := TX2) (N := 2) hx hb hts in_X2_join_2 tyX2 tyX2_ok nmX2 hown hK hG hW hS v0 1 (v := (((((ks_up σ 13 a0 0 ((σ 12 a0 0 1)).toNatClampNeg x1)) 12 a0 0 1)) + 1)) (ks_c12 cy ad o a0 0 _) (ks_c12s1 cy ad o a0 0 _ _) rfl (by decide) (hts (.fieldLink RX2 15 "SpinKernel$Row" "size" "I") (by decide +kernel)) rfl (ty := .int) (by decide +kernel) rfl rfl (Nat.le_of_ble_eq_true rfl) dX2_join_25 (fun H locs hW hS => ?_)
    exact ks_vret C hf hW hS dX2_join_28
set_option maxHeartbeats 4000000 in
set_option maxRecDepth 100000 in
theorem m_X2_join (l : Launch) (D : va_G) (cy : Nat → ClassId) (ad : ks_A) (En : Nat → Prop) (n0 : Nat → Prop) (hG : ks_G ad En n0) (hE : ∀ k, ks_g k = 0 → En k) (o : Int64) {σ : ks_S} {a0 : Nat} {x1 : Int32} (v0 : ks_v En 12 a0 0) {out : ks_S} (hf : f_X2_join σ a0 x1 = some out) : Met l yX2_join wsX2_join (ks_Rm 0 0 0 0) (va_Pc [.ref (ad 12 a0 0), .int x1] (ks_U D cy ad En n0 σ o)) (ks_Qv D cy ad En n0 o out) 0 0 (ks_F n0) := by
  refine Met.ofW (cc := cX2_join) (maxL := 2) (ret := none) (by decide) rfl ?_
  intro p e s m args below meth c s₁ B hml hv
  obtain ⟨rfl, hU⟩ := hv
  have hl := lv_entry ([.ref (ad 12 a0 0), .int x1]) (n := 2) (Nat.le_of_ble_eq_true rfl)
  rw [lg_entry_eq]
  generalize (lg_sl ([.ref (ad 12 a0 0), .int x1]) ++ List.replicate (2 - (lg_sl ([.ref (ad 12 a0 0), .int x1])).length) Slot.unset).toArray = ls at hl ⊢
  exact t_X2_join ⟨B.exec, B.bytes, hml, B.returns, findClass_of_methodNamed B.named, atoms_spec (ws := wsX2_join) B.pre, B.notSynchronized, hG, hU, hE⟩ v0 hf hU.2.1 va_S.rf hl

/-! SpinKernel$Row.dropFirst()V -/
def f_X2_dropFirst_2 (N : Nat) : Nat → ks_S → Nat → Int32 → Option ks_S
  | 0, _, _, _ => none
  | n + 1, σ, a0, x1 => (if ((σ 12 a0 0 1)) ≤ x1 then some ((ks_up σ 12 a0 0 1 ((if 0 < ((((σ 12 a0 0 1)) - 1)) then ((((σ 12 a0 0 1)) - 1)) else 0)))) else (if ks_in x1 4 = true then (if ks_in ((x1 - 1)) 4 = true then f_X2_dropFirst_2 N n ((ks_up σ 13 a0 0 ((x1 - 1)).toNatClampNeg ((σ 13 a0 0 x1.toNatClampNeg)))) a0 ((x1 + 1)) else none) else none))
def f_X2_dropFirst (N : Nat) (σ : ks_S) (a0 : Nat) : Option ks_S :=
  f_X2_dropFirst_2 N N σ a0 1
theorem in_X2_dropFirst_2 : ∀ w ∈ wsX20, w ∈ wsX2_dropFirst := by decide +kernel
set_option maxHeartbeats 4000000 in
set_option maxRecDepth 100000 in
theorem t_X2_dropFirst_2 {p : Program} {l : Launch} {e : Env} {s : State} {m : MethodId} {args : Array Value} {below : List Frame} {meth : Method} {c : Code} {D : va_G} {cy : Nat → ClassId} {ad : ks_A} {En : Nat → Prop} {n0 : Nat → Prop} {σ0 : ks_S} {o : Int64} {N : Nat} {out : ks_S} (C : ks_M p s m args meth c D cy ad En (fun k => ks_g k = 0) n0 σ0 o wsX2_dropFirst cX2_dropFirst RX2 2 (none)) : ∀ (n : Nat) (σ : ks_S) (a0 : Nat) (x1 : Int32), ks_v En 12 a0 0 → f_X2_dropFirst_2 N n σ a0 x1 = some out → ∀ {H : Heap} {locs : List Loc} {ls : Array Slot}, ks_W D cy ad En σ o H → va_S (ks_F n0) s.heap H locs → lv_has ls 2 [(0, .ref (ad 12 a0 0)), (1, .int x1)] → W p l e (ks_Rm 1 0 0 14) s m args below meth c H locs 0 0 (MQ below (ks_Qv D cy ad En n0 o out) args s 0 0 (ks_F n0)) (F0 m 2 ls []) := by
  obtain ⟨hx, hb, hml, hr, hown, hts, hlocks, hG, hU0, hE⟩ := id C
  have hK := hU0.2.2
  intro n
  induction n with
  | zero => intro σ a0 x1; intro v0 hf; exact absurd hf (by simp [f_X2_dropFirst_2])
  | succ n hk2 =>
    intro σ a0 x1 v0 hf H locs ls hW hS hl
    rw [f_X2_dropFirst_2] at hf
    refine lv_iload_n hx hb dX2_dropFirst_2 rfl (lv_at hl 1 rfl) ?_
    refine lv_aload_n hx hb dX2_dropFirst_3 rfl (lv_at hl 0 rfl) ?_
    refine va_get (D := D) (ci := 2) (v := .int (σ 12 a0 0 1)) (C := RX2) (T := TX2) (N := 2) hx hb hts in_X2_dropFirst_2 hown hK (ks_P1 hW v0 (ks_c12 cy ad o a0 0 _)) 0 rfl rfl 1 (by decide) (hts (.fieldLink RX2 15 "SpinKernel$Row" "size" "I") (by decide +kernel)) (fun _ h => h) rfl dX2_dropFirst_4 ?_
    refine lv_icmp_ge (tgt := 30) hx hb dX2_dropFirst_7 (by decide) (fun c1 => ?_) (fun c1 => ?_)
    · rw [if_pos c1] at hf
      refine lv_aload_n hx hb dX2_dropFirst_30 rfl (lv_at hl 0 rfl) ?_
      refine lv_iconst (v := 0) hx hb dX2_dropFirst_31 (by decide) ?_
      refine lv_aload_n hx hb dX2_dropFirst_32 rfl (lv_at hl 0 rfl) ?_
      refine va_get (D := D) (ci := 2) (v := .int (σ 12 a0 0 1)) (C := RX2) (T := TX2) (N := 2) hx hb hts in_X2_dropFirst_2 hown hK (ks_P1 hW v0 (ks_c12 cy ad o a0 0 _)) 0 rfl rfl 1 (by decide) (hts (.fieldLink RX2 15 "SpinKernel$Row" "size" "I") (by decide +kernel)) (fun _ h => h) rfl dX2_dropFirst_33 ?_
      refine lv_iconst (v := 1) hx hb dX2_dropFirst_36 (by decide) ?_
      refine lv_isub hx hb dX2_dropFirst_37 ?_
      refine va_mmax hx hb (hml.trans hl.1.symm) hown (hts (.methodLink RX2 19 Lib.Math.max.name) (by decide +kernel)) (hts (.static Lib.Math.max.name) (by decide +kernel)) (hts (.initialized "java/lang/Math") (by decide +kernel)) (hts (.code Lib.Math.max.name Lib.Math.max.code 2 (some .int)) (by decide +kernel)) (Nat.le_of_ble_eq_true rfl) (Nat.le_of_ble_eq_true rfl) (Nat.le_of_ble_eq_true rfl) (Nat.le_of_ble_eq_true rfl) dX2_dropFirst_38 ?_
      refine ks_put (D := D) (ci := 2) (C := RX2) (T := TX2) (N := 2) hx hb hts in_X2_dropFirst_2 tyX2 tyX2_ok nmX2 hown hK hG hW hS v0 1 (v := (if 0 < ((((σ 12 a0 0 1)) - 1)) then ((((σ 12 a0 0 1)) - 1)) else 0)) (ks_c12 cy ad o a0 0 _) (ks_c12s1 cy ad o a0 0 _ _) rfl (by decide) (hts (.fieldLink RX2 15 "SpinKernel$Row" "size" "I") (by decide +kernel)) rfl (ty := .int) (by decide +kernel) rfl rfl (Nat.le_of_ble_eq_true rfl) dX2_dropFirst_41 (fun H locs hW hS => ?_)
      exact ks_vret C hf hW hS dX2_dropFirst_44
    · rw [if_neg c1] at hf
      refine lv_aload_n hx hb dX2_dropFirst_10 rfl (lv_at hl 0 rfl) ?_
      refine va_get (D := D) (ci := 2) (v := .ref (ad 13 a0 0)) (C := RX2) (T := TX2) (N := 2) hx hb hts in_X2_dropFirst_2 hown hK (ks_P1 hW v0 (ks_c12 cy ad o a0 0 _)) 0 rfl rfl 0 (by decide) (hts (.fieldLink RX2 9 "SpinKernel$Row" "cores" "[I") (by decide +kernel)) (fun _ h => h) rfl dX2_dropFirst_11 ?_
      refine lv_iload_n hx hb dX2_dropFirst_14 rfl (lv_at hl 1 rfl) ?_
      refine lv_iconst (v := 1) hx hb dX2_dropFirst_15 (by decide) ?_
      refine lv_isub hx hb dX2_dropFirst_16 ?_
      refine lv_aload_n hx hb dX2_dropFirst_17 rfl (lv_at hl 0 rfl) ?_
      refine va_get (D := D) (ci := 2) (v := .ref (ad 13 a0 0)) (C := RX2) (T := TX2) (N := 2) hx hb hts in_X2_dropFirst_2 hown hK (ks_P1 hW v0 (ks_c12 cy ad o a0 0 _)) 0 rfl rfl 0 (by decide) (hts (.fieldLink RX2 9 "SpinKernel$Row" "cores" "[I") (by decide +kernel)) (fun _ h => h) rfl dX2_dropFirst_18 ?_
      refine lv_iload_n hx hb dX2_dropFirst_21 rfl (lv_at hl 1 rfl) ?_
      obtain ⟨hi2, hf⟩ := ks_guard hf
      refine ks_iald hx hb hK hW (ks_v13 (j := 0) v0.2.1 (hE 13 rfl)) (ks_c13 cy ad o a0 0 _) hi2 dX2_dropFirst_22 ?_
      obtain ⟨hi3, hf⟩ := ks_guard hf
      refine ks_iast hx hb hK hG hW hS (ks_v13 (j := 0) v0.2.1 (hE 13 rfl)) (fun c => ks_c13 cy ad o a0 0 c) hi3 dX2_dropFirst_23 (fun H locs hW hS => ?_)
      refine lv_iinc (v := (x1 + 1)) (lv' := [(1, .int (x1 + 1)), (0, .ref (ad 12 a0 0))]) hx hb dX2_dropFirst_24 hl (k := 1) rfl rfl (by decide) rfl (fun ls hl => ?_)
      refine lv_goto (tgt := 2) hx hb dX2_dropFirst_27 (by decide) ?_
      exact hk2 _ _ _ v0 hf hW hS (lv_sub hl [1, 0] rfl)
set_option maxHeartbeats 4000000 in
set_option maxRecDepth 100000 in
theorem t_X2_dropFirst {p : Program} {l : Launch} {e : Env} {s : State} {m : MethodId} {args : Array Value} {below : List Frame} {meth : Method} {c : Code} {D : va_G} {cy : Nat → ClassId} {ad : ks_A} {En : Nat → Prop} {n0 : Nat → Prop} {σ0 : ks_S} {o : Int64} {N : Nat} {out : ks_S} (C : ks_M p s m args meth c D cy ad En (fun k => ks_g k = 0) n0 σ0 o wsX2_dropFirst cX2_dropFirst RX2 2 (none)) {σ : ks_S} {a0 : Nat} (v0 : ks_v En 12 a0 0) (hf : f_X2_dropFirst N σ a0 = some out) {H : Heap} {locs : List Loc} {ls : Array Slot} (hW : ks_W D cy ad En σ o H) (hS : va_S (ks_F n0) s.heap H locs) (hl : lv_has ls 2 [(0, .ref (ad 12 a0 0))]) : W p l e (ks_Rm 1 0 0 14) s m args below meth c H locs 0 0 (MQ below (ks_Qv D cy ad En n0 o out) args s 0 0 (ks_F n0)) (F0 m 0 ls []) := by
  obtain ⟨hx, hb, hml, hr, hown, hts, hlocks, hG, hU0, hE⟩ := id C
  have hK := hU0.2.2
  unfold f_X2_dropFirst at hf
  refine lv_iconst (v := 1) hx hb dX2_dropFirst_0 (by decide) ?_
  refine lv_istore_n (lv' := [(1, .int 1), (0, .ref (ad 12 a0 0))]) hx hb dX2_dropFirst_1 rfl hl (by decide) rfl (fun ls hl => ?_)
  exact t_X2_dropFirst_2 C _ _ _ _ v0 hf hW hS (lv_sub hl [1, 0] rfl)
set_option maxHeartbeats 4000000 in
set_option maxRecDepth 100000 in
theorem m_X2_dropFirst (l : Launch) (D : va_G) (cy : Nat → ClassId) (ad : ks_A) (En : Nat → Prop) (n0 : Nat → Prop) (hG : ks_G ad En n0) (hE : ∀ k, ks_g k = 0 → En k) (o : Int64) {N : Nat} {σ : ks_S} {a0 : Nat} (v0 : ks_v En 12 a0 0) {out : ks_S} (hf : f_X2_dropFirst N σ a0 = some out) : Met l yX2_dropFirst wsX2_dropFirst (ks_Rm 1 0 0 14) (va_Pc [.ref (ad 12 a0 0)] (ks_U D cy ad En n0 σ o)) (ks_Qv D cy ad En n0 o out) 0 0 (ks_F n0) := by
  refine Met.ofW (cc := cX2_dropFirst) (maxL := 2) (ret := none) (by decide) rfl ?_
  intro p e s m args below meth c s₁ B hml hv
  obtain ⟨rfl, hU⟩ := hv
  have hl := lv_entry ([.ref (ad 12 a0 0)]) (n := 2) (Nat.le_of_ble_eq_true rfl)
  rw [lg_entry_eq]
  generalize (lg_sl ([.ref (ad 12 a0 0)]) ++ List.replicate (2 - (lg_sl ([.ref (ad 12 a0 0)])).length) Slot.unset).toArray = ls at hl ⊢
  exact t_X2_dropFirst ⟨B.exec, B.bytes, hml, B.returns, findClass_of_methodNamed B.named, atoms_spec (ws := wsX2_dropFirst) B.pre, B.notSynchronized, hG, hU, hE⟩ v0 hf hU.2.1 va_S.rf hl

/-! SpinKernel$Row.coreAt(I)I -/
def f_X2_coreAt (σ : ks_S) (a0 : Nat) (x1 : Int32) : Option (Int32 × ks_S) :=
  (if x1 < 0 then some ((-1), σ) else (if ((σ 12 a0 0 1)) ≤ x1 then some ((-1), σ) else (if ks_in x1 4 = true then some ((σ 13 a0 0 x1.toNatClampNeg), σ) else none)))
theorem in_X2_coreAt_2 : ∀ w ∈ wsX20, w ∈ wsX2_coreAt := by decide +kernel
set_option maxHeartbeats 4000000 in
set_option maxRecDepth 100000 in
theorem t_X2_coreAt {p : Program} {l : Launch} {e : Env} {s : State} {m : MethodId} {args : Array Value} {below : List Frame} {meth : Method} {c : Code} {D : va_G} {cy : Nat → ClassId} {ad : ks_A} {En : Nat → Prop} {n0 : Nat → Prop} {σ0 : ks_S} {o : Int64} {out : (Int32 × ks_S)} (C : ks_M p s m args meth c D cy ad En (fun k => ks_g k = 0) n0 σ0 o wsX2_coreAt cX2_coreAt RX2 2 (some .int)) {σ : ks_S} {a0 : Nat} {x1 : Int32} (v0 : ks_v En 12 a0 0) (hf : f_X2_coreAt σ a0 x1 = some out) {H : Heap} {locs : List Loc} {ls : Array Slot} (hW : ks_W D cy ad En σ o H) (hS : va_S (ks_F n0) s.heap H locs) (hl : lv_has ls 2 [(0, .ref (ad 12 a0 0)), (1, .int x1)]) : W p l e (ks_Rm 0 0 0 0) s m args below meth c H locs 0 0 (MQ below (ks_Qi D cy ad En n0 o out) args s 0 0 (ks_F n0)) (F0 m 0 ls []) := by
  obtain ⟨hx, hb, hml, hr, hown, hts, hlocks, hG, hU0, hE⟩ := id C
  have hK := hU0.2.2
  unfold f_X2_coreAt at hf
  refine lv_iload_n hx hb dX2_coreAt_0 rfl (lv_at hl 1 rfl) ?_
  refine lv_if_lt (tgt := 21) hx hb dX2_coreAt_1 (by decide) (fun c1 => ?_) (fun c1 => ?_)
  · rw [if_pos c1] at hf
    refine lv_iconst (v := (-1)) hx hb dX2_coreAt_21 (by decide) ?_
    exact ks_iret C hf hW hS dX2_coreAt_22
  · rw [if_neg c1] at hf
    refine lv_iload_n hx hb dX2_coreAt_4 rfl (lv_at hl 1 rfl) ?_
    refine lv_aload_n hx hb dX2_coreAt_5 rfl (lv_at hl 0 rfl) ?_
    refine va_get (D := D) (ci := 2) (v := .int (σ 12 a0 0 1)) (C := RX2) (T := TX2) (N := 2) hx hb hts in_X2_coreAt_2 hown hK (ks_P1 hW v0 (ks_c12 cy ad o a0 0 _)) 0 rfl rfl 1 (by decide) (hts (.fieldLink RX2 15 "SpinKernel$Row" "size" "I") (by decide +kernel)) (fun _ h => h) rfl dX2_coreAt_6 ?_
    refine lv_icmp_ge (tgt := 21) hx hb dX2_coreAt_9 (by decide) (fun c2 => ?_) (fun c2 => ?_)
    · rw [if_pos c2] at hf
      refine lv_iconst (v := (-1)) hx hb dX2_coreAt_21 (by decide) ?_
      exact ks_iret C hf hW hS dX2_coreAt_22
    · rw [if_neg c2] at hf
      refine lv_aload_n hx hb dX2_coreAt_12 rfl (lv_at hl 0 rfl) ?_
      refine va_get (D := D) (ci := 2) (v := .ref (ad 13 a0 0)) (C := RX2) (T := TX2) (N := 2) hx hb hts in_X2_coreAt_2 hown hK (ks_P1 hW v0 (ks_c12 cy ad o a0 0 _)) 0 rfl rfl 0 (by decide) (hts (.fieldLink RX2 9 "SpinKernel$Row" "cores" "[I") (by decide +kernel)) (fun _ h => h) rfl dX2_coreAt_13 ?_
      refine lv_iload_n hx hb dX2_coreAt_16 rfl (lv_at hl 1 rfl) ?_
      obtain ⟨hi3, hf⟩ := ks_guard hf
      refine ks_iald hx hb hK hW (ks_v13 (j := 0) v0.2.1 (hE 13 rfl)) (ks_c13 cy ad o a0 0 _) hi3 dX2_coreAt_17 ?_
      refine lv_goto (tgt := 22) hx hb dX2_coreAt_18 (by decide) ?_
      exact ks_iret C hf hW hS dX2_coreAt_22
set_option maxHeartbeats 4000000 in
set_option maxRecDepth 100000 in
theorem m_X2_coreAt (l : Launch) (D : va_G) (cy : Nat → ClassId) (ad : ks_A) (En : Nat → Prop) (n0 : Nat → Prop) (hG : ks_G ad En n0) (hE : ∀ k, ks_g k = 0 → En k) (o : Int64) {σ : ks_S} {a0 : Nat} {x1 : Int32} (v0 : ks_v En 12 a0 0) {out : (Int32 × ks_S)} (hf : f_X2_coreAt σ a0 x1 = some out) : Met l yX2_coreAt wsX2_coreAt (ks_Rm 0 0 0 0) (va_Pc [.ref (ad 12 a0 0), .int x1] (ks_U D cy ad En n0 σ o)) (ks_Qi D cy ad En n0 o out) 0 0 (ks_F n0) := by
  refine Met.ofW (cc := cX2_coreAt) (maxL := 2) (ret := some .int) (by decide) rfl ?_
  intro p e s m args below meth c s₁ B hml hv
  obtain ⟨rfl, hU⟩ := hv
  have hl := lv_entry ([.ref (ad 12 a0 0), .int x1]) (n := 2) (Nat.le_of_ble_eq_true rfl)
  rw [lg_entry_eq]
  generalize (lg_sl ([.ref (ad 12 a0 0), .int x1]) ++ List.replicate (2 - (lg_sl ([.ref (ad 12 a0 0), .int x1])).length) Slot.unset).toArray = ls at hl ⊢
  exact t_X2_coreAt ⟨B.exec, B.bytes, hml, B.returns, findClass_of_methodNamed B.named, atoms_spec (ws := wsX2_coreAt) B.pre, B.notSynchronized, hG, hU, hE⟩ v0 hf hU.2.1 va_S.rf hl
