/-! SpinKernel$Task.startJob(I)V -/
def f_X3_startJob_2 (N : Nat) : Nat → ks_S → Nat → Int32 → Int32 → Option ks_S
  | 0, _, _, _, _ => none
  | n + 1, σ, a0, x1, x2 => (if ((σ 8 a0 0 7)) ≤ x2 then ((f_X3_outerFrom N σ a0 0).bind fun (r4, s3) => ((f_X0_start s3 a0 x1 r4).bind fun s6 => some s6)) else (if ks_in x2 6 = true then ((f_X1_startJob σ a0 ((x2.toNatClampNeg))).bind fun s10 => f_X3_startJob_2 N n s10 a0 x1 ((x2 + 1))) else none))
def f_X3_startJob (N : Nat) (σ : ks_S) (a0 : Nat) (x1 : Int32) : Option ks_S :=
  f_X3_startJob_2 N N σ a0 x1 0
theorem in_X3_startJob_3 : ∀ w ∈ wsX30, w ∈ wsX3_startJob := by decide +kernel
set_option maxHeartbeats 4000000 in
set_option maxRecDepth 100000 in
theorem t_X3_startJob_2 {p : Program} {l : Launch} {e : Env} {s : State} {m : MethodId} {args : Array Value} {below : List Frame} {meth : Method} {c : Code} {D : va_G} {cy : Nat → ClassId} {ad : ks_A} {En : Nat → Prop} {n0 : Nat → Prop} {σ0 : ks_S} {o : Int64} {N : Nat} {out : ks_S} (C : ks_M p s m args meth c D cy ad En (fun k => ks_g k = 0) n0 σ0 o wsX3_startJob cX3_startJob RX3 3 (none)) : ∀ (n : Nat) (σ : ks_S) (a0 : Nat) (x1 : Int32) (x2 : Int32), ks_v En 8 a0 0 → f_X3_startJob_2 N n σ a0 x1 x2 = some out → ∀ {H : Heap} {locs : List Loc} {ls : Array Slot}, ks_W D cy ad En σ o H → va_S (ks_F n0) s.heap H locs → lv_has ls 3 [(0, .ref (ad 8 a0 0)), (1, .int x1), (2, .int x2)] → W p l e (ks_Rm 2 0 0 42) s m args below meth c H locs 0 0 (MQ below (ks_Qv D cy ad En n0 o out) args s 0 0 (ks_F n0)) (F0 m 2 ls []) := by
  obtain ⟨hx, hb, hml, hr, hown, hts, hlocks, hG, hU0, hE⟩ := id C
  have hK := hU0.2.2
  intro n
  induction n with
  | zero => intro σ a0 x1 x2; intro v0 hf; exact absurd hf (by simp [f_X3_startJob_2])
  | succ n hk2 =>
    intro σ a0 x1 x2 v0 hf H locs ls hW hS hl
    rw [f_X3_startJob_2] at hf
    refine lv_iload_n hx hb dX3_startJob_2 rfl (lv_at hl 2 rfl) ?_
    refine lv_aload_n hx hb dX3_startJob_3 rfl (lv_at hl 0 rfl) ?_
    refine va_get (D := D) (ci := 3) (v := .int (σ 8 a0 0 7)) (C := RX3) (T := TX3) (N := 10) hx hb hts in_X3_startJob_3 hown hK (ks_P1 hW v0 (ks_c8 cy ad o a0 0 _)) 0 rfl rfl 7 (by decide) (hts (.fieldLink RX3 45 "SpinKernel$Task" "count" "I") (by decide +kernel)) (fun _ h => h) rfl dX3_startJob_4 ?_
    refine lv_icmp_ge (tgt := 25) hx hb dX3_startJob_7 (by decide) (fun c1 => ?_) (fun c1 => ?_)
    · rw [if_pos c1] at hf
      refine lv_aload_n hx hb dX3_startJob_25 rfl (lv_at hl 0 rfl) ?_
      refine va_get (D := D) (ci := 3) (v := .ref (ad 9 a0 0)) (C := RX3) (T := TX3) (N := 10) hx hb hts in_X3_startJob_3 hown hK (ks_P1 hW v0 (ks_c8 cy ad o a0 0 _)) 0 rfl rfl 9 (by decide) (hts (.fieldLink RX3 20 "SpinKernel$Task" "job" "LSpinKernel$Job;") (by decide +kernel)) (fun _ h => h) rfl dX3_startJob_26 ?_
      refine lv_iload_n hx hb dX3_startJob_29 rfl (lv_at hl 1 rfl) ?_
      refine lv_aload_n hx hb dX3_startJob_30 rfl (lv_at hl 0 rfl) ?_
      refine lv_iconst (v := 0) hx hb dX3_startJob_31 (by decide) ?_
      obtain ⟨⟨r4, s3⟩, hc2, hf⟩ := ks_bind hf
      try dsimp only at hf
      refine ks_calli (va_runV (As := [.int 0]) (rest := [.int x1, .ref (ad 9 a0 0)]) ⟨hx, hb, hml, hown, hts⟩ (m_X3_outerFrom l D cy ad En n0 hG hE o v0 hc2) (cwV 1 hts gX3_startJob_X3_outerFrom rfl rfl rfl (by decide +kernel) ⟨(Nat.le_of_ble_eq_true rfl), (Nat.le_of_ble_eq_true rfl)⟩) ⟨ks_U.blind, ks_recv hK hW v0 (ks_c8 cy ad o a0 0 _) rfl, fun U hU hWm => ⟨rfl, hU0.now hS hW hWm.alike hU⟩⟩ rfl rfl hl.1 rfl (lv_room (Nat.le_of_ble_eq_true rfl)) dX3_startJob_32 ⟨(Nat.le_of_ble_eq_true rfl), (Nat.le_of_ble_eq_true rfl)⟩) hS (fun H locs hW hS => ?_)
      obtain ⟨s6, hc5, hf⟩ := ks_bind hf
      try dsimp only at hf
      refine ks_callv (va_runV (As := [.int x1, .int r4]) (rest := []) ⟨hx, hb, hml, hown, hts⟩ (m_X0_start l D cy ad En n0 hG hE o (ks_v9 (j := 0) v0.2.1 (hE 9 rfl)) hc5) (cwV 2 hts gX3_startJob_X0_start rfl rfl rfl (by decide +kernel) ⟨(Nat.le_of_ble_eq_true rfl), (Nat.le_of_ble_eq_true rfl)⟩) ⟨ks_U.blind, ks_recv hK hW (ks_v9 (j := 0) v0.2.1 (hE 9 rfl)) (ks_c9 cy ad o a0 0 _) rfl, fun U hU hWm => ⟨rfl, hU0.now hS hW hWm.alike hU⟩⟩ rfl rfl hl.1 rfl (lv_room (Nat.le_of_ble_eq_true rfl)) dX3_startJob_35 ⟨(Nat.le_of_ble_eq_true rfl), (Nat.le_of_ble_eq_true rfl)⟩) hS (fun H locs hW hS => ?_)
      exact ks_vret C hf hW hS dX3_startJob_38
    · rw [if_neg c1] at hf
      refine lv_aload_n hx hb dX3_startJob_10 rfl (lv_at hl 0 rfl) ?_
      refine va_get (D := D) (ci := 3) (v := .ref (ad 10 a0 0)) (C := RX3) (T := TX3) (N := 10) hx hb hts in_X3_startJob_3 hown hK (ks_P1 hW v0 (ks_c8 cy ad o a0 0 _)) 0 rfl rfl 8 (by decide) (hts (.fieldLink RX3 11 "SpinKernel$Task" "requests" "[LSpinKernel$Request;") (by decide +kernel)) (fun _ h => h) rfl dX3_startJob_11 ?_
      refine lv_iload_n hx hb dX3_startJob_14 rfl (lv_at hl 2 rfl) ?_
      obtain ⟨hi8, hf⟩ := ks_guard hf
      refine ks_aald hx hb hK hW (ks_v10 (j := 0) v0.2.1 (hE 10 rfl)) 5 (ks_c10 cy ad o a0 0 _) rfl rfl hi8 dX3_startJob_15 ?_
      obtain ⟨s10, hc9, hf⟩ := ks_bind hf
      try dsimp only at hf
      refine ks_callv (va_runV (As := []) (rest := []) ⟨hx, hb, hml, hown, hts⟩ (m_X1_startJob l D cy ad En n0 hG hE o (ks_v11 (ks_v10 (j := 0) v0.2.1 (hE 10 rfl)).2.1 (ks_in_lt hi8) (hE 11 rfl)) hc9) (cwV 0 hts gX3_startJob_X1_startJob rfl rfl rfl (by decide +kernel) ⟨(Nat.le_of_ble_eq_true rfl), (Nat.le_of_ble_eq_true rfl)⟩) ⟨ks_U.blind, ks_recv hK hW (ks_v11 (ks_v10 (j := 0) v0.2.1 (hE 10 rfl)).2.1 (ks_in_lt hi8) (hE 11 rfl)) (ks_c11 cy ad o a0 (x2.toNatClampNeg) _) rfl, fun U hU hWm => ⟨rfl, hU0.now hS hW hWm.alike hU⟩⟩ rfl rfl hl.1 rfl (lv_room (Nat.le_of_ble_eq_true rfl)) dX3_startJob_16 ⟨(Nat.le_of_ble_eq_true rfl), (Nat.le_of_ble_eq_true rfl)⟩) hS (fun H locs hW hS => ?_)
      refine lv_iinc (v := (x2 + 1)) (lv' := [(2, .int (x2 + 1)), (0, .ref (ad 8 a0 0)), (1, .int x1)]) hx hb dX3_startJob_19 hl (k := 2) rfl rfl (by decide) rfl (fun ls hl => ?_)
      refine lv_goto (tgt := 2) hx hb dX3_startJob_22 (by decide) ?_
      exact hk2 _ _ _ _ v0 hf hW hS (lv_sub hl [1, 2, 0] rfl)
set_option maxHeartbeats 4000000 in
set_option maxRecDepth 100000 in
theorem t_X3_startJob {p : Program} {l : Launch} {e : Env} {s : State} {m : MethodId} {args : Array Value} {below : List Frame} {meth : Method} {c : Code} {D : va_G} {cy : Nat → ClassId} {ad : ks_A} {En : Nat → Prop} {n0 : Nat → Prop} {σ0 : ks_S} {o : Int64} {N : Nat} {out : ks_S} (C : ks_M p s m args meth c D cy ad En (fun k => ks_g k = 0) n0 σ0 o wsX3_startJob cX3_startJob RX3 3 (none)) {σ : ks_S} {a0 : Nat} {x1 : Int32} (v0 : ks_v En 8 a0 0) (hf : f_X3_startJob N σ a0 x1 = some out) {H : Heap} {locs : List Loc} {ls : Array Slot} (hW : ks_W D cy ad En σ o H) (hS : va_S (ks_F n0) s.heap H locs) (hl : lv_has ls 3 [(0, .ref (ad 8 a0 0)), (1, .int x1)]) : W p l e (ks_Rm 2 0 0 42) s m args below meth c H locs 0 0 (MQ below (ks_Qv D cy ad En n0 o out) args s 0 0 (ks_F n0)) (F0 m 0 ls []) := by
  obtain ⟨hx, hb, hml, hr, hown, hts, hlocks, hG, hU0, hE⟩ := id C
  have hK := hU0.2.2
  unfold f_X3_startJob at hf
  refine lv_iconst (v := 0) hx hb dX3_startJob_0 (by decide) ?_
  refine lv_istore_n (lv' := [(2, .int 0), (0, .ref (ad 8 a0 0)), (1, .int x1)]) hx hb dX3_startJob_1 rfl hl (by decide) rfl (fun ls hl => ?_)
  exact t_X3_startJob_2 C _ _ _ _ _ v0 hf hW hS (lv_sub hl [1, 2, 0] rfl)
set_option maxHeartbeats 4000000 in
set_option maxRecDepth 100000 in
theorem m_X3_startJob (l : Launch) (D : va_G) (cy : Nat → ClassId) (ad : ks_A) (En : Nat → Prop) (n0 : Nat → Prop) (hG : ks_G ad En n0) (hE : ∀ k, ks_g k = 0 → En k) (o : Int64) {N : Nat} {σ : ks_S} {a0 : Nat} {x1 : Int32} (v0 : ks_v En 8 a0 0) {out : ks_S} (hf : f_X3_startJob N σ a0 x1 = some out) : Met l yX3_startJob wsX3_startJob (ks_Rm 2 0 0 42) (va_Pc [.ref (ad 8 a0 0), .int x1] (ks_U D cy ad En n0 σ o)) (ks_Qv D cy ad En n0 o out) 0 0 (ks_F n0) := by
  refine Met.ofW (cc := cX3_startJob) (maxL := 3) (ret := none) (by decide) rfl ?_
  intro p e s m args below meth c s₁ B hml hv
  obtain ⟨rfl, hU⟩ := hv
  have hl := lv_entry ([.ref (ad 8 a0 0), .int x1]) (n := 3) (Nat.le_of_ble_eq_true rfl)
  rw [lg_entry_eq]
  generalize (lg_sl ([.ref (ad 8 a0 0), .int x1]) ++ List.replicate (3 - (lg_sl ([.ref (ad 8 a0 0), .int x1])).length) Slot.unset).toArray = ls at hl ⊢
  exact t_X3_startJob ⟨B.exec, B.bytes, hml, B.returns, findClass_of_methodNamed B.named, atoms_spec (ws := wsX3_startJob) B.pre, B.notSynchronized, hG, hU, hE⟩ v0 hf hU.2.1 va_S.rf hl

/-! SpinKernel$Task.endJob(I)V -/
def f_X3_endJob (σ : ks_S) (a0 : Nat) (x1 : Int32) : Option ks_S :=
  ((f_X0_end σ a0 x1 ((σ 8 a0 0 4))).bind fun s2 => some s2)
theorem in_X3_endJob_3 : ∀ w ∈ wsX30, w ∈ wsX3_endJob := by decide +kernel
set_option maxHeartbeats 4000000 in
set_option maxRecDepth 100000 in
theorem t_X3_endJob {p : Program} {l : Launch} {e : Env} {s : State} {m : MethodId} {args : Array Value} {below : List Frame} {meth : Method} {c : Code} {D : va_G} {cy : Nat → ClassId} {ad : ks_A} {En : Nat → Prop} {n0 : Nat → Prop} {σ0 : ks_S} {o : Int64} {out : ks_S} (C : ks_M p s m args meth c D cy ad En (fun k => ks_g k = 0) n0 σ0 o wsX3_endJob cX3_endJob RX3 2 (none)) {σ : ks_S} {a0 : Nat} {x1 : Int32} (v0 : ks_v En 8 a0 0) (hf : f_X3_endJob σ a0 x1 = some out) {H : Heap} {locs : List Loc} {ls : Array Slot} (hW : ks_W D cy ad En σ o H) (hS : va_S (ks_F n0) s.heap H locs) (hl : lv_has ls 2 [(0, .ref (ad 8 a0 0)), (1, .int x1)]) : W p l e (ks_Rm 2 0 0 36) s m args below meth c H locs 0 0 (MQ below (ks_Qv D cy ad En n0 o out) args s 0 0 (ks_F n0)) (F0 m 0 ls []) := by
  obtain ⟨hx, hb, hml, hr, hown, hts, hlocks, hG, hU0, hE⟩ := id C
  have hK := hU0.2.2
  unfold f_X3_endJob at hf
  refine lv_aload_n hx hb dX3_endJob_0 rfl (lv_at hl 0 rfl) ?_
  refine va_get (D := D) (ci := 3) (v := .ref (ad 9 a0 0)) (C := RX3) (T := TX3) (N := 10) hx hb hts in_X3_endJob_3 hown hK (ks_P1 hW v0 (ks_c8 cy ad o a0 0 _)) 0 rfl rfl 9 (by decide) (hts (.fieldLink RX3 20 "SpinKernel$Task" "job" "LSpinKernel$Job;") (by decide +kernel)) (fun _ h => h) rfl dX3_endJob_1 ?_
  refine lv_iload_n hx hb dX3_endJob_4 rfl (lv_at hl 1 rfl) ?_
  refine lv_aload_n hx hb dX3_endJob_5 rfl (lv_at hl 0 rfl) ?_
  refine va_get (D := D) (ci := 3) (v := .int (σ 8 a0 0 4)) (C := RX3) (T := TX3) (N := 10) hx hb hts in_X3_endJob_3 hown hK (ks_P1 hW v0 (ks_c8 cy ad o a0 0 _)) 0 rfl rfl 4 (by decide) (hts (.fieldLink RX3 39 "SpinKernel$Task" "deadline" "I") (by decide +kernel)) (fun _ h => h) rfl dX3_endJob_6 ?_
  obtain ⟨s2, hc1, hf⟩ := ks_bind hf
  try dsimp only at hf
  refine ks_callv (va_runV (As := [.int x1, .int (σ 8 a0 0 4)]) (rest := []) ⟨hx, hb, hml, hown, hts⟩ (m_X0_end l D cy ad En n0 hG hE o (ks_v9 (j := 0) v0.2.1 (hE 9 rfl)) hc1) (cwV 2 hts gX3_endJob_X0_end rfl rfl rfl (by decide +kernel) ⟨(Nat.le_of_ble_eq_true rfl), (Nat.le_of_ble_eq_true rfl)⟩) ⟨ks_U.blind, ks_recv hK hW (ks_v9 (j := 0) v0.2.1 (hE 9 rfl)) (ks_c9 cy ad o a0 0 _) rfl, fun U hU hWm => ⟨rfl, hU0.now hS hW hWm.alike hU⟩⟩ rfl rfl hl.1 rfl (lv_room (Nat.le_of_ble_eq_true rfl)) dX3_endJob_9 ⟨(Nat.le_of_ble_eq_true rfl), (Nat.le_of_ble_eq_true rfl)⟩) hS (fun H locs hW hS => ?_)
  exact ks_vret C hf hW hS dX3_endJob_12
set_option maxHeartbeats 4000000 in
set_option maxRecDepth 100000 in
theorem m_X3_endJob (l : Launch) (D : va_G) (cy : Nat → ClassId) (ad : ks_A) (En : Nat → Prop) (n0 : Nat → Prop) (hG : ks_G ad En n0) (hE : ∀ k, ks_g k = 0 → En k) (o : Int64) {σ : ks_S} {a0 : Nat} {x1 : Int32} (v0 : ks_v En 8 a0 0) {out : ks_S} (hf : f_X3_endJob σ a0 x1 = some out) : Met l yX3_endJob wsX3_endJob (ks_Rm 2 0 0 36) (va_Pc [.ref (ad 8 a0 0), .int x1] (ks_U D cy ad En n0 σ o)) (ks_Qv D cy ad En n0 o out) 0 0 (ks_F n0) := by
  refine Met.ofW (cc := cX3_endJob) (maxL := 2) (ret := none) (by decide) rfl ?_
  intro p e s m args below meth c s₁ B hml hv
  obtain ⟨rfl, hU⟩ := hv
  have hl := lv_entry ([.ref (ad 8 a0 0), .int x1]) (n := 2) (Nat.le_of_ble_eq_true rfl)
  rw [lg_entry_eq]
  generalize (lg_sl ([.ref (ad 8 a0 0), .int x1]) ++ List.replicate (2 - (lg_sl ([.ref (ad 8 a0 0), .int x1])).length) Slot.unset).toArray = ls at hl ⊢
  exact t_X3_endJob ⟨B.exec, B.bytes, hml, B.returns, findClass_of_methodNamed B.named, atoms_spec (ws := wsX3_endJob) B.pre, B.notSynchronized, hG, hU, hE⟩ v0 hf hU.2.1 va_S.rf hl

/-! SpinKernel$Task.forgetJobs()V -/
def f_X3_forgetJobs_2 (N : Nat) : Nat → ks_S → Nat → Int32 → Option ks_S
  | 0, _, _, _ => none
  | n + 1, σ, a0, x1 => (if ((σ 8 a0 0 7)) ≤ x1 then ((f_X0_forget σ a0).bind fun s3 => some s3) else (if ks_in x1 6 = true then ((f_X1_forgetJobs σ a0 ((x1.toNatClampNeg))).bind fun s7 => f_X3_forgetJobs_2 N n s7 a0 ((x1 + 1))) else none))
def f_X3_forgetJobs (N : Nat) (σ : ks_S) (a0 : Nat) : Option ks_S :=
  f_X3_forgetJobs_2 N N σ a0 0
theorem in_X3_forgetJobs_3 : ∀ w ∈ wsX30, w ∈ wsX3_forgetJobs := by decide +kernel
set_option maxHeartbeats 4000000 in
set_option maxRecDepth 100000 in
theorem t_X3_forgetJobs_2 {p : Program} {l : Launch} {e : Env} {s : State} {m : MethodId} {args : Array Value} {below : List Frame} {meth : Method} {c : Code} {D : va_G} {cy : Nat → ClassId} {ad : ks_A} {En : Nat → Prop} {n0 : Nat → Prop} {σ0 : ks_S} {o : Int64} {N : Nat} {out : ks_S} (C : ks_M p s m args meth c D cy ad En (fun k => ks_g k = 0) n0 σ0 o wsX3_forgetJobs cX3_forgetJobs RX3 2 (none)) : ∀ (n : Nat) (σ : ks_S) (a0 : Nat) (x1 : Int32), ks_v En 8 a0 0 → f_X3_forgetJobs_2 N n σ a0 x1 = some out → ∀ {H : Heap} {locs : List Loc} {ls : Array Slot}, ks_W D cy ad En σ o H → va_S (ks_F n0) s.heap H locs → lv_has ls 2 [(0, .ref (ad 8 a0 0)), (1, .int x1)] → W p l e (ks_Rm 1 0 0 20) s m args below meth c H locs 0 0 (MQ below (ks_Qv D cy ad En n0 o out) args s 0 0 (ks_F n0)) (F0 m 2 ls []) := by
  obtain ⟨hx, hb, hml, hr, hown, hts, hlocks, hG, hU0, hE⟩ := id C
  have hK := hU0.2.2
  intro n
  induction n with
  | zero => intro σ a0 x1; intro v0 hf; exact absurd hf (by simp [f_X3_forgetJobs_2])
  | succ n hk2 =>
    intro σ a0 x1 v0 hf H locs ls hW hS hl
    rw [f_X3_forgetJobs_2] at hf
    refine lv_iload_n hx hb dX3_forgetJobs_2 rfl (lv_at hl 1 rfl) ?_
    refine lv_aload_n hx hb dX3_forgetJobs_3 rfl (lv_at hl 0 rfl) ?_
    refine va_get (D := D) (ci := 3) (v := .int (σ 8 a0 0 7)) (C := RX3) (T := TX3) (N := 10) hx hb hts in_X3_forgetJobs_3 hown hK (ks_P1 hW v0 (ks_c8 cy ad o a0 0 _)) 0 rfl rfl 7 (by decide) (hts (.fieldLink RX3 45 "SpinKernel$Task" "count" "I") (by decide +kernel)) (fun _ h => h) rfl dX3_forgetJobs_4 ?_
    refine lv_icmp_ge (tgt := 25) hx hb dX3_forgetJobs_7 (by decide) (fun c1 => ?_) (fun c1 => ?_)
    · rw [if_pos c1] at hf
      refine lv_aload_n hx hb dX3_forgetJobs_25 rfl (lv_at hl 0 rfl) ?_
      refine va_get (D := D) (ci := 3) (v := .ref (ad 9 a0 0)) (C := RX3) (T := TX3) (N := 10) hx hb hts in_X3_forgetJobs_3 hown hK (ks_P1 hW v0 (ks_c8 cy ad o a0 0 _)) 0 rfl rfl 9 (by decide) (hts (.fieldLink RX3 20 "SpinKernel$Task" "job" "LSpinKernel$Job;") (by decide +kernel)) (fun _ h => h) rfl dX3_forgetJobs_26 ?_
      obtain ⟨s3, hc2, hf⟩ := ks_bind hf
      try dsimp only at hf
      refine ks_callv (va_runV (As := []) (rest := []) ⟨hx, hb, hml, hown, hts⟩ (m_X0_forget l D cy ad En n0 hG hE o (ks_v9 (j := 0) v0.2.1 (hE 9 rfl)) hc2) (cwV 0 hts gX3_forgetJobs_X0_forget rfl rfl rfl (by decide +kernel) ⟨(Nat.le_of_ble_eq_true rfl), (Nat.le_of_ble_eq_true rfl)⟩) ⟨ks_U.blind, ks_recv hK hW (ks_v9 (j := 0) v0.2.1 (hE 9 rfl)) (ks_c9 cy ad o a0 0 _) rfl, fun U hU hWm => ⟨rfl, hU0.now hS hW hWm.alike hU⟩⟩ rfl rfl hl.1 rfl (lv_room (Nat.le_of_ble_eq_true rfl)) dX3_forgetJobs_29 ⟨(Nat.le_of_ble_eq_true rfl), (Nat.le_of_ble_eq_true rfl)⟩) hS (fun H locs hW hS => ?_)
      exact ks_vret C hf hW hS dX3_forgetJobs_32
    · rw [if_neg c1] at hf
      refine lv_aload_n hx hb dX3_forgetJobs_10 rfl (lv_at hl 0 rfl) ?_
      refine va_get (D := D) (ci := 3) (v := .ref (ad 10 a0 0)) (C := RX3) (T := TX3) (N := 10) hx hb hts in_X3_forgetJobs_3 hown hK (ks_P1 hW v0 (ks_c8 cy ad o a0 0 _)) 0 rfl rfl 8 (by decide) (hts (.fieldLink RX3 11 "SpinKernel$Task" "requests" "[LSpinKernel$Request;") (by decide +kernel)) (fun _ h => h) rfl dX3_forgetJobs_11 ?_
      refine lv_iload_n hx hb dX3_forgetJobs_14 rfl (lv_at hl 1 rfl) ?_
      obtain ⟨hi5, hf⟩ := ks_guard hf
      refine ks_aald hx hb hK hW (ks_v10 (j := 0) v0.2.1 (hE 10 rfl)) 5 (ks_c10 cy ad o a0 0 _) rfl rfl hi5 dX3_forgetJobs_15 ?_
      obtain ⟨s7, hc6, hf⟩ := ks_bind hf
      try dsimp only at hf
      refine ks_callv (va_runV (As := []) (rest := []) ⟨hx, hb, hml, hown, hts⟩ (m_X1_forgetJobs l D cy ad En n0 hG hE o (ks_v11 (ks_v10 (j := 0) v0.2.1 (hE 10 rfl)).2.1 (ks_in_lt hi5) (hE 11 rfl)) hc6) (cwV 0 hts gX3_forgetJobs_X1_forgetJobs rfl rfl rfl (by decide +kernel) ⟨(Nat.le_of_ble_eq_true rfl), (Nat.le_of_ble_eq_true rfl)⟩) ⟨ks_U.blind, ks_recv hK hW (ks_v11 (ks_v10 (j := 0) v0.2.1 (hE 10 rfl)).2.1 (ks_in_lt hi5) (hE 11 rfl)) (ks_c11 cy ad o a0 (x1.toNatClampNeg) _) rfl, fun U hU hWm => ⟨rfl, hU0.now hS hW hWm.alike hU⟩⟩ rfl rfl hl.1 rfl (lv_room (Nat.le_of_ble_eq_true rfl)) dX3_forgetJobs_16 ⟨(Nat.le_of_ble_eq_true rfl), (Nat.le_of_ble_eq_true rfl)⟩) hS (fun H locs hW hS => ?_)
      refine lv_iinc (v := (x1 + 1)) (lv' := [(1, .int (x1 + 1)), (0, .ref (ad 8 a0 0))]) hx hb dX3_forgetJobs_19 hl (k := 1) rfl rfl (by decide) rfl (fun ls hl => ?_)
      refine lv_goto (tgt := 2) hx hb dX3_forgetJobs_22 (by decide) ?_
      exact hk2 _ _ _ v0 hf hW hS (lv_sub hl [1, 0] rfl)
set_option maxHeartbeats 4000000 in
set_option maxRecDepth 100000 in
theorem t_X3_forgetJobs {p : Program} {l : Launch} {e : Env} {s : State} {m : MethodId} {args : Array Value} {below : List Frame} {meth : Method} {c : Code} {D : va_G} {cy : Nat → ClassId} {ad : ks_A} {En : Nat → Prop} {n0 : Nat → Prop} {σ0 : ks_S} {o : Int64} {N : Nat} {out : ks_S} (C : ks_M p s m args meth c D cy ad En (fun k => ks_g k = 0) n0 σ0 o wsX3_forgetJobs cX3_forgetJobs RX3 2 (none)) {σ : ks_S} {a0 : Nat} (v0 : ks_v En 8 a0 0) (hf : f_X3_forgetJobs N σ a0 = some out) {H : Heap} {locs : List Loc} {ls : Array Slot} (hW : ks_W D cy ad En σ o H) (hS : va_S (ks_F n0) s.heap H locs) (hl : lv_has ls 2 [(0, .ref (ad 8 a0 0))]) : W p l e (ks_Rm 1 0 0 20) s m args below meth c H locs 0 0 (MQ below (ks_Qv D cy ad En n0 o out) args s 0 0 (ks_F n0)) (F0 m 0 ls []) := by
  obtain ⟨hx, hb, hml, hr, hown, hts, hlocks, hG, hU0, hE⟩ := id C
  have hK := hU0.2.2
  unfold f_X3_forgetJobs at hf
  refine lv_iconst (v := 0) hx hb dX3_forgetJobs_0 (by decide) ?_
  refine lv_istore_n (lv' := [(1, .int 0), (0, .ref (ad 8 a0 0))]) hx hb dX3_forgetJobs_1 rfl hl (by decide) rfl (fun ls hl => ?_)
  exact t_X3_forgetJobs_2 C _ _ _ _ v0 hf hW hS (lv_sub hl [1, 0] rfl)
set_option maxHeartbeats 4000000 in
set_option maxRecDepth 100000 in
theorem m_X3_forgetJobs (l : Launch) (D : va_G) (cy : Nat → ClassId) (ad : ks_A) (En : Nat → Prop) (n0 : Nat → Prop) (hG : ks_G ad En n0) (hE : ∀ k, ks_g k = 0 → En k) (o : Int64) {N : Nat} {σ : ks_S} {a0 : Nat} (v0 : ks_v En 8 a0 0) {out : ks_S} (hf : f_X3_forgetJobs N σ a0 = some out) : Met l yX3_forgetJobs wsX3_forgetJobs (ks_Rm 1 0 0 20) (va_Pc [.ref (ad 8 a0 0)] (ks_U D cy ad En n0 σ o)) (ks_Qv D cy ad En n0 o out) 0 0 (ks_F n0) := by
  refine Met.ofW (cc := cX3_forgetJobs) (maxL := 2) (ret := none) (by decide) rfl ?_
  intro p e s m args below meth c s₁ B hml hv
  obtain ⟨rfl, hU⟩ := hv
  have hl := lv_entry ([.ref (ad 8 a0 0)]) (n := 2) (Nat.le_of_ble_eq_true rfl)
  rw [lg_entry_eq]
  generalize (lg_sl ([.ref (ad 8 a0 0)]) ++ List.replicate (2 - (lg_sl ([.ref (ad 8 a0 0)])).length) Slot.unset).toArray = ls at hl ⊢
  exact t_X3_forgetJobs ⟨B.exec, B.bytes, hml, B.returns, findClass_of_methodNamed B.named, atoms_spec (ws := wsX3_forgetJobs) B.pre, B.notSynchronized, hG, hU, hE⟩ v0 hf hU.2.1 va_S.rf hl

/-! SpinKernel$Task.nextRequest()LSpinKernel$Request; -/
def f_X3_nextRequest (σ : ks_S) (a0 : Nat) : Option ((Nat × Nat) × ks_S) :=
  (if ks_in ((if 5 < ((σ 9 a0 0 5)) then 5 else ((σ 9 a0 0 5)))) 6 = true then some ((a0, (((if 5 < ((σ 9 a0 0 5)) then 5 else ((σ 9 a0 0 5)))).toNatClampNeg)), σ) else none)
theorem in_X3_nextRequest_0 : ∀ w ∈ wsX00, w ∈ wsX3_nextRequest := by decide +kernel
theorem in_X3_nextRequest_3 : ∀ w ∈ wsX30, w ∈ wsX3_nextRequest := by decide +kernel
set_option maxHeartbeats 4000000 in
set_option maxRecDepth 100000 in
theorem t_X3_nextRequest {p : Program} {l : Launch} {e : Env} {s : State} {m : MethodId} {args : Array Value} {below : List Frame} {meth : Method} {c : Code} {D : va_G} {cy : Nat → ClassId} {ad : ks_A} {En : Nat → Prop} {n0 : Nat → Prop} {σ0 : ks_S} {o : Int64} {out : ((Nat × Nat) × ks_S)} (C : ks_M p s m args meth c D cy ad En (fun k => ks_g k = 0) n0 σ0 o wsX3_nextRequest cX3_nextRequest RX3 1 (some (.object "SpinKernel$Request"))) {σ : ks_S} {a0 : Nat} (v0 : ks_v En 8 a0 0) (hf : f_X3_nextRequest σ a0 = some out) {H : Heap} {locs : List Loc} {ls : Array Slot} (hW : ks_W D cy ad En σ o H) (hS : va_S (ks_F n0) s.heap H locs) (hl : lv_has ls 1 [(0, .ref (ad 8 a0 0))]) : W p l e (ks_Rm 1 0 0 14) s m args below meth c H locs 0 0 (MQ below (ks_Qr D cy ad En n0 o 11 out) args s 0 0 (ks_F n0)) (F0 m 0 ls []) := by
  obtain ⟨hx, hb, hml, hr, hown, hts, hlocks, hG, hU0, hE⟩ := id C
  have hK := hU0.2.2
  unfold f_X3_nextRequest at hf
  refine lv_aload_n hx hb dX3_nextRequest_0 rfl (lv_at hl 0 rfl) ?_
  refine va_get (D := D) (ci := 3) (v := .ref (ad 10 a0 0)) (C := RX3) (T := TX3) (N := 10) hx hb hts in_X3_nextRequest_3 hown hK (ks_P1 hW v0 (ks_c8 cy ad o a0 0 _)) 0 rfl rfl 8 (by decide) (hts (.fieldLink RX3 11 "SpinKernel$Task" "requests" "[LSpinKernel$Request;") (by decide +kernel)) (fun _ h => h) rfl dX3_nextRequest_1 ?_
  refine lv_aload_n hx hb dX3_nextRequest_4 rfl (lv_at hl 0 rfl) ?_
  refine va_get (D := D) (ci := 3) (v := .ref (ad 9 a0 0)) (C := RX3) (T := TX3) (N := 10) hx hb hts in_X3_nextRequest_3 hown hK (ks_P1 hW v0 (ks_c8 cy ad o a0 0 _)) 0 rfl rfl 9 (by decide) (hts (.fieldLink RX3 20 "SpinKernel$Task" "job" "LSpinKernel$Job;") (by decide +kernel)) (fun _ h => h) rfl dX3_nextRequest_5 ?_
  refine va_get (D := D) (ci := 0) (v := .int (σ 9 a0 0 5)) (C := RX0) (T := TX0) (N := 12) hx hb hts in_X3_nextRequest_0 hown hK (ks_P1 hW (ks_v9 (j := 0) v0.2.1 (hE 9 rfl)) (ks_c9 cy ad o a0 0 _)) 0 rfl rfl 5 (by decide) (hts (.fieldLink RX3 98 "SpinKernel$Job" "next" "I") (by decide +kernel)) (fun _ h => h) rfl dX3_nextRequest_8 ?_
  refine lv_iconst (v := 5) hx hb dX3_nextRequest_11 (by decide) ?_
  refine va_mmin hx hb (hml.trans hl.1.symm) hown (hts (.methodLink RX3 101 Lib.Math.min.name) (by decide +kernel)) (hts (.static Lib.Math.min.name) (by decide +kernel)) (hts (.initialized "java/lang/Math") (by decide +kernel)) (hts (.code Lib.Math.min.name Lib.Math.min.code 2 (some .int)) (by decide +kernel)) (Nat.le_of_ble_eq_true rfl) (Nat.le_of_ble_eq_true rfl) (Nat.le_of_ble_eq_true rfl) (Nat.le_of_ble_eq_true rfl) dX3_nextRequest_12 ?_
  obtain ⟨hi1, hf⟩ := ks_guard hf
  refine ks_aald hx hb hK hW (ks_v10 (j := 0) v0.2.1 (hE 10 rfl)) 5 (ks_c10 cy ad o a0 0 _) rfl rfl hi1 dX3_nextRequest_15 ?_
  exact ks_aret C (ks_v11 (ks_v10 (j := 0) v0.2.1 (hE 10 rfl)).2.1 (ks_in_lt hi1) (hE 11 rfl)) hf hW hS dX3_nextRequest_16
set_option maxHeartbeats 4000000 in
set_option maxRecDepth 100000 in
theorem m_X3_nextRequest (l : Launch) (D : va_G) (cy : Nat → ClassId) (ad : ks_A) (En : Nat → Prop) (n0 : Nat → Prop) (hG : ks_G ad En n0) (hE : ∀ k, ks_g k = 0 → En k) (o : Int64) {σ : ks_S} {a0 : Nat} (v0 : ks_v En 8 a0 0) {out : ((Nat × Nat) × ks_S)} (hf : f_X3_nextRequest σ a0 = some out) : Met l yX3_nextRequest wsX3_nextRequest (ks_Rm 1 0 0 14) (va_Pc [.ref (ad 8 a0 0)] (ks_U D cy ad En n0 σ o)) (ks_Qr D cy ad En n0 o 11 out) 0 0 (ks_F n0) := by
  refine Met.ofW (cc := cX3_nextRequest) (maxL := 1) (ret := some (.object "SpinKernel$Request")) (by decide) rfl ?_
  intro p e s m args below meth c s₁ B hml hv
  obtain ⟨rfl, hU⟩ := hv
  have hl := lv_entry ([.ref (ad 8 a0 0)]) (n := 1) (Nat.le_of_ble_eq_true rfl)
  rw [lg_entry_eq]
  generalize (lg_sl ([.ref (ad 8 a0 0)]) ++ List.replicate (1 - (lg_sl ([.ref (ad 8 a0 0)])).length) Slot.unset).toArray = ls at hl ⊢
  exact t_X3_nextRequest ⟨B.exec, B.bytes, hml, B.returns, findClass_of_methodNamed B.named, atoms_spec (ws := wsX3_nextRequest) B.pre, B.notSynchronized, hG, hU, hE⟩ v0 hf hU.2.1 va_S.rf hl

/-! SpinKernel$Task.hasToAsk()Z -/
def f_X3_hasToAsk (σ : ks_S) (a0 : Nat) : Option (Int32 × ks_S) :=
  (if ((σ 8 a0 0 7)) ≤ ((σ 9 a0 0 5)) then some (0, σ) else ((f_X3_nextRequest σ a0).bind fun ((r4, r4j), s3) => (if ((s3 11 r4 r4j 0)) = ((s3 9 a0 0 4)) then some (1, s3) else some (0, s3))))
theorem in_X3_hasToAsk_0 : ∀ w ∈ wsX00, w ∈ wsX3_hasToAsk := by decide +kernel
theorem in_X3_hasToAsk_1 : ∀ w ∈ wsX10, w ∈ wsX3_hasToAsk := by decide +kernel
theorem in_X3_hasToAsk_3 : ∀ w ∈ wsX30, w ∈ wsX3_hasToAsk := by decide +kernel
set_option maxHeartbeats 4000000 in
set_option maxRecDepth 100000 in
theorem t_X3_hasToAsk {p : Program} {l : Launch} {e : Env} {s : State} {m : MethodId} {args : Array Value} {below : List Frame} {meth : Method} {c : Code} {D : va_G} {cy : Nat → ClassId} {ad : ks_A} {En : Nat → Prop} {n0 : Nat → Prop} {σ0 : ks_S} {o : Int64} {out : (Int32 × ks_S)} (C : ks_M p s m args meth c D cy ad En (fun k => ks_g k = 0) n0 σ0 o wsX3_hasToAsk cX3_hasToAsk RX3 1 (some .boolean)) {σ : ks_S} {a0 : Nat} (v0 : ks_v En 8 a0 0) (hf : f_X3_hasToAsk σ a0 = some out) {H : Heap} {locs : List Loc} {ls : Array Slot} (hW : ks_W D cy ad En σ o H) (hS : va_S (ks_F n0) s.heap H locs) (hl : lv_has ls 1 [(0, .ref (ad 8 a0 0))]) : W p l e (ks_Rm 2 0 0 34) s m args below meth c H locs 0 0 (MQ below (ks_Qi D cy ad En n0 o out) args s 0 0 (ks_F n0)) (F0 m 0 ls []) := by
  obtain ⟨hx, hb, hml, hr, hown, hts, hlocks, hG, hU0, hE⟩ := id C
  have hK := hU0.2.2
  unfold f_X3_hasToAsk at hf
  refine lv_aload_n hx hb dX3_hasToAsk_0 rfl (lv_at hl 0 rfl) ?_
  refine va_get (D := D) (ci := 3) (v := .ref (ad 9 a0 0)) (C := RX3) (T := TX3) (N := 10) hx hb hts in_X3_hasToAsk_3 hown hK (ks_P1 hW v0 (ks_c8 cy ad o a0 0 _)) 0 rfl rfl 9 (by decide) (hts (.fieldLink RX3 20 "SpinKernel$Task" "job" "LSpinKernel$Job;") (by decide +kernel)) (fun _ h => h) rfl dX3_hasToAsk_1 ?_
  refine va_get (D := D) (ci := 0) (v := .int (σ 9 a0 0 5)) (C := RX0) (T := TX0) (N := 12) hx hb hts in_X3_hasToAsk_0 hown hK (ks_P1 hW (ks_v9 (j := 0) v0.2.1 (hE 9 rfl)) (ks_c9 cy ad o a0 0 _)) 0 rfl rfl 5 (by decide) (hts (.fieldLink RX3 98 "SpinKernel$Job" "next" "I") (by decide +kernel)) (fun _ h => h) rfl dX3_hasToAsk_4 ?_
  refine lv_aload_n hx hb dX3_hasToAsk_7 rfl (lv_at hl 0 rfl) ?_
  refine va_get (D := D) (ci := 3) (v := .int (σ 8 a0 0 7)) (C := RX3) (T := TX3) (N := 10) hx hb hts in_X3_hasToAsk_3 hown hK (ks_P1 hW v0 (ks_c8 cy ad o a0 0 _)) 0 rfl rfl 7 (by decide) (hts (.fieldLink RX3 45 "SpinKernel$Task" "count" "I") (by decide +kernel)) (fun _ h => h) rfl dX3_hasToAsk_8 ?_
  refine lv_icmp_ge (tgt := 35) hx hb dX3_hasToAsk_11 (by decide) (fun c1 => ?_) (fun c1 => ?_)
  · rw [if_pos c1] at hf
    refine lv_iconst (v := 0) hx hb dX3_hasToAsk_35 (by decide) ?_
    exact ks_zret C rfl hf hW hS dX3_hasToAsk_36
  · rw [if_neg c1] at hf
    refine lv_aload_n hx hb dX3_hasToAsk_14 rfl (lv_at hl 0 rfl) ?_
    obtain ⟨⟨⟨r4, r4j⟩, s3⟩, hc2, hf⟩ := ks_bind hf
    try dsimp only at hf
    refine ks_callr (va_runV (As := []) (rest := []) ⟨hx, hb, hml, hown, hts⟩ (m_X3_nextRequest l D cy ad En n0 hG hE o v0 hc2) (cwV 0 hts gX3_hasToAsk_X3_nextRequest rfl rfl rfl (by decide +kernel) ⟨(Nat.le_of_ble_eq_true rfl), (Nat.le_of_ble_eq_true rfl)⟩) ⟨ks_U.blind, ks_recv hK hW v0 (ks_c8 cy ad o a0 0 _) rfl, fun U hU hWm => ⟨rfl, hU0.now hS hW hWm.alike hU⟩⟩ rfl rfl hl.1 rfl (lv_room (Nat.le_of_ble_eq_true rfl)) dX3_hasToAsk_15 ⟨(Nat.le_of_ble_eq_true rfl), (Nat.le_of_ble_eq_true rfl)⟩) hS (fun H locs hv5 hW hS => ?_)
    refine va_get (D := D) (ci := 1) (v := .int (s3 11 r4 r4j 0)) (C := RX1) (T := TX1) (N := 8) hx hb hts in_X3_hasToAsk_1 hown hK (ks_P1 hW hv5 (ks_c11 cy ad o r4 r4j _)) 0 rfl rfl 0 (by decide) (hts (.fieldLink RX3 62 "SpinKernel$Request" "after" "I") (by decide +kernel)) (fun _ h => h) rfl dX3_hasToAsk_18 ?_
    refine lv_aload_n hx hb dX3_hasToAsk_21 rfl (lv_at hl 0 rfl) ?_
    refine va_get (D := D) (ci := 3) (v := .ref (ad 9 a0 0)) (C := RX3) (T := TX3) (N := 10) hx hb hts in_X3_hasToAsk_3 hown hK (ks_P1 hW v0 (ks_c8 cy ad o a0 0 _)) 0 rfl rfl 9 (by decide) (hts (.fieldLink RX3 20 "SpinKernel$Task" "job" "LSpinKernel$Job;") (by decide +kernel)) (fun _ h => h) rfl dX3_hasToAsk_22 ?_
    refine va_get (D := D) (ci := 0) (v := .int (s3 9 a0 0 4)) (C := RX0) (T := TX0) (N := 12) hx hb hts in_X3_hasToAsk_0 hown hK (ks_P1 hW (ks_v9 (j := 0) v0.2.1 (hE 9 rfl)) (ks_c9 cy ad o a0 0 _)) 0 rfl rfl 4 (by decide) (hts (.fieldLink RX3 108 "SpinKernel$Job" "workDone" "I") (by decide +kernel)) (fun _ h => h) rfl dX3_hasToAsk_25 ?_
    refine lv_icmp_ne (tgt := 35) hx hb dX3_hasToAsk_28 (by decide) (fun c6 => ?_) (fun c6 => ?_)
    · rw [if_neg c6] at hf
      refine lv_iconst (v := 0) hx hb dX3_hasToAsk_35 (by decide) ?_
      exact ks_zret C rfl hf hW hS dX3_hasToAsk_36
    · rw [if_pos c6] at hf
      refine lv_iconst (v := 1) hx hb dX3_hasToAsk_31 (by decide) ?_
      refine lv_goto (tgt := 36) hx hb dX3_hasToAsk_32 (by decide) ?_
      exact ks_zret C rfl hf hW hS dX3_hasToAsk_36
set_option maxHeartbeats 4000000 in
set_option maxRecDepth 100000 in
theorem m_X3_hasToAsk (l : Launch) (D : va_G) (cy : Nat → ClassId) (ad : ks_A) (En : Nat → Prop) (n0 : Nat → Prop) (hG : ks_G ad En n0) (hE : ∀ k, ks_g k = 0 → En k) (o : Int64) {σ : ks_S} {a0 : Nat} (v0 : ks_v En 8 a0 0) {out : (Int32 × ks_S)} (hf : f_X3_hasToAsk σ a0 = some out) : Met l yX3_hasToAsk wsX3_hasToAsk (ks_Rm 2 0 0 34) (va_Pc [.ref (ad 8 a0 0)] (ks_U D cy ad En n0 σ o)) (ks_Qi D cy ad En n0 o out) 0 0 (ks_F n0) := by
  refine Met.ofW (cc := cX3_hasToAsk) (maxL := 1) (ret := some .boolean) (by decide) rfl ?_
  intro p e s m args below meth c s₁ B hml hv
  obtain ⟨rfl, hU⟩ := hv
  have hl := lv_entry ([.ref (ad 8 a0 0)]) (n := 1) (Nat.le_of_ble_eq_true rfl)
  rw [lg_entry_eq]
  generalize (lg_sl ([.ref (ad 8 a0 0)]) ++ List.replicate (1 - (lg_sl ([.ref (ad 8 a0 0)])).length) Slot.unset).toArray = ls at hl ⊢
  exact t_X3_hasToAsk ⟨B.exec, B.bytes, hml, B.returns, findClass_of_methodNamed B.named, atoms_spec (ws := wsX3_hasToAsk) B.pre, B.notSynchronized, hG, hU, hE⟩ v0 hf hU.2.1 va_S.rf hl

/-! SpinKernel$Task.startSpinning()V -/
def f_X3_startSpinning (σ : ks_S) (a0 : Nat) : Option ks_S :=
  some ((ks_up (ks_up σ 9 a0 0 3 2) 9 a0 0 7 0))
theorem in_X3_startSpinning_0 : ∀ w ∈ wsX00, w ∈ wsX3_startSpinning := by decide +kernel
theorem in_X3_startSpinning_3 : ∀ w ∈ wsX30, w ∈ wsX3_startSpinning := by decide +kernel
set_option maxHeartbeats 4000000 in
set_option maxRecDepth 100000 in
theorem t_X3_startSpinning {p : Program} {l : Launch} {e : Env} {s : State} {m : MethodId} {args : Array Value} {below : List Frame} {meth : Method} {c : Code} {D : va_G} {cy : Nat → ClassId} {ad : ks_A} {En : Nat → Prop} {n0 : Nat → Prop} {σ0 : ks_S} {o : Int64} {out : ks_S} (C : ks_M p s m args meth c D cy ad En (fun k => ks_g k = 0) n0 σ0 o wsX3_startSpinning cX3_startSpinning RX3 1 (none)) {σ : ks_S} {a0 : Nat} (v0 : ks_v En 8 a0 0) (hf : f_X3_startSpinning σ a0 = some out) {H : Heap} {locs : List Loc} {ls : Array Slot} (hW : ks_W D cy ad En σ o H) (hS : va_S (ks_F n0) s.heap H locs) (hl : lv_has ls 1 [(0, .ref (ad 8 a0 0))]) : W p l e (ks_Rm 0 0 0 0) s m args below meth c H locs 0 0 (MQ below (ks_Qv D cy ad En n0 o out) args s 0 0 (ks_F n0)) (F0 m 0 ls []) := by
  obtain ⟨hx, hb, hml, hr, hown, hts, hlocks, hG, hU0, hE⟩ := id C
  have hK := hU0.2.2
  unfold f_X3_startSpinning at hf
  refine lv_aload_n hx hb dX3_startSpinning_0 rfl (lv_at hl 0 rfl) ?_
  refine va_get (D := D) (ci := 3) (v := .ref (ad 9 a0 0)) (C := RX3) (T := TX3) (N := 10) hx hb hts in_X3_startSpinning_3 hown hK (ks_P1 hW v0 (ks_c8 cy ad o a0 0 _)) 0 rfl rfl 9 (by decide) (hts (.fieldLink RX3 20 "SpinKernel$Task" "job" "LSpinKernel$Job;") (by decide +kernel)) (fun _ h => h) rfl dX3_startSpinning_1 ?_
  refine lv_iconst (v := 2) hx hb dX3_startSpinning_4 (by decide) ?_
  refine ks_put (D := D) (ci := 0) (C := RX0) (T := TX0) (N := 12) hx hb hts in_X3_startSpinning_0 tyX0 tyX0_ok nmX0 hown hK hG hW hS (ks_v9 (j := 0) v0.2.1 (hE 9 rfl)) 3 (v := 2) (ks_c9 cy ad o a0 0 _) (ks_c9s3 cy ad o a0 0 _ _) rfl (by decide) (hts (.fieldLink RX3 111 "SpinKernel$Job" "state" "I") (by decide +kernel)) rfl (ty := .int) (by decide +kernel) rfl rfl (Nat.le_of_ble_eq_true rfl) dX3_startSpinning_5 (fun H locs hW hS => ?_)
  refine lv_aload_n hx hb dX3_startSpinning_8 rfl (lv_at hl 0 rfl) ?_
  refine va_get (D := D) (ci := 3) (v := .ref (ad 9 a0 0)) (C := RX3) (T := TX3) (N := 10) hx hb hts in_X3_startSpinning_3 hown hK (ks_P1 hW v0 (ks_c8 cy ad o a0 0 _)) 0 rfl rfl 9 (by decide) (hts (.fieldLink RX3 20 "SpinKernel$Task" "job" "LSpinKernel$Job;") (by decide +kernel)) (fun _ h => h) rfl dX3_startSpinning_9 ?_
  refine lv_iconst (v := 0) hx hb dX3_startSpinning_12 (by decide) ?_
  refine ks_put (D := D) (ci := 0) (C := RX0) (T := TX0) (N := 12) hx hb hts in_X3_startSpinning_0 tyX0 tyX0_ok nmX0 hown hK hG hW hS (ks_v9 (j := 0) v0.2.1 (hE 9 rfl)) 7 (v := 0) (ks_c9 cy ad o a0 0 _) (ks_c9s7 cy ad o a0 0 _ _) rfl (by decide) (hts (.fieldLink RX3 114 "SpinKernel$Job" "spinning" "I") (by decide +kernel)) rfl (ty := .int) (by decide +kernel) rfl rfl (Nat.le_of_ble_eq_true rfl) dX3_startSpinning_13 (fun H locs hW hS => ?_)
  exact ks_vret C hf hW hS dX3_startSpinning_16
set_option maxHeartbeats 4000000 in
set_option maxRecDepth 100000 in
theorem m_X3_startSpinning (l : Launch) (D : va_G) (cy : Nat → ClassId) (ad : ks_A) (En : Nat → Prop) (n0 : Nat → Prop) (hG : ks_G ad En n0) (hE : ∀ k, ks_g k = 0 → En k) (o : Int64) {σ : ks_S} {a0 : Nat} (v0 : ks_v En 8 a0 0) {out : ks_S} (hf : f_X3_startSpinning σ a0 = some out) : Met l yX3_startSpinning wsX3_startSpinning (ks_Rm 0 0 0 0) (va_Pc [.ref (ad 8 a0 0)] (ks_U D cy ad En n0 σ o)) (ks_Qv D cy ad En n0 o out) 0 0 (ks_F n0) := by
  refine Met.ofW (cc := cX3_startSpinning) (maxL := 1) (ret := none) (by decide) rfl ?_
  intro p e s m args below meth c s₁ B hml hv
  obtain ⟨rfl, hU⟩ := hv
  have hl := lv_entry ([.ref (ad 8 a0 0)]) (n := 1) (Nat.le_of_ble_eq_true rfl)
  rw [lg_entry_eq]
  generalize (lg_sl ([.ref (ad 8 a0 0)]) ++ List.replicate (1 - (lg_sl ([.ref (ad 8 a0 0)])).length) Slot.unset).toArray = ls at hl ⊢
  exact t_X3_startSpinning ⟨B.exec, B.bytes, hml, B.returns, findClass_of_methodNamed B.named, atoms_spec (ws := wsX3_startSpinning) B.pre, B.notSynchronized, hG, hU, hE⟩ v0 hf hU.2.1 va_S.rf hl

/-! SpinKernel$Task.spinFor(I)V -/
def f_X3_spinFor (σ : ks_S) (a0 : Nat) (x1 : Int32) : Option ks_S :=
  ((f_X3_nextRequest ((ks_up σ 9 a0 0 7 ((((σ 9 a0 0 7)) + x1)))) a0).bind fun ((r3, r3j), s2) => some ((ks_up s2 11 r3 r3j 7 ((if ((s2 11 r3 r3j 7)) < ((s2 9 a0 0 7)) then ((s2 9 a0 0 7)) else ((s2 11 r3 r3j 7)))))))
theorem in_X3_spinFor_0 : ∀ w ∈ wsX00, w ∈ wsX3_spinFor := by decide +kernel
theorem in_X3_spinFor_1 : ∀ w ∈ wsX10, w ∈ wsX3_spinFor := by decide +kernel
theorem in_X3_spinFor_3 : ∀ w ∈ wsX30, w ∈ wsX3_spinFor := by decide +kernel
set_option maxHeartbeats 4000000 in
set_option maxRecDepth 100000 in
theorem t_X3_spinFor {p : Program} {l : Launch} {e : Env} {s : State} {m : MethodId} {args : Array Value} {below : List Frame} {meth : Method} {c : Code} {D : va_G} {cy : Nat → ClassId} {ad : ks_A} {En : Nat → Prop} {n0 : Nat → Prop} {σ0 : ks_S} {o : Int64} {out : ks_S} (C : ks_M p s m args meth c D cy ad En (fun k => ks_g k = 0) n0 σ0 o wsX3_spinFor cX3_spinFor RX3 3 (none)) {σ : ks_S} {a0 : Nat} {x1 : Int32} (v0 : ks_v En 8 a0 0) (hf : f_X3_spinFor σ a0 x1 = some out) {H : Heap} {locs : List Loc} {ls : Array Slot} (hW : ks_W D cy ad En σ o H) (hS : va_S (ks_F n0) s.heap H locs) (hl : lv_has ls 3 [(0, .ref (ad 8 a0 0)), (1, .int x1)]) : W p l e (ks_Rm 2 0 0 34) s m args below meth c H locs 0 0 (MQ below (ks_Qv D cy ad En n0 o out) args s 0 0 (ks_F n0)) (F0 m 0 ls []) := by
  obtain ⟨hx, hb, hml, hr, hown, hts, hlocks, hG, hU0, hE⟩ := id C
  have hK := hU0.2.2
  unfold f_X3_spinFor at hf
  refine lv_aload_n hx hb dX3_spinFor_0 rfl (lv_at hl 0 rfl) ?_
  refine va_get (D := D) (ci := 3) (v := .ref (ad 9 a0 0)) (C := RX3) (T := TX3) (N := 10) hx hb hts in_X3_spinFor_3 hown hK (ks_P1 hW v0 (ks_c8 cy ad o a0 0 _)) 0 rfl rfl 9 (by decide) (hts (.fieldLink RX3 20 "SpinKernel$Task" "job" "LSpinKernel$Job;") (by decide +kernel)) (fun _ h => h) rfl dX3_spinFor_1 ?_
  refine lv_dup hx hb dX3_spinFor_4 rfl ?_
  refine va_get (D := D) (ci := 0) (v := .int (σ 9 a0 0 7)) (C := RX0) (T := TX0) (N := 12) hx hb hts in_X3_spinFor_0 hown hK (ks_P1 hW (ks_v9 (j := 0) v0.2.1 (hE 9 rfl)) (ks_c9 cy ad o a0 0 _)) 0 rfl rfl 7 (by decide) (hts (.fieldLink RX3 114 "SpinKernel$Job" "spinning" "I") (by decide +kernel)) (fun _ h => h) rfl dX3_spinFor_5 ?_
  refine lv_iload_n hx hb dX3_spinFor_8 rfl (lv_at hl 1 rfl) ?_
  refine lv_iadd hx hb dX3_spinFor_9 ?_
  refine ks_put (D := D) (ci := 0) (C := RX0) (T := TX0) (N := 12) hx hb hts in_X3_spinFor_0 tyX0 tyX0_ok nmX0 hown hK hG hW hS (ks_v9 (j := 0) v0.2.1 (hE 9 rfl)) 7 (v := (((σ 9 a0 0 7)) + x1)) (ks_c9 cy ad o a0 0 _) (ks_c9s7 cy ad o a0 0 _ _) rfl (by decide) (hts (.fieldLink RX3 114 "SpinKernel$Job" "spinning" "I") (by decide +kernel)) rfl (ty := .int) (by decide +kernel) rfl rfl (Nat.le_of_ble_eq_true rfl) dX3_spinFor_10 (fun H locs hW hS => ?_)
  refine lv_aload_n hx hb dX3_spinFor_13 rfl (lv_at hl 0 rfl) ?_
  obtain ⟨⟨⟨r3, r3j⟩, s2⟩, hc1, hf⟩ := ks_bind hf
  try dsimp only at hf
  refine ks_callr (va_runV (As := []) (rest := []) ⟨hx, hb, hml, hown, hts⟩ (m_X3_nextRequest l D cy ad En n0 hG hE o v0 hc1) (cwV 0 hts gX3_spinFor_X3_nextRequest rfl rfl rfl (by decide +kernel) ⟨(Nat.le_of_ble_eq_true rfl), (Nat.le_of_ble_eq_true rfl)⟩) ⟨ks_U.blind, ks_recv hK hW v0 (ks_c8 cy ad o a0 0 _) rfl, fun U hU hWm => ⟨rfl, hU0.now hS hW hWm.alike hU⟩⟩ rfl rfl hl.1 rfl (lv_room (Nat.le_of_ble_eq_true rfl)) dX3_spinFor_14 ⟨(Nat.le_of_ble_eq_true rfl), (Nat.le_of_ble_eq_true rfl)⟩) hS (fun H locs hv4 hW hS => ?_)
  refine lv_astore_n (lv' := [(2, .ref (ad 11 r3 r3j)), (0, .ref (ad 8 a0 0)), (1, .int x1)]) hx hb dX3_spinFor_17 rfl hl (by decide) rfl (fun ls hl => ?_)
  refine lv_aload_n hx hb dX3_spinFor_18 rfl (lv_at hl 0 rfl) ?_
  refine lv_aload_n hx hb dX3_spinFor_19 rfl (lv_at hl 0 rfl) ?_
  refine va_get (D := D) (ci := 1) (v := .int (s2 11 r3 r3j 7)) (C := RX1) (T := TX1) (N := 8) hx hb hts in_X3_spinFor_1 hown hK (ks_P1 hW hv4 (ks_c11 cy ad o r3 r3j _)) 0 rfl rfl 7 (by decide) (hts (.fieldLink RX3 117 "SpinKernel$Request" "mostSpun" "I") (by decide +kernel)) (fun _ h => h) rfl dX3_spinFor_20 ?_
  refine lv_aload_n hx hb dX3_spinFor_23 rfl (lv_at hl 1 rfl) ?_
  refine va_get (D := D) (ci := 3) (v := .ref (ad 9 a0 0)) (C := RX3) (T := TX3) (N := 10) hx hb hts in_X3_spinFor_3 hown hK (ks_P1 hW v0 (ks_c8 cy ad o a0 0 _)) 0 rfl rfl 9 (by decide) (hts (.fieldLink RX3 20 "SpinKernel$Task" "job" "LSpinKernel$Job;") (by decide +kernel)) (fun _ h => h) rfl dX3_spinFor_24 ?_
  refine va_get (D := D) (ci := 0) (v := .int (s2 9 a0 0 7)) (C := RX0) (T := TX0) (N := 12) hx hb hts in_X3_spinFor_0 hown hK (ks_P1 hW (ks_v9 (j := 0) v0.2.1 (hE 9 rfl)) (ks_c9 cy ad o a0 0 _)) 0 rfl rfl 7 (by decide) (hts (.fieldLink RX3 114 "SpinKernel$Job" "spinning" "I") (by decide +kernel)) (fun _ h => h) rfl dX3_spinFor_27 ?_
  refine va_mmax hx hb (hml.trans hl.1.symm) hown (hts (.methodLink RX3 72 Lib.Math.max.name) (by decide +kernel)) (hts (.static Lib.Math.max.name) (by decide +kernel)) (hts (.initialized "java/lang/Math") (by decide +kernel)) (hts (.code Lib.Math.max.name Lib.Math.max.code 2 (some .int)) (by decide +kernel)) (Nat.le_of_ble_eq_true rfl) (Nat.le_of_ble_eq_true rfl) (Nat.le_of_ble_eq_true rfl) (Nat.le_of_ble_eq_true rfl) dX3_spinFor_30 ?_
  refine ks_put (D := D) (ci := 1) (C := RX1) (T := TX1) (N := 8) hx hb hts in_X3_spinFor_1 tyX1 tyX1_ok nmX1 hown hK hG hW hS hv4 7 (v := (if ((s2 11 r3 r3j 7)) < ((s2 9 a0 0 7)) then ((s2 9 a0 0 7)) else ((s2 11 r3 r3j 7)))) (ks_c11 cy ad o r3 r3j _) (ks_c11s7 cy ad o r3 r3j _ _) rfl (by decide) (hts (.fieldLink RX3 117 "SpinKernel$Request" "mostSpun" "I") (by decide +kernel)) rfl (ty := .int) (by decide +kernel) rfl rfl (Nat.le_of_ble_eq_true rfl) dX3_spinFor_33 (fun H locs hW hS => ?_)
  exact ks_vret C hf hW hS dX3_spinFor_36
set_option maxHeartbeats 4000000 in
set_option maxRecDepth 100000 in
theorem m_X3_spinFor (l : Launch) (D : va_G) (cy : Nat → ClassId) (ad : ks_A) (En : Nat → Prop) (n0 : Nat → Prop) (hG : ks_G ad En n0) (hE : ∀ k, ks_g k = 0 → En k) (o : Int64) {σ : ks_S} {a0 : Nat} {x1 : Int32} (v0 : ks_v En 8 a0 0) {out : ks_S} (hf : f_X3_spinFor σ a0 x1 = some out) : Met l yX3_spinFor wsX3_spinFor (ks_Rm 2 0 0 34) (va_Pc [.ref (ad 8 a0 0), .int x1] (ks_U D cy ad En n0 σ o)) (ks_Qv D cy ad En n0 o out) 0 0 (ks_F n0) := by
  refine Met.ofW (cc := cX3_spinFor) (maxL := 3) (ret := none) (by decide) rfl ?_
  intro p e s m args below meth c s₁ B hml hv
  obtain ⟨rfl, hU⟩ := hv
  have hl := lv_entry ([.ref (ad 8 a0 0), .int x1]) (n := 3) (Nat.le_of_ble_eq_true rfl)
  rw [lg_entry_eq]
  generalize (lg_sl ([.ref (ad 8 a0 0), .int x1]) ++ List.replicate (3 - (lg_sl ([.ref (ad 8 a0 0), .int x1])).length) Slot.unset).toArray = ls at hl ⊢
  exact t_X3_spinFor ⟨B.exec, B.bytes, hml, B.returns, findClass_of_methodNamed B.named, atoms_spec (ws := wsX3_spinFor) B.pre, B.notSynchronized, hG, hU, hE⟩ v0 hf hU.2.1 va_S.rf hl

/-! SpinKernel$Task.startHolding()V -/
def f_X3_startHolding (σ : ks_S) (a0 : Nat) : Option ks_S :=
  ((f_X3_nextRequest ((ks_up σ 9 a0 0 3 3)) a0).bind fun ((r3, r3j), s2) => some ((ks_up s2 9 a0 0 6 ((s2 11 r3 r3j 6)))))
theorem in_X3_startHolding_0 : ∀ w ∈ wsX00, w ∈ wsX3_startHolding := by decide +kernel
theorem in_X3_startHolding_1 : ∀ w ∈ wsX10, w ∈ wsX3_startHolding := by decide +kernel
theorem in_X3_startHolding_3 : ∀ w ∈ wsX30, w ∈ wsX3_startHolding := by decide +kernel
set_option maxHeartbeats 4000000 in
set_option maxRecDepth 100000 in
theorem t_X3_startHolding {p : Program} {l : Launch} {e : Env} {s : State} {m : MethodId} {args : Array Value} {below : List Frame} {meth : Method} {c : Code} {D : va_G} {cy : Nat → ClassId} {ad : ks_A} {En : Nat → Prop} {n0 : Nat → Prop} {σ0 : ks_S} {o : Int64} {out : ks_S} (C : ks_M p s m args meth c D cy ad En (fun k => ks_g k = 0) n0 σ0 o wsX3_startHolding cX3_startHolding RX3 1 (none)) {σ : ks_S} {a0 : Nat} (v0 : ks_v En 8 a0 0) (hf : f_X3_startHolding σ a0 = some out) {H : Heap} {locs : List Loc} {ls : Array Slot} (hW : ks_W D cy ad En σ o H) (hS : va_S (ks_F n0) s.heap H locs) (hl : lv_has ls 1 [(0, .ref (ad 8 a0 0))]) : W p l e (ks_Rm 2 0 0 34) s m args below meth c H locs 0 0 (MQ below (ks_Qv D cy ad En n0 o out) args s 0 0 (ks_F n0)) (F0 m 0 ls []) := by
  obtain ⟨hx, hb, hml, hr, hown, hts, hlocks, hG, hU0, hE⟩ := id C
  have hK := hU0.2.2
  unfold f_X3_startHolding at hf
  refine lv_aload_n hx hb dX3_startHolding_0 rfl (lv_at hl 0 rfl) ?_
  refine va_get (D := D) (ci := 3) (v := .ref (ad 9 a0 0)) (C := RX3) (T := TX3) (N := 10) hx hb hts in_X3_startHolding_3 hown hK (ks_P1 hW v0 (ks_c8 cy ad o a0 0 _)) 0 rfl rfl 9 (by decide) (hts (.fieldLink RX3 20 "SpinKernel$Task" "job" "LSpinKernel$Job;") (by decide +kernel)) (fun _ h => h) rfl dX3_startHolding_1 ?_
  refine lv_iconst (v := 3) hx hb dX3_startHolding_4 (by decide) ?_
  refine ks_put (D := D) (ci := 0) (C := RX0) (T := TX0) (N := 12) hx hb hts in_X3_startHolding_0 tyX0 tyX0_ok nmX0 hown hK hG hW hS (ks_v9 (j := 0) v0.2.1 (hE 9 rfl)) 3 (v := 3) (ks_c9 cy ad o a0 0 _) (ks_c9s3 cy ad o a0 0 _ _) rfl (by decide) (hts (.fieldLink RX3 111 "SpinKernel$Job" "state" "I") (by decide +kernel)) rfl (ty := .int) (by decide +kernel) rfl rfl (Nat.le_of_ble_eq_true rfl) dX3_startHolding_5 (fun H locs hW hS => ?_)
  refine lv_aload_n hx hb dX3_startHolding_8 rfl (lv_at hl 0 rfl) ?_
  refine va_get (D := D) (ci := 3) (v := .ref (ad 9 a0 0)) (C := RX3) (T := TX3) (N := 10) hx hb hts in_X3_startHolding_3 hown hK (ks_P1 hW v0 (ks_c8 cy ad o a0 0 _)) 0 rfl rfl 9 (by decide) (hts (.fieldLink RX3 20 "SpinKernel$Task" "job" "LSpinKernel$Job;") (by decide +kernel)) (fun _ h => h) rfl dX3_startHolding_9 ?_
  refine lv_aload_n hx hb dX3_startHolding_12 rfl (lv_at hl 0 rfl) ?_
  obtain ⟨⟨⟨r3, r3j⟩, s2⟩, hc1, hf⟩ := ks_bind hf
  try dsimp only at hf
  refine ks_callr (va_runV (As := []) (rest := [.ref (ad 9 a0 0)]) ⟨hx, hb, hml, hown, hts⟩ (m_X3_nextRequest l D cy ad En n0 hG hE o v0 hc1) (cwV 0 hts gX3_startHolding_X3_nextRequest rfl rfl rfl (by decide +kernel) ⟨(Nat.le_of_ble_eq_true rfl), (Nat.le_of_ble_eq_true rfl)⟩) ⟨ks_U.blind, ks_recv hK hW v0 (ks_c8 cy ad o a0 0 _) rfl, fun U hU hWm => ⟨rfl, hU0.now hS hW hWm.alike hU⟩⟩ rfl rfl hl.1 rfl (lv_room (Nat.le_of_ble_eq_true rfl)) dX3_startHolding_13 ⟨(Nat.le_of_ble_eq_true rfl), (Nat.le_of_ble_eq_true rfl)⟩) hS (fun H locs hv4 hW hS => ?_)
  refine va_get (D := D) (ci := 1) (v := .int (s2 11 r3 r3j 6)) (C := RX1) (T := TX1) (N := 8) hx hb hts in_X3_startHolding_1 hown hK (ks_P1 hW hv4 (ks_c11 cy ad o r3 r3j _)) 0 rfl rfl 6 (by decide) (hts (.fieldLink RX3 120 "SpinKernel$Request" "ticksOfJob" "I") (by decide +kernel)) (fun _ h => h) rfl dX3_startHolding_16 ?_
  refine ks_put (D := D) (ci := 0) (C := RX0) (T := TX0) (N := 12) hx hb hts in_X3_startHolding_0 tyX0 tyX0_ok nmX0 hown hK hG hW hS (ks_v9 (j := 0) v0.2.1 (hE 9 rfl)) 6 (v := (s2 11 r3 r3j 6)) (ks_c9 cy ad o a0 0 _) (ks_c9s6 cy ad o a0 0 _ _) rfl (by decide) (hts (.fieldLink RX3 123 "SpinKernel$Job" "sectionLeft" "I") (by decide +kernel)) rfl (ty := .int) (by decide +kernel) rfl rfl (Nat.le_of_ble_eq_true rfl) dX3_startHolding_19 (fun H locs hW hS => ?_)
  exact ks_vret C hf hW hS dX3_startHolding_22
set_option maxHeartbeats 4000000 in
set_option maxRecDepth 100000 in
theorem m_X3_startHolding (l : Launch) (D : va_G) (cy : Nat → ClassId) (ad : ks_A) (En : Nat → Prop) (n0 : Nat → Prop) (hG : ks_G ad En n0) (hE : ∀ k, ks_g k = 0 → En k) (o : Int64) {σ : ks_S} {a0 : Nat} (v0 : ks_v En 8 a0 0) {out : ks_S} (hf : f_X3_startHolding σ a0 = some out) : Met l yX3_startHolding wsX3_startHolding (ks_Rm 2 0 0 34) (va_Pc [.ref (ad 8 a0 0)] (ks_U D cy ad En n0 σ o)) (ks_Qv D cy ad En n0 o out) 0 0 (ks_F n0) := by
  refine Met.ofW (cc := cX3_startHolding) (maxL := 1) (ret := none) (by decide) rfl ?_
  intro p e s m args below meth c s₁ B hml hv
  obtain ⟨rfl, hU⟩ := hv
  have hl := lv_entry ([.ref (ad 8 a0 0)]) (n := 1) (Nat.le_of_ble_eq_true rfl)
  rw [lg_entry_eq]
  generalize (lg_sl ([.ref (ad 8 a0 0)]) ++ List.replicate (1 - (lg_sl ([.ref (ad 8 a0 0)])).length) Slot.unset).toArray = ls at hl ⊢
  exact t_X3_startHolding ⟨B.exec, B.bytes, hml, B.returns, findClass_of_methodNamed B.named, atoms_spec (ws := wsX3_startHolding) B.pre, B.notSynchronized, hG, hU, hE⟩ v0 hf hU.2.1 va_S.rf hl

/-! SpinKernel$Task.leaveSection()V -/
def f_X3_leaveSection (N : Nat) (σ : ks_S) (a0 : Nat) : Option ks_S :=
  ((f_X3_outerFrom N ((ks_up σ 9 a0 0 3 1)) a0 ((((((ks_up σ 9 a0 0 3 1)) 9 a0 0 5)) + 1))).bind fun (r3, s2) => some ((ks_up s2 9 a0 0 5 r3)))
theorem in_X3_leaveSection_0 : ∀ w ∈ wsX00, w ∈ wsX3_leaveSection := by decide +kernel
theorem in_X3_leaveSection_3 : ∀ w ∈ wsX30, w ∈ wsX3_leaveSection := by decide +kernel
set_option maxHeartbeats 4000000 in
set_option maxRecDepth 100000 in
theorem t_X3_leaveSection {p : Program} {l : Launch} {e : Env} {s : State} {m : MethodId} {args : Array Value} {below : List Frame} {meth : Method} {c : Code} {D : va_G} {cy : Nat → ClassId} {ad : ks_A} {En : Nat → Prop} {n0 : Nat → Prop} {σ0 : ks_S} {o : Int64} {N : Nat} {out : ks_S} (C : ks_M p s m args meth c D cy ad En (fun k => ks_g k = 0) n0 σ0 o wsX3_leaveSection cX3_leaveSection RX3 1 (none)) {σ : ks_S} {a0 : Nat} (v0 : ks_v En 8 a0 0) (hf : f_X3_leaveSection N σ a0 = some out) {H : Heap} {locs : List Loc} {ls : Array Slot} (hW : ks_W D cy ad En σ o H) (hS : va_S (ks_F n0) s.heap H locs) (hl : lv_has ls 1 [(0, .ref (ad 8 a0 0))]) : W p l e (ks_Rm 2 0 0 42) s m args below meth c H locs 0 0 (MQ below (ks_Qv D cy ad En n0 o out) args s 0 0 (ks_F n0)) (F0 m 0 ls []) := by
  obtain ⟨hx, hb, hml, hr, hown, hts, hlocks, hG, hU0, hE⟩ := id C
  have hK := hU0.2.2
  unfold f_X3_leaveSection at hf
  refine lv_aload_n hx hb dX3_leaveSection_0 rfl (lv_at hl 0 rfl) ?_
  refine va_get (D := D) (ci := 3) (v := .ref (ad 9 a0 0)) (C := RX3) (T := TX3) (N := 10) hx hb hts in_X3_leaveSection_3 hown hK (ks_P1 hW v0 (ks_c8 cy ad o a0 0 _)) 0 rfl rfl 9 (by decide) (hts (.fieldLink RX3 20 "SpinKernel$Task" "job" "LSpinKernel$Job;") (by decide +kernel)) (fun _ h => h) rfl dX3_leaveSection_1 ?_
  refine lv_iconst (v := 1) hx hb dX3_leaveSection_4 (by decide) ?_
  refine ks_put (D := D) (ci := 0) (C := RX0) (T := TX0) (N := 12) hx hb hts in_X3_leaveSection_0 tyX0 tyX0_ok nmX0 hown hK hG hW hS (ks_v9 (j := 0) v0.2.1 (hE 9 rfl)) 3 (v := 1) (ks_c9 cy ad o a0 0 _) (ks_c9s3 cy ad o a0 0 _ _) rfl (by decide) (hts (.fieldLink RX3 111 "SpinKernel$Job" "state" "I") (by decide +kernel)) rfl (ty := .int) (by decide +kernel) rfl rfl (Nat.le_of_ble_eq_true rfl) dX3_leaveSection_5 (fun H locs hW hS => ?_)
  refine lv_aload_n hx hb dX3_leaveSection_8 rfl (lv_at hl 0 rfl) ?_
  refine va_get (D := D) (ci := 3) (v := .ref (ad 9 a0 0)) (C := RX3) (T := TX3) (N := 10) hx hb hts in_X3_leaveSection_3 hown hK (ks_P1 hW v0 (ks_c8 cy ad o a0 0 _)) 0 rfl rfl 9 (by decide) (hts (.fieldLink RX3 20 "SpinKernel$Task" "job" "LSpinKernel$Job;") (by decide +kernel)) (fun _ h => h) rfl dX3_leaveSection_9 ?_
  refine lv_aload_n hx hb dX3_leaveSection_12 rfl (lv_at hl 0 rfl) ?_
  refine lv_aload_n hx hb dX3_leaveSection_13 rfl (lv_at hl 0 rfl) ?_
  refine va_get (D := D) (ci := 3) (v := .ref (ad 9 a0 0)) (C := RX3) (T := TX3) (N := 10) hx hb hts in_X3_leaveSection_3 hown hK (ks_P1 hW v0 (ks_c8 cy ad o a0 0 _)) 0 rfl rfl 9 (by decide) (hts (.fieldLink RX3 20 "SpinKernel$Task" "job" "LSpinKernel$Job;") (by decide +kernel)) (fun _ h => h) rfl dX3_leaveSection_14 ?_
  refine va_get (D := D) (ci := 0) (v := .int (((ks_up σ 9 a0 0 3 1)) 9 a0 0 5)) (C := RX0) (T := TX0) (N := 12) hx hb hts in_X3_leaveSection_0 hown hK (ks_P1 hW (ks_v9 (j := 0) v0.2.1 (hE 9 rfl)) (ks_c9 cy ad o a0 0 _)) 0 rfl rfl 5 (by decide) (hts (.fieldLink RX3 98 "SpinKernel$Job" "next" "I") (by decide +kernel)) (fun _ h => h) rfl dX3_leaveSection_17 ?_
  refine lv_iconst (v := 1) hx hb dX3_leaveSection_20 (by decide) ?_
  refine lv_iadd hx hb dX3_leaveSection_21 ?_
  obtain ⟨⟨r3, s2⟩, hc1, hf⟩ := ks_bind hf
  try dsimp only at hf
  refine ks_calli (va_runV (As := [.int (((((ks_up σ 9 a0 0 3 1)) 9 a0 0 5)) + 1)]) (rest := [.ref (ad 9 a0 0)]) ⟨hx, hb, hml, hown, hts⟩ (m_X3_outerFrom l D cy ad En n0 hG hE o v0 hc1) (cwV 1 hts gX3_leaveSection_X3_outerFrom rfl rfl rfl (by decide +kernel) ⟨(Nat.le_of_ble_eq_true rfl), (Nat.le_of_ble_eq_true rfl)⟩) ⟨ks_U.blind, ks_recv hK hW v0 (ks_c8 cy ad o a0 0 _) rfl, fun U hU hWm => ⟨rfl, hU0.now hS hW hWm.alike hU⟩⟩ rfl rfl hl.1 rfl (lv_room (Nat.le_of_ble_eq_true rfl)) dX3_leaveSection_22 ⟨(Nat.le_of_ble_eq_true rfl), (Nat.le_of_ble_eq_true rfl)⟩) hS (fun H locs hW hS => ?_)
  refine ks_put (D := D) (ci := 0) (C := RX0) (T := TX0) (N := 12) hx hb hts in_X3_leaveSection_0 tyX0 tyX0_ok nmX0 hown hK hG hW hS (ks_v9 (j := 0) v0.2.1 (hE 9 rfl)) 5 (v := r3) (ks_c9 cy ad o a0 0 _) (ks_c9s5 cy ad o a0 0 _ _) rfl (by decide) (hts (.fieldLink RX3 98 "SpinKernel$Job" "next" "I") (by decide +kernel)) rfl (ty := .int) (by decide +kernel) rfl rfl (Nat.le_of_ble_eq_true rfl) dX3_leaveSection_25 (fun H locs hW hS => ?_)
  exact ks_vret C hf hW hS dX3_leaveSection_28
set_option maxHeartbeats 4000000 in
set_option maxRecDepth 100000 in
theorem m_X3_leaveSection (l : Launch) (D : va_G) (cy : Nat → ClassId) (ad : ks_A) (En : Nat → Prop) (n0 : Nat → Prop) (hG : ks_G ad En n0) (hE : ∀ k, ks_g k = 0 → En k) (o : Int64) {N : Nat} {σ : ks_S} {a0 : Nat} (v0 : ks_v En 8 a0 0) {out : ks_S} (hf : f_X3_leaveSection N σ a0 = some out) : Met l yX3_leaveSection wsX3_leaveSection (ks_Rm 2 0 0 42) (va_Pc [.ref (ad 8 a0 0)] (ks_U D cy ad En n0 σ o)) (ks_Qv D cy ad En n0 o out) 0 0 (ks_F n0) := by
  refine Met.ofW (cc := cX3_leaveSection) (maxL := 1) (ret := none) (by decide) rfl ?_
  intro p e s m args below meth c s₁ B hml hv
  obtain ⟨rfl, hU⟩ := hv
  have hl := lv_entry ([.ref (ad 8 a0 0)]) (n := 1) (Nat.le_of_ble_eq_true rfl)
  rw [lg_entry_eq]
  generalize (lg_sl ([.ref (ad 8 a0 0)]) ++ List.replicate (1 - (lg_sl ([.ref (ad 8 a0 0)])).length) Slot.unset).toArray = ls at hl ⊢
  exact t_X3_leaveSection ⟨B.exec, B.bytes, hml, B.returns, findClass_of_methodNamed B.named, atoms_spec (ws := wsX3_leaveSection) B.pre, B.notSynchronized, hG, hU, hE⟩ v0 hf hU.2.1 va_S.rf hl

/-! SpinKernel$Task.ticksToChange()I -/
def f_X3_ticksToChange (σ : ks_S) (a0 : Nat) : Option (Int32 × ks_S) :=
  (if ((σ 9 a0 0 3)) = 3 then some ((σ 9 a0 0 6), σ) else (if ((σ 8 a0 0 7)) ≤ ((σ 9 a0 0 5)) then some ((((σ 8 a0 0 5)) - ((σ 9 a0 0 4))), σ) else ((f_X3_nextRequest σ a0).bind fun ((r5, r5j), s4) => some ((((s4 11 r5 r5j 0)) - ((s4 9 a0 0 4))), s4))))
theorem in_X3_ticksToChange_0 : ∀ w ∈ wsX00, w ∈ wsX3_ticksToChange := by decide +kernel
theorem in_X3_ticksToChange_1 : ∀ w ∈ wsX10, w ∈ wsX3_ticksToChange := by decide +kernel
theorem in_X3_ticksToChange_3 : ∀ w ∈ wsX30, w ∈ wsX3_ticksToChange := by decide +kernel
set_option maxHeartbeats 4000000 in
set_option maxRecDepth 100000 in
theorem t_X3_ticksToChange {p : Program} {l : Launch} {e : Env} {s : State} {m : MethodId} {args : Array Value} {below : List Frame} {meth : Method} {c : Code} {D : va_G} {cy : Nat → ClassId} {ad : ks_A} {En : Nat → Prop} {n0 : Nat → Prop} {σ0 : ks_S} {o : Int64} {out : (Int32 × ks_S)} (C : ks_M p s m args meth c D cy ad En (fun k => ks_g k = 0) n0 σ0 o wsX3_ticksToChange cX3_ticksToChange RX3 2 (some .int)) {σ : ks_S} {a0 : Nat} (v0 : ks_v En 8 a0 0) (hf : f_X3_ticksToChange σ a0 = some out) {H : Heap} {locs : List Loc} {ls : Array Slot} (hW : ks_W D cy ad En σ o H) (hS : va_S (ks_F n0) s.heap H locs) (hl : lv_has ls 2 [(0, .ref (ad 8 a0 0))]) : W p l e (ks_Rm 2 0 0 34) s m args below meth c H locs 0 0 (MQ below (ks_Qi D cy ad En n0 o out) args s 0 0 (ks_F n0)) (F0 m 0 ls []) := by
  obtain ⟨hx, hb, hml, hr, hown, hts, hlocks, hG, hU0, hE⟩ := id C
  have hK := hU0.2.2
  unfold f_X3_ticksToChange at hf
  refine lv_aload_n hx hb dX3_ticksToChange_0 rfl (lv_at hl 0 rfl) ?_
  refine va_get (D := D) (ci := 3) (v := .ref (ad 9 a0 0)) (C := RX3) (T := TX3) (N := 10) hx hb hts in_X3_ticksToChange_3 hown hK (ks_P1 hW v0 (ks_c8 cy ad o a0 0 _)) 0 rfl rfl 9 (by decide) (hts (.fieldLink RX3 20 "SpinKernel$Task" "job" "LSpinKernel$Job;") (by decide +kernel)) (fun _ h => h) rfl dX3_ticksToChange_1 ?_
  refine va_get (D := D) (ci := 0) (v := .int (σ 9 a0 0 3)) (C := RX0) (T := TX0) (N := 12) hx hb hts in_X3_ticksToChange_0 hown hK (ks_P1 hW (ks_v9 (j := 0) v0.2.1 (hE 9 rfl)) (ks_c9 cy ad o a0 0 _)) 0 rfl rfl 3 (by decide) (hts (.fieldLink RX3 111 "SpinKernel$Job" "state" "I") (by decide +kernel)) (fun _ h => h) rfl dX3_ticksToChange_4 ?_
  refine lv_iconst (v := 3) hx hb dX3_ticksToChange_7 (by decide) ?_
  refine lv_icmp_ne (tgt := 19) hx hb dX3_ticksToChange_8 (by decide) (fun c1 => ?_) (fun c1 => ?_)
  · rw [if_neg c1] at hf
    refine lv_aload_n hx hb dX3_ticksToChange_19 rfl (lv_at hl 0 rfl) ?_
    refine va_get (D := D) (ci := 3) (v := .ref (ad 9 a0 0)) (C := RX3) (T := TX3) (N := 10) hx hb hts in_X3_ticksToChange_3 hown hK (ks_P1 hW v0 (ks_c8 cy ad o a0 0 _)) 0 rfl rfl 9 (by decide) (hts (.fieldLink RX3 20 "SpinKernel$Task" "job" "LSpinKernel$Job;") (by decide +kernel)) (fun _ h => h) rfl dX3_ticksToChange_20 ?_
    refine va_get (D := D) (ci := 0) (v := .int (σ 9 a0 0 5)) (C := RX0) (T := TX0) (N := 12) hx hb hts in_X3_ticksToChange_0 hown hK (ks_P1 hW (ks_v9 (j := 0) v0.2.1 (hE 9 rfl)) (ks_c9 cy ad o a0 0 _)) 0 rfl rfl 5 (by decide) (hts (.fieldLink RX3 98 "SpinKernel$Job" "next" "I") (by decide +kernel)) (fun _ h => h) rfl dX3_ticksToChange_23 ?_
    refine lv_aload_n hx hb dX3_ticksToChange_26 rfl (lv_at hl 0 rfl) ?_
    refine va_get (D := D) (ci := 3) (v := .int (σ 8 a0 0 7)) (C := RX3) (T := TX3) (N := 10) hx hb hts in_X3_ticksToChange_3 hown hK (ks_P1 hW v0 (ks_c8 cy ad o a0 0 _)) 0 rfl rfl 7 (by decide) (hts (.fieldLink RX3 45 "SpinKernel$Task" "count" "I") (by decide +kernel)) (fun _ h => h) rfl dX3_ticksToChange_27 ?_
    refine lv_icmp_ge (tgt := 43) hx hb dX3_ticksToChange_30 (by decide) (fun c2 => ?_) (fun c2 => ?_)
    · rw [if_pos c2] at hf
      refine lv_aload_n hx hb dX3_ticksToChange_43 rfl (lv_at hl 0 rfl) ?_
      refine va_get (D := D) (ci := 3) (v := .int (σ 8 a0 0 5)) (C := RX3) (T := TX3) (N := 10) hx hb hts in_X3_ticksToChange_3 hown hK (ks_P1 hW v0 (ks_c8 cy ad o a0 0 _)) 0 rfl rfl 5 (by decide) (hts (.fieldLink RX3 42 "SpinKernel$Task" "work" "I") (by decide +kernel)) (fun _ h => h) rfl dX3_ticksToChange_44 ?_
      refine lv_istore_n (lv' := [(1, .int (σ 8 a0 0 5)), (0, .ref (ad 8 a0 0))]) hx hb dX3_ticksToChange_47 rfl hl (by decide) rfl (fun ls hl => ?_)
      refine lv_iload_n hx hb dX3_ticksToChange_48 rfl (lv_at hl 0 rfl) ?_
      refine lv_aload_n hx hb dX3_ticksToChange_49 rfl (lv_at hl 1 rfl) ?_
      refine va_get (D := D) (ci := 3) (v := .ref (ad 9 a0 0)) (C := RX3) (T := TX3) (N := 10) hx hb hts in_X3_ticksToChange_3 hown hK (ks_P1 hW v0 (ks_c8 cy ad o a0 0 _)) 0 rfl rfl 9 (by decide) (hts (.fieldLink RX3 20 "SpinKernel$Task" "job" "LSpinKernel$Job;") (by decide +kernel)) (fun _ h => h) rfl dX3_ticksToChange_50 ?_
      refine va_get (D := D) (ci := 0) (v := .int (σ 9 a0 0 4)) (C := RX0) (T := TX0) (N := 12) hx hb hts in_X3_ticksToChange_0 hown hK (ks_P1 hW (ks_v9 (j := 0) v0.2.1 (hE 9 rfl)) (ks_c9 cy ad o a0 0 _)) 0 rfl rfl 4 (by decide) (hts (.fieldLink RX3 108 "SpinKernel$Job" "workDone" "I") (by decide +kernel)) (fun _ h => h) rfl dX3_ticksToChange_53 ?_
      refine lv_isub hx hb dX3_ticksToChange_56 ?_
      exact ks_iret C hf hW hS dX3_ticksToChange_57
    · rw [if_neg c2] at hf
      refine lv_aload_n hx hb dX3_ticksToChange_33 rfl (lv_at hl 0 rfl) ?_
      obtain ⟨⟨⟨r5, r5j⟩, s4⟩, hc3, hf⟩ := ks_bind hf
      try dsimp only at hf
      refine ks_callr (va_runV (As := []) (rest := []) ⟨hx, hb, hml, hown, hts⟩ (m_X3_nextRequest l D cy ad En n0 hG hE o v0 hc3) (cwV 0 hts gX3_ticksToChange_X3_nextRequest rfl rfl rfl (by decide +kernel) ⟨(Nat.le_of_ble_eq_true rfl), (Nat.le_of_ble_eq_true rfl)⟩) ⟨ks_U.blind, ks_recv hK hW v0 (ks_c8 cy ad o a0 0 _) rfl, fun U hU hWm => ⟨rfl, hU0.now hS hW hWm.alike hU⟩⟩ rfl rfl hl.1 rfl (lv_room (Nat.le_of_ble_eq_true rfl)) dX3_ticksToChange_34 ⟨(Nat.le_of_ble_eq_true rfl), (Nat.le_of_ble_eq_true rfl)⟩) hS (fun H locs hv6 hW hS => ?_)
      refine va_get (D := D) (ci := 1) (v := .int (s4 11 r5 r5j 0)) (C := RX1) (T := TX1) (N := 8) hx hb hts in_X3_ticksToChange_1 hown hK (ks_P1 hW hv6 (ks_c11 cy ad o r5 r5j _)) 0 rfl rfl 0 (by decide) (hts (.fieldLink RX3 62 "SpinKernel$Request" "after" "I") (by decide +kernel)) (fun _ h => h) rfl dX3_ticksToChange_37 ?_
      refine lv_goto (tgt := 47) hx hb dX3_ticksToChange_40 (by decide) ?_
      refine lv_istore_n (lv' := [(1, .int (s4 11 r5 r5j 0)), (0, .ref (ad 8 a0 0))]) hx hb dX3_ticksToChange_47 rfl hl (by decide) rfl (fun ls hl => ?_)
      refine lv_iload_n hx hb dX3_ticksToChange_48 rfl (lv_at hl 0 rfl) ?_
      refine lv_aload_n hx hb dX3_ticksToChange_49 rfl (lv_at hl 1 rfl) ?_
      refine va_get (D := D) (ci := 3) (v := .ref (ad 9 a0 0)) (C := RX3) (T := TX3) (N := 10) hx hb hts in_X3_ticksToChange_3 hown hK (ks_P1 hW v0 (ks_c8 cy ad o a0 0 _)) 0 rfl rfl 9 (by decide) (hts (.fieldLink RX3 20 "SpinKernel$Task" "job" "LSpinKernel$Job;") (by decide +kernel)) (fun _ h => h) rfl dX3_ticksToChange_50 ?_
      refine va_get (D := D) (ci := 0) (v := .int (s4 9 a0 0 4)) (C := RX0) (T := TX0) (N := 12) hx hb hts in_X3_ticksToChange_0 hown hK (ks_P1 hW (ks_v9 (j := 0) v0.2.1 (hE 9 rfl)) (ks_c9 cy ad o a0 0 _)) 0 rfl rfl 4 (by decide) (hts (.fieldLink RX3 108 "SpinKernel$Job" "workDone" "I") (by decide +kernel)) (fun _ h => h) rfl dX3_ticksToChange_53 ?_
      refine lv_isub hx hb dX3_ticksToChange_56 ?_
      exact ks_iret C hf hW hS dX3_ticksToChange_57
  · rw [if_pos c1] at hf
    refine lv_aload_n hx hb dX3_ticksToChange_11 rfl (lv_at hl 0 rfl) ?_
    refine va_get (D := D) (ci := 3) (v := .ref (ad 9 a0 0)) (C := RX3) (T := TX3) (N := 10) hx hb hts in_X3_ticksToChange_3 hown hK (ks_P1 hW v0 (ks_c8 cy ad o a0 0 _)) 0 rfl rfl 9 (by decide) (hts (.fieldLink RX3 20 "SpinKernel$Task" "job" "LSpinKernel$Job;") (by decide +kernel)) (fun _ h => h) rfl dX3_ticksToChange_12 ?_
    refine va_get (D := D) (ci := 0) (v := .int (σ 9 a0 0 6)) (C := RX0) (T := TX0) (N := 12) hx hb hts in_X3_ticksToChange_0 hown hK (ks_P1 hW (ks_v9 (j := 0) v0.2.1 (hE 9 rfl)) (ks_c9 cy ad o a0 0 _)) 0 rfl rfl 6 (by decide) (hts (.fieldLink RX3 123 "SpinKernel$Job" "sectionLeft" "I") (by decide +kernel)) (fun _ h => h) rfl dX3_ticksToChange_15 ?_
    exact ks_iret C hf hW hS dX3_ticksToChange_18
set_option maxHeartbeats 4000000 in
set_option maxRecDepth 100000 in
theorem m_X3_ticksToChange (l : Launch) (D : va_G) (cy : Nat → ClassId) (ad : ks_A) (En : Nat → Prop) (n0 : Nat → Prop) (hG : ks_G ad En n0) (hE : ∀ k, ks_g k = 0 → En k) (o : Int64) {σ : ks_S} {a0 : Nat} (v0 : ks_v En 8 a0 0) {out : (Int32 × ks_S)} (hf : f_X3_ticksToChange σ a0 = some out) : Met l yX3_ticksToChange wsX3_ticksToChange (ks_Rm 2 0 0 34) (va_Pc [.ref (ad 8 a0 0)] (ks_U D cy ad En n0 σ o)) (ks_Qi D cy ad En n0 o out) 0 0 (ks_F n0) := by
  refine Met.ofW (cc := cX3_ticksToChange) (maxL := 2) (ret := some .int) (by decide) rfl ?_
  intro p e s m args below meth c s₁ B hml hv
  obtain ⟨rfl, hU⟩ := hv
  have hl := lv_entry ([.ref (ad 8 a0 0)]) (n := 2) (Nat.le_of_ble_eq_true rfl)
  rw [lg_entry_eq]
  generalize (lg_sl ([.ref (ad 8 a0 0)]) ++ List.replicate (2 - (lg_sl ([.ref (ad 8 a0 0)])).length) Slot.unset).toArray = ls at hl ⊢
  exact t_X3_ticksToChange ⟨B.exec, B.bytes, hml, B.returns, findClass_of_methodNamed B.named, atoms_spec (ws := wsX3_ticksToChange) B.pre, B.notSynchronized, hG, hU, hE⟩ v0 hf hU.2.1 va_S.rf hl

/-! SpinKernel$Task.isAllDone()Z -/
def f_X3_isAllDone (σ : ks_S) (a0 : Nat) : Option (Int32 × ks_S) :=
  (if ((σ 9 a0 0 3)) = 1 then (if ((σ 9 a0 0 4)) < ((σ 8 a0 0 5)) then some (0, σ) else (if ((σ 9 a0 0 5)) < ((σ 8 a0 0 7)) then some (0, σ) else some (1, σ))) else some (0, σ))
theorem in_X3_isAllDone_0 : ∀ w ∈ wsX00, w ∈ wsX3_isAllDone := by decide +kernel
theorem in_X3_isAllDone_3 : ∀ w ∈ wsX30, w ∈ wsX3_isAllDone := by decide +kernel
set_option maxHeartbeats 4000000 in
set_option maxRecDepth 100000 in
theorem t_X3_isAllDone {p : Program} {l : Launch} {e : Env} {s : State} {m : MethodId} {args : Array Value} {below : List Frame} {meth : Method} {c : Code} {D : va_G} {cy : Nat → ClassId} {ad : ks_A} {En : Nat → Prop} {n0 : Nat → Prop} {σ0 : ks_S} {o : Int64} {out : (Int32 × ks_S)} (C : ks_M p s m args meth c D cy ad En (fun k => ks_g k = 0) n0 σ0 o wsX3_isAllDone cX3_isAllDone RX3 1 (some .boolean)) {σ : ks_S} {a0 : Nat} (v0 : ks_v En 8 a0 0) (hf : f_X3_isAllDone σ a0 = some out) {H : Heap} {locs : List Loc} {ls : Array Slot} (hW : ks_W D cy ad En σ o H) (hS : va_S (ks_F n0) s.heap H locs) (hl : lv_has ls 1 [(0, .ref (ad 8 a0 0))]) : W p l e (ks_Rm 0 0 0 0) s m args below meth c H locs 0 0 (MQ below (ks_Qi D cy ad En n0 o out) args s 0 0 (ks_F n0)) (F0 m 0 ls []) := by
  obtain ⟨hx, hb, hml, hr, hown, hts, hlocks, hG, hU0, hE⟩ := id C
  have hK := hU0.2.2
  unfold f_X3_isAllDone at hf
  refine lv_aload_n hx hb dX3_isAllDone_0 rfl (lv_at hl 0 rfl) ?_
  refine va_get (D := D) (ci := 3) (v := .ref (ad 9 a0 0)) (C := RX3) (T := TX3) (N := 10) hx hb hts in_X3_isAllDone_3 hown hK (ks_P1 hW v0 (ks_c8 cy ad o a0 0 _)) 0 rfl rfl 9 (by decide) (hts (.fieldLink RX3 20 "SpinKernel$Task" "job" "LSpinKernel$Job;") (by decide +kernel)) (fun _ h => h) rfl dX3_isAllDone_1 ?_
  refine va_get (D := D) (ci := 0) (v := .int (σ 9 a0 0 3)) (C := RX0) (T := TX0) (N := 12) hx hb hts in_X3_isAllDone_0 hown hK (ks_P1 hW (ks_v9 (j := 0) v0.2.1 (hE 9 rfl)) (ks_c9 cy ad o a0 0 _)) 0 rfl rfl 3 (by decide) (hts (.fieldLink RX3 111 "SpinKernel$Job" "state" "I") (by decide +kernel)) (fun _ h => h) rfl dX3_isAllDone_4 ?_
  refine lv_iconst (v := 1) hx hb dX3_isAllDone_7 (by decide) ?_
  refine lv_icmp_ne (tgt := 43) hx hb dX3_isAllDone_8 (by decide) (fun c1 => ?_) (fun c1 => ?_)
  · rw [if_neg c1] at hf
    refine lv_iconst (v := 0) hx hb dX3_isAllDone_43 (by decide) ?_
    exact ks_zret C rfl hf hW hS dX3_isAllDone_44
  · rw [if_pos c1] at hf
    refine lv_aload_n hx hb dX3_isAllDone_11 rfl (lv_at hl 0 rfl) ?_
    refine va_get (D := D) (ci := 3) (v := .ref (ad 9 a0 0)) (C := RX3) (T := TX3) (N := 10) hx hb hts in_X3_isAllDone_3 hown hK (ks_P1 hW v0 (ks_c8 cy ad o a0 0 _)) 0 rfl rfl 9 (by decide) (hts (.fieldLink RX3 20 "SpinKernel$Task" "job" "LSpinKernel$Job;") (by decide +kernel)) (fun _ h => h) rfl dX3_isAllDone_12 ?_
    refine va_get (D := D) (ci := 0) (v := .int (σ 9 a0 0 4)) (C := RX0) (T := TX0) (N := 12) hx hb hts in_X3_isAllDone_0 hown hK (ks_P1 hW (ks_v9 (j := 0) v0.2.1 (hE 9 rfl)) (ks_c9 cy ad o a0 0 _)) 0 rfl rfl 4 (by decide) (hts (.fieldLink RX3 108 "SpinKernel$Job" "workDone" "I") (by decide +kernel)) (fun _ h => h) rfl dX3_isAllDone_15 ?_
    refine lv_aload_n hx hb dX3_isAllDone_18 rfl (lv_at hl 0 rfl) ?_
    refine va_get (D := D) (ci := 3) (v := .int (σ 8 a0 0 5)) (C := RX3) (T := TX3) (N := 10) hx hb hts in_X3_isAllDone_3 hown hK (ks_P1 hW v0 (ks_c8 cy ad o a0 0 _)) 0 rfl rfl 5 (by decide) (hts (.fieldLink RX3 42 "SpinKernel$Task" "work" "I") (by decide +kernel)) (fun _ h => h) rfl dX3_isAllDone_19 ?_
    refine lv_icmp_lt (tgt := 43) hx hb dX3_isAllDone_22 (by decide) (fun c2 => ?_) (fun c2 => ?_)
    · rw [if_pos c2] at hf
      refine lv_iconst (v := 0) hx hb dX3_isAllDone_43 (by decide) ?_
      exact ks_zret C rfl hf hW hS dX3_isAllDone_44
    · rw [if_neg c2] at hf
      refine lv_aload_n hx hb dX3_isAllDone_25 rfl (lv_at hl 0 rfl) ?_
      refine va_get (D := D) (ci := 3) (v := .ref (ad 9 a0 0)) (C := RX3) (T := TX3) (N := 10) hx hb hts in_X3_isAllDone_3 hown hK (ks_P1 hW v0 (ks_c8 cy ad o a0 0 _)) 0 rfl rfl 9 (by decide) (hts (.fieldLink RX3 20 "SpinKernel$Task" "job" "LSpinKernel$Job;") (by decide +kernel)) (fun _ h => h) rfl dX3_isAllDone_26 ?_
      refine va_get (D := D) (ci := 0) (v := .int (σ 9 a0 0 5)) (C := RX0) (T := TX0) (N := 12) hx hb hts in_X3_isAllDone_0 hown hK (ks_P1 hW (ks_v9 (j := 0) v0.2.1 (hE 9 rfl)) (ks_c9 cy ad o a0 0 _)) 0 rfl rfl 5 (by decide) (hts (.fieldLink RX3 98 "SpinKernel$Job" "next" "I") (by decide +kernel)) (fun _ h => h) rfl dX3_isAllDone_29 ?_
      refine lv_aload_n hx hb dX3_isAllDone_32 rfl (lv_at hl 0 rfl) ?_
      refine va_get (D := D) (ci := 3) (v := .int (σ 8 a0 0 7)) (C := RX3) (T := TX3) (N := 10) hx hb hts in_X3_isAllDone_3 hown hK (ks_P1 hW v0 (ks_c8 cy ad o a0 0 _)) 0 rfl rfl 7 (by decide) (hts (.fieldLink RX3 45 "SpinKernel$Task" "count" "I") (by decide +kernel)) (fun _ h => h) rfl dX3_isAllDone_33 ?_
      refine lv_icmp_lt (tgt := 43) hx hb dX3_isAllDone_36 (by decide) (fun c3 => ?_) (fun c3 => ?_)
      · rw [if_pos c3] at hf
        refine lv_iconst (v := 0) hx hb dX3_isAllDone_43 (by decide) ?_
        exact ks_zret C rfl hf hW hS dX3_isAllDone_44
      · rw [if_neg c3] at hf
        refine lv_iconst (v := 1) hx hb dX3_isAllDone_39 (by decide) ?_
        refine lv_goto (tgt := 44) hx hb dX3_isAllDone_40 (by decide) ?_
        exact ks_zret C rfl hf hW hS dX3_isAllDone_44
set_option maxHeartbeats 4000000 in
set_option maxRecDepth 100000 in
theorem m_X3_isAllDone (l : Launch) (D : va_G) (cy : Nat → ClassId) (ad : ks_A) (En : Nat → Prop) (n0 : Nat → Prop) (hG : ks_G ad En n0) (hE : ∀ k, ks_g k = 0 → En k) (o : Int64) {σ : ks_S} {a0 : Nat} (v0 : ks_v En 8 a0 0) {out : (Int32 × ks_S)} (hf : f_X3_isAllDone σ a0 = some out) : Met l yX3_isAllDone wsX3_isAllDone (ks_Rm 0 0 0 0) (va_Pc [.ref (ad 8 a0 0)] (ks_U D cy ad En n0 σ o)) (ks_Qi D cy ad En n0 o out) 0 0 (ks_F n0) := by
  refine Met.ofW (cc := cX3_isAllDone) (maxL := 1) (ret := some .boolean) (by decide) rfl ?_
  intro p e s m args below meth c s₁ B hml hv
  obtain ⟨rfl, hU⟩ := hv
  have hl := lv_entry ([.ref (ad 8 a0 0)]) (n := 1) (Nat.le_of_ble_eq_true rfl)
  rw [lg_entry_eq]
  generalize (lg_sl ([.ref (ad 8 a0 0)]) ++ List.replicate (1 - (lg_sl ([.ref (ad 8 a0 0)])).length) Slot.unset).toArray = ls at hl ⊢
  exact t_X3_isAllDone ⟨B.exec, B.bytes, hml, B.returns, findClass_of_methodNamed B.named, atoms_spec (ws := wsX3_isAllDone) B.pre, B.notSynchronized, hG, hU, hE⟩ v0 hf hU.2.1 va_S.rf hl
