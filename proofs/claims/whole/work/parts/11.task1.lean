/-! SpinKernel$Task.layDown(IIIII)V -/
def f_X3_layDown (σ : ks_S) (a0 : Nat) (x1 : Int32) (x2 : Int32) (x3 : Int32) (x4 : Int32) (x5 : Int32) : Option ks_S :=
  some ((ks_up (ks_up (ks_up (ks_up (ks_up (ks_up (ks_up σ 8 a0 0 0 1) 8 a0 0 1 x1) 8 a0 0 2 x2) 8 a0 0 3 x3) 8 a0 0 4 x4) 8 a0 0 5 x5) 8 a0 0 7 0))
theorem in_X3_layDown_3 : ∀ w ∈ wsX30, w ∈ wsX3_layDown := by decide +kernel
set_option maxHeartbeats 4000000 in
set_option maxRecDepth 100000 in
theorem t_X3_layDown {p : Program} {l : Launch} {e : Env} {s : State} {m : MethodId} {args : Array Value} {below : List Frame} {meth : Method} {c : Code} {D : va_G} {cy : Nat → ClassId} {ad : ks_A} {En : Nat → Prop} {n0 : Nat → Prop} {σ0 : ks_S} {o : Int64} {out : ks_S} (C : ks_M p s m args meth c D cy ad En (fun k => ks_g k = 0) n0 σ0 o wsX3_layDown cX3_layDown RX3 6 (none)) {σ : ks_S} {a0 : Nat} {x1 : Int32} {x2 : Int32} {x3 : Int32} {x4 : Int32} {x5 : Int32} (v0 : ks_v En 8 a0 0) (hf : f_X3_layDown σ a0 x1 x2 x3 x4 x5 = some out) {H : Heap} {locs : List Loc} {ls : Array Slot} (hW : ks_W D cy ad En σ o H) (hS : va_S (ks_F n0) s.heap H locs) (hl : lv_has ls 6 [(0, .ref (ad 8 a0 0)), (1, .int x1), (2, .int x2), (3, .int x3), (4, .int x4), (5, .int x5)]) : W p l e (ks_Rm 0 0 0 0) s m args below meth c H locs 0 0 (MQ below (ks_Qv D cy ad En n0 o out) args s 0 0 (ks_F n0)) (F0 m 0 ls []) := by
  obtain ⟨hx, hb, hml, hr, hown, hts, hlocks, hG, hU0, hE⟩ := id C
  have hK := hU0.2.2
  unfold f_X3_layDown at hf
  refine lv_aload_n hx hb dX3_layDown_0 rfl (lv_at hl 0 rfl) ?_
  refine lv_iconst (v := 1) hx hb dX3_layDown_1 (by decide) ?_
  refine ks_put (D := D) (ci := 3) (C := RX3) (T := TX3) (N := 10) hx hb hts in_X3_layDown_3 tyX3 tyX3_ok nmX3 hown hK hG hW hS v0 0 (v := 1) (ks_c8 cy ad o a0 0 _) (ks_c8s0 cy ad o a0 0 _ _) rfl (by decide) (hts (.fieldLink RX3 25 "SpinKernel$Task" "isThere" "Z") (by decide +kernel)) rfl (ty := .boolean) (by decide +kernel) rfl rfl (Nat.le_of_ble_eq_true rfl) dX3_layDown_2 (fun H locs hW hS => ?_)
  refine lv_aload_n hx hb dX3_layDown_5 rfl (lv_at hl 0 rfl) ?_
  refine lv_iload_n hx hb dX3_layDown_6 rfl (lv_at hl 1 rfl) ?_
  refine ks_put (D := D) (ci := 3) (C := RX3) (T := TX3) (N := 10) hx hb hts in_X3_layDown_3 tyX3 tyX3_ok nmX3 hown hK hG hW hS v0 1 (v := x1) (ks_c8 cy ad o a0 0 _) (ks_c8s1 cy ad o a0 0 _ _) rfl (by decide) (hts (.fieldLink RX3 29 "SpinKernel$Task" "core" "I") (by decide +kernel)) rfl (ty := .int) (by decide +kernel) rfl rfl (Nat.le_of_ble_eq_true rfl) dX3_layDown_7 (fun H locs hW hS => ?_)
  refine lv_aload_n hx hb dX3_layDown_10 rfl (lv_at hl 0 rfl) ?_
  refine lv_iload_n hx hb dX3_layDown_11 rfl (lv_at hl 2 rfl) ?_
  refine ks_put (D := D) (ci := 3) (C := RX3) (T := TX3) (N := 10) hx hb hts in_X3_layDown_3 tyX3 tyX3_ok nmX3 hown hK hG hW hS v0 2 (v := x2) (ks_c8 cy ad o a0 0 _) (ks_c8s2 cy ad o a0 0 _ _) rfl (by decide) (hts (.fieldLink RX3 33 "SpinKernel$Task" "priority" "I") (by decide +kernel)) rfl (ty := .int) (by decide +kernel) rfl rfl (Nat.le_of_ble_eq_true rfl) dX3_layDown_12 (fun H locs hW hS => ?_)
  refine lv_aload_n hx hb dX3_layDown_15 rfl (lv_at hl 0 rfl) ?_
  refine lv_iload_n hx hb dX3_layDown_16 rfl (lv_at hl 3 rfl) ?_
  refine ks_put (D := D) (ci := 3) (C := RX3) (T := TX3) (N := 10) hx hb hts in_X3_layDown_3 tyX3 tyX3_ok nmX3 hown hK hG hW hS v0 3 (v := x3) (ks_c8 cy ad o a0 0 _) (ks_c8s3 cy ad o a0 0 _ _) rfl (by decide) (hts (.fieldLink RX3 36 "SpinKernel$Task" "distance" "I") (by decide +kernel)) rfl (ty := .int) (by decide +kernel) rfl rfl (Nat.le_of_ble_eq_true rfl) dX3_layDown_17 (fun H locs hW hS => ?_)
  refine lv_aload_n hx hb dX3_layDown_20 rfl (lv_at hl 0 rfl) ?_
  refine lv_iload hx hb dX3_layDown_21 (lv_at hl 4 rfl) ?_
  refine ks_put (D := D) (ci := 3) (C := RX3) (T := TX3) (N := 10) hx hb hts in_X3_layDown_3 tyX3 tyX3_ok nmX3 hown hK hG hW hS v0 4 (v := x4) (ks_c8 cy ad o a0 0 _) (ks_c8s4 cy ad o a0 0 _ _) rfl (by decide) (hts (.fieldLink RX3 39 "SpinKernel$Task" "deadline" "I") (by decide +kernel)) rfl (ty := .int) (by decide +kernel) rfl rfl (Nat.le_of_ble_eq_true rfl) dX3_layDown_23 (fun H locs hW hS => ?_)
  refine lv_aload_n hx hb dX3_layDown_26 rfl (lv_at hl 0 rfl) ?_
  refine lv_iload hx hb dX3_layDown_27 (lv_at hl 5 rfl) ?_
  refine ks_put (D := D) (ci := 3) (C := RX3) (T := TX3) (N := 10) hx hb hts in_X3_layDown_3 tyX3 tyX3_ok nmX3 hown hK hG hW hS v0 5 (v := x5) (ks_c8 cy ad o a0 0 _) (ks_c8s5 cy ad o a0 0 _ _) rfl (by decide) (hts (.fieldLink RX3 42 "SpinKernel$Task" "work" "I") (by decide +kernel)) rfl (ty := .int) (by decide +kernel) rfl rfl (Nat.le_of_ble_eq_true rfl) dX3_layDown_29 (fun H locs hW hS => ?_)
  refine lv_aload_n hx hb dX3_layDown_32 rfl (lv_at hl 0 rfl) ?_
  refine lv_iconst (v := 0) hx hb dX3_layDown_33 (by decide) ?_
  refine ks_put (D := D) (ci := 3) (C := RX3) (T := TX3) (N := 10) hx hb hts in_X3_layDown_3 tyX3 tyX3_ok nmX3 hown hK hG hW hS v0 7 (v := 0) (ks_c8 cy ad o a0 0 _) (ks_c8s7 cy ad o a0 0 _ _) rfl (by decide) (hts (.fieldLink RX3 45 "SpinKernel$Task" "count" "I") (by decide +kernel)) rfl (ty := .int) (by decide +kernel) rfl rfl (Nat.le_of_ble_eq_true rfl) dX3_layDown_34 (fun H locs hW hS => ?_)
  exact ks_vret C hf hW hS dX3_layDown_37
set_option maxHeartbeats 4000000 in
set_option maxRecDepth 100000 in
theorem m_X3_layDown (l : Launch) (D : va_G) (cy : Nat → ClassId) (ad : ks_A) (En : Nat → Prop) (n0 : Nat → Prop) (hG : ks_G ad En n0) (hE : ∀ k, ks_g k = 0 → En k) (o : Int64) {σ : ks_S} {a0 : Nat} {x1 : Int32} {x2 : Int32} {x3 : Int32} {x4 : Int32} {x5 : Int32} (v0 : ks_v En 8 a0 0) {out : ks_S} (hf : f_X3_layDown σ a0 x1 x2 x3 x4 x5 = some out) : Met l yX3_layDown wsX3_layDown (ks_Rm 0 0 0 0) (va_Pc [.ref (ad 8 a0 0), .int x1, .int x2, .int x3, .int x4, .int x5] (ks_U D cy ad En n0 σ o)) (ks_Qv D cy ad En n0 o out) 0 0 (ks_F n0) := by
  refine Met.ofW (cc := cX3_layDown) (maxL := 6) (ret := none) (by decide) rfl ?_
  intro p e s m args below meth c s₁ B hml hv
  obtain ⟨rfl, hU⟩ := hv
  have hl := lv_entry ([.ref (ad 8 a0 0), .int x1, .int x2, .int x3, .int x4, .int x5]) (n := 6) (Nat.le_of_ble_eq_true rfl)
  rw [lg_entry_eq]
  generalize (lg_sl ([.ref (ad 8 a0 0), .int x1, .int x2, .int x3, .int x4, .int x5]) ++ List.replicate (6 - (lg_sl ([.ref (ad 8 a0 0), .int x1, .int x2, .int x3, .int x4, .int x5])).length) Slot.unset).toArray = ls at hl ⊢
  exact t_X3_layDown ⟨B.exec, B.bytes, hml, B.returns, findClass_of_methodNamed B.named, atoms_spec (ws := wsX3_layDown) B.pre, B.notSynchronized, hG, hU, hE⟩ v0 hf hU.2.1 va_S.rf hl

/-! SpinKernel$Task.isOn(I)Z -/
def f_X3_isOn (σ : ks_S) (a0 : Nat) (x1 : Int32) : Option (Int32 × ks_S) :=
  (if ((σ 8 a0 0 0)) = 0 then some (0, σ) else (if ((σ 8 a0 0 1)) = x1 then some (1, σ) else some (0, σ)))
theorem in_X3_isOn_3 : ∀ w ∈ wsX30, w ∈ wsX3_isOn := by decide +kernel
set_option maxHeartbeats 4000000 in
set_option maxRecDepth 100000 in
theorem t_X3_isOn {p : Program} {l : Launch} {e : Env} {s : State} {m : MethodId} {args : Array Value} {below : List Frame} {meth : Method} {c : Code} {D : va_G} {cy : Nat → ClassId} {ad : ks_A} {En : Nat → Prop} {n0 : Nat → Prop} {σ0 : ks_S} {o : Int64} {out : (Int32 × ks_S)} (C : ks_M p s m args meth c D cy ad En (fun k => ks_g k = 0) n0 σ0 o wsX3_isOn cX3_isOn RX3 2 (some .boolean)) {σ : ks_S} {a0 : Nat} {x1 : Int32} (v0 : ks_v En 8 a0 0) (hf : f_X3_isOn σ a0 x1 = some out) {H : Heap} {locs : List Loc} {ls : Array Slot} (hW : ks_W D cy ad En σ o H) (hS : va_S (ks_F n0) s.heap H locs) (hl : lv_has ls 2 [(0, .ref (ad 8 a0 0)), (1, .int x1)]) : W p l e (ks_Rm 0 0 0 0) s m args below meth c H locs 0 0 (MQ below (ks_Qi D cy ad En n0 o out) args s 0 0 (ks_F n0)) (F0 m 0 ls []) := by
  obtain ⟨hx, hb, hml, hr, hown, hts, hlocks, hG, hU0, hE⟩ := id C
  have hK := hU0.2.2
  unfold f_X3_isOn at hf
  refine lv_aload_n hx hb dX3_isOn_0 rfl (lv_at hl 0 rfl) ?_
  refine va_get (D := D) (ci := 3) (v := .int (σ 8 a0 0 0)) (C := RX3) (T := TX3) (N := 10) hx hb hts in_X3_isOn_3 hown hK (ks_P1 hW v0 (ks_c8 cy ad o a0 0 _)) 0 rfl rfl 0 (by decide) (hts (.fieldLink RX3 25 "SpinKernel$Task" "isThere" "Z") (by decide +kernel)) (fun _ h => h) rfl dX3_isOn_1 ?_
  refine lv_if_eq (tgt := 19) hx hb dX3_isOn_4 (by decide) (fun c1 => ?_) (fun c1 => ?_)
  · rw [if_pos c1] at hf
    refine lv_iconst (v := 0) hx hb dX3_isOn_19 (by decide) ?_
    exact ks_zret C rfl hf hW hS dX3_isOn_20
  · rw [if_neg c1] at hf
    refine lv_aload_n hx hb dX3_isOn_7 rfl (lv_at hl 0 rfl) ?_
    refine va_get (D := D) (ci := 3) (v := .int (σ 8 a0 0 1)) (C := RX3) (T := TX3) (N := 10) hx hb hts in_X3_isOn_3 hown hK (ks_P1 hW v0 (ks_c8 cy ad o a0 0 _)) 0 rfl rfl 1 (by decide) (hts (.fieldLink RX3 29 "SpinKernel$Task" "core" "I") (by decide +kernel)) (fun _ h => h) rfl dX3_isOn_8 ?_
    refine lv_iload_n hx hb dX3_isOn_11 rfl (lv_at hl 1 rfl) ?_
    refine lv_icmp_ne (tgt := 19) hx hb dX3_isOn_12 (by decide) (fun c2 => ?_) (fun c2 => ?_)
    · rw [if_neg c2] at hf
      refine lv_iconst (v := 0) hx hb dX3_isOn_19 (by decide) ?_
      exact ks_zret C rfl hf hW hS dX3_isOn_20
    · rw [if_pos c2] at hf
      refine lv_iconst (v := 1) hx hb dX3_isOn_15 (by decide) ?_
      refine lv_goto (tgt := 20) hx hb dX3_isOn_16 (by decide) ?_
      exact ks_zret C rfl hf hW hS dX3_isOn_20
set_option maxHeartbeats 4000000 in
set_option maxRecDepth 100000 in
theorem m_X3_isOn (l : Launch) (D : va_G) (cy : Nat → ClassId) (ad : ks_A) (En : Nat → Prop) (n0 : Nat → Prop) (hG : ks_G ad En n0) (hE : ∀ k, ks_g k = 0 → En k) (o : Int64) {σ : ks_S} {a0 : Nat} {x1 : Int32} (v0 : ks_v En 8 a0 0) {out : (Int32 × ks_S)} (hf : f_X3_isOn σ a0 x1 = some out) : Met l yX3_isOn wsX3_isOn (ks_Rm 0 0 0 0) (va_Pc [.ref (ad 8 a0 0), .int x1] (ks_U D cy ad En n0 σ o)) (ks_Qi D cy ad En n0 o out) 0 0 (ks_F n0) := by
  refine Met.ofW (cc := cX3_isOn) (maxL := 2) (ret := some .boolean) (by decide) rfl ?_
  intro p e s m args below meth c s₁ B hml hv
  obtain ⟨rfl, hU⟩ := hv
  have hl := lv_entry ([.ref (ad 8 a0 0), .int x1]) (n := 2) (Nat.le_of_ble_eq_true rfl)
  rw [lg_entry_eq]
  generalize (lg_sl ([.ref (ad 8 a0 0), .int x1]) ++ List.replicate (2 - (lg_sl ([.ref (ad 8 a0 0), .int x1])).length) Slot.unset).toArray = ls at hl ⊢
  exact t_X3_isOn ⟨B.exec, B.bytes, hml, B.returns, findClass_of_methodNamed B.named, atoms_spec (ws := wsX3_isOn) B.pre, B.notSynchronized, hG, hU, hE⟩ v0 hf hU.2.1 va_S.rf hl

/-! SpinKernel$Task.isOuter(I)Z -/
def f_X3_isOuter (σ : ks_S) (a0 : Nat) (x1 : Int32) : Option (Int32 × ks_S) :=
  (if x1 < 0 then some (0, σ) else (if ((σ 8 a0 0 7)) ≤ x1 then some (0, σ) else (if ks_in x1 6 = true then ((f_X1_isOuter σ a0 ((x1.toNatClampNeg))).bind fun (r6, s5) => (if r6 = 0 then some (0, s5) else some (1, s5))) else none)))
theorem in_X3_isOuter_3 : ∀ w ∈ wsX30, w ∈ wsX3_isOuter := by decide +kernel
set_option maxHeartbeats 4000000 in
set_option maxRecDepth 100000 in
theorem t_X3_isOuter {p : Program} {l : Launch} {e : Env} {s : State} {m : MethodId} {args : Array Value} {below : List Frame} {meth : Method} {c : Code} {D : va_G} {cy : Nat → ClassId} {ad : ks_A} {En : Nat → Prop} {n0 : Nat → Prop} {σ0 : ks_S} {o : Int64} {out : (Int32 × ks_S)} (C : ks_M p s m args meth c D cy ad En (fun k => ks_g k = 0) n0 σ0 o wsX3_isOuter cX3_isOuter RX3 2 (some .boolean)) {σ : ks_S} {a0 : Nat} {x1 : Int32} (v0 : ks_v En 8 a0 0) (hf : f_X3_isOuter σ a0 x1 = some out) {H : Heap} {locs : List Loc} {ls : Array Slot} (hW : ks_W D cy ad En σ o H) (hS : va_S (ks_F n0) s.heap H locs) (hl : lv_has ls 2 [(0, .ref (ad 8 a0 0)), (1, .int x1)]) : W p l e (ks_Rm 1 0 0 20) s m args below meth c H locs 0 0 (MQ below (ks_Qi D cy ad En n0 o out) args s 0 0 (ks_F n0)) (F0 m 0 ls []) := by
  obtain ⟨hx, hb, hml, hr, hown, hts, hlocks, hG, hU0, hE⟩ := id C
  have hK := hU0.2.2
  unfold f_X3_isOuter at hf
  refine lv_iload_n hx hb dX3_isOuter_0 rfl (lv_at hl 1 rfl) ?_
  refine lv_if_lt (tgt := 28) hx hb dX3_isOuter_1 (by decide) (fun c1 => ?_) (fun c1 => ?_)
  · rw [if_pos c1] at hf
    refine lv_iconst (v := 0) hx hb dX3_isOuter_28 (by decide) ?_
    exact ks_zret C rfl hf hW hS dX3_isOuter_29
  · rw [if_neg c1] at hf
    refine lv_iload_n hx hb dX3_isOuter_4 rfl (lv_at hl 1 rfl) ?_
    refine lv_aload_n hx hb dX3_isOuter_5 rfl (lv_at hl 0 rfl) ?_
    refine va_get (D := D) (ci := 3) (v := .int (σ 8 a0 0 7)) (C := RX3) (T := TX3) (N := 10) hx hb hts in_X3_isOuter_3 hown hK (ks_P1 hW v0 (ks_c8 cy ad o a0 0 _)) 0 rfl rfl 7 (by decide) (hts (.fieldLink RX3 45 "SpinKernel$Task" "count" "I") (by decide +kernel)) (fun _ h => h) rfl dX3_isOuter_6 ?_
    refine lv_icmp_ge (tgt := 28) hx hb dX3_isOuter_9 (by decide) (fun c2 => ?_) (fun c2 => ?_)
    · rw [if_pos c2] at hf
      refine lv_iconst (v := 0) hx hb dX3_isOuter_28 (by decide) ?_
      exact ks_zret C rfl hf hW hS dX3_isOuter_29
    · rw [if_neg c2] at hf
      refine lv_aload_n hx hb dX3_isOuter_12 rfl (lv_at hl 0 rfl) ?_
      refine va_get (D := D) (ci := 3) (v := .ref (ad 10 a0 0)) (C := RX3) (T := TX3) (N := 10) hx hb hts in_X3_isOuter_3 hown hK (ks_P1 hW v0 (ks_c8 cy ad o a0 0 _)) 0 rfl rfl 8 (by decide) (hts (.fieldLink RX3 11 "SpinKernel$Task" "requests" "[LSpinKernel$Request;") (by decide +kernel)) (fun _ h => h) rfl dX3_isOuter_13 ?_
      refine lv_iload_n hx hb dX3_isOuter_16 rfl (lv_at hl 1 rfl) ?_
      obtain ⟨hi3, hf⟩ := ks_guard hf
      refine ks_aald hx hb hK hW (ks_v10 (j := 0) v0.2.1 (hE 10 rfl)) 5 (ks_c10 cy ad o a0 0 _) rfl rfl hi3 dX3_isOuter_17 ?_
      obtain ⟨⟨r6, s5⟩, hc4, hf⟩ := ks_bind hf
      try dsimp only at hf
      refine ks_calli (va_runV (As := []) (rest := []) ⟨hx, hb, hml, hown, hts⟩ (m_X1_isOuter l D cy ad En n0 hG hE o (ks_v11 (ks_v10 (j := 0) v0.2.1 (hE 10 rfl)).2.1 (ks_in_lt hi3) (hE 11 rfl)) hc4) (cwV 0 hts gX3_isOuter_X1_isOuter rfl rfl rfl (by decide +kernel) ⟨(Nat.le_of_ble_eq_true rfl), (Nat.le_of_ble_eq_true rfl)⟩) ⟨ks_U.blind, ks_recv hK hW (ks_v11 (ks_v10 (j := 0) v0.2.1 (hE 10 rfl)).2.1 (ks_in_lt hi3) (hE 11 rfl)) (ks_c11 cy ad o a0 (x1.toNatClampNeg) _) rfl, fun U hU hWm => ⟨rfl, hU0.now hS hW hWm.alike hU⟩⟩ rfl rfl hl.1 rfl (lv_room (Nat.le_of_ble_eq_true rfl)) dX3_isOuter_18 ⟨(Nat.le_of_ble_eq_true rfl), (Nat.le_of_ble_eq_true rfl)⟩) hS (fun H locs hW hS => ?_)
      refine lv_if_eq (tgt := 28) hx hb dX3_isOuter_21 (by decide) (fun c7 => ?_) (fun c7 => ?_)
      · rw [if_pos c7] at hf
        refine lv_iconst (v := 0) hx hb dX3_isOuter_28 (by decide) ?_
        exact ks_zret C rfl hf hW hS dX3_isOuter_29
      · rw [if_neg c7] at hf
        refine lv_iconst (v := 1) hx hb dX3_isOuter_24 (by decide) ?_
        refine lv_goto (tgt := 29) hx hb dX3_isOuter_25 (by decide) ?_
        exact ks_zret C rfl hf hW hS dX3_isOuter_29
set_option maxHeartbeats 4000000 in
set_option maxRecDepth 100000 in
theorem m_X3_isOuter (l : Launch) (D : va_G) (cy : Nat → ClassId) (ad : ks_A) (En : Nat → Prop) (n0 : Nat → Prop) (hG : ks_G ad En n0) (hE : ∀ k, ks_g k = 0 → En k) (o : Int64) {σ : ks_S} {a0 : Nat} {x1 : Int32} (v0 : ks_v En 8 a0 0) {out : (Int32 × ks_S)} (hf : f_X3_isOuter σ a0 x1 = some out) : Met l yX3_isOuter wsX3_isOuter (ks_Rm 1 0 0 20) (va_Pc [.ref (ad 8 a0 0), .int x1] (ks_U D cy ad En n0 σ o)) (ks_Qi D cy ad En n0 o out) 0 0 (ks_F n0) := by
  refine Met.ofW (cc := cX3_isOuter) (maxL := 2) (ret := some .boolean) (by decide) rfl ?_
  intro p e s m args below meth c s₁ B hml hv
  obtain ⟨rfl, hU⟩ := hv
  have hl := lv_entry ([.ref (ad 8 a0 0), .int x1]) (n := 2) (Nat.le_of_ble_eq_true rfl)
  rw [lg_entry_eq]
  generalize (lg_sl ([.ref (ad 8 a0 0), .int x1]) ++ List.replicate (2 - (lg_sl ([.ref (ad 8 a0 0), .int x1])).length) Slot.unset).toArray = ls at hl ⊢
  exact t_X3_isOuter ⟨B.exec, B.bytes, hml, B.returns, findClass_of_methodNamed B.named, atoms_spec (ws := wsX3_isOuter) B.pre, B.notSynchronized, hG, hU, hE⟩ v0 hf hU.2.1 va_S.rf hl

/-! SpinKernel$Task.greatestAfter()I -/
def f_X3_greatestAfter_4 (N : Nat) : Nat → ks_S → Nat → Int32 → Int32 → Option (Int32 × ks_S)
  | 0, _, _, _, _ => none
  | n + 1, σ, a0, x1, x2 => (if ((σ 8 a0 0 7)) ≤ x2 then some (x1, σ) else (if ks_in x2 6 = true then ((f_X1_isOuter σ a0 ((x2.toNatClampNeg))).bind fun (r5, s4) => (if r5 = 0 then f_X3_greatestAfter_4 N n s4 a0 x1 ((x2 + 1)) else (if ks_in x2 6 = true then f_X3_greatestAfter_4 N n s4 a0 ((s4 11 a0 ((x2.toNatClampNeg)) 0)) ((x2 + 1)) else none))) else none))
def f_X3_greatestAfter (N : Nat) (σ : ks_S) (a0 : Nat) : Option (Int32 × ks_S) :=
  f_X3_greatestAfter_4 N N σ a0 0 0
theorem in_X3_greatestAfter_1 : ∀ w ∈ wsX10, w ∈ wsX3_greatestAfter := by decide +kernel
theorem in_X3_greatestAfter_3 : ∀ w ∈ wsX30, w ∈ wsX3_greatestAfter := by decide +kernel
set_option maxHeartbeats 4000000 in
set_option maxRecDepth 100000 in
theorem t_X3_greatestAfter_4 {p : Program} {l : Launch} {e : Env} {s : State} {m : MethodId} {args : Array Value} {below : List Frame} {meth : Method} {c : Code} {D : va_G} {cy : Nat → ClassId} {ad : ks_A} {En : Nat → Prop} {n0 : Nat → Prop} {σ0 : ks_S} {o : Int64} {N : Nat} {out : (Int32 × ks_S)} (C : ks_M p s m args meth c D cy ad En (fun k => ks_g k = 0) n0 σ0 o wsX3_greatestAfter cX3_greatestAfter RX3 3 (some .int)) : ∀ (n : Nat) (σ : ks_S) (a0 : Nat) (x1 : Int32) (x2 : Int32), ks_v En 8 a0 0 → f_X3_greatestAfter_4 N n σ a0 x1 x2 = some out → ∀ {H : Heap} {locs : List Loc} {ls : Array Slot}, ks_W D cy ad En σ o H → va_S (ks_F n0) s.heap H locs → lv_has ls 3 [(0, .ref (ad 8 a0 0)), (1, .int x1), (2, .int x2)] → W p l e (ks_Rm 1 0 0 20) s m args below meth c H locs 0 0 (MQ below (ks_Qi D cy ad En n0 o out) args s 0 0 (ks_F n0)) (F0 m 4 ls []) := by
  obtain ⟨hx, hb, hml, hr, hown, hts, hlocks, hG, hU0, hE⟩ := id C
  have hK := hU0.2.2
  intro n
  induction n with
  | zero => intro σ a0 x1 x2; intro v0 hf; exact absurd hf (by simp [f_X3_greatestAfter_4])
  | succ n hk4 =>
    intro σ a0 x1 x2 v0 hf H locs ls hW hS hl
    rw [f_X3_greatestAfter_4] at hf
    refine lv_iload_n hx hb dX3_greatestAfter_4 rfl (lv_at hl 2 rfl) ?_
    refine lv_aload_n hx hb dX3_greatestAfter_5 rfl (lv_at hl 0 rfl) ?_
    refine va_get (D := D) (ci := 3) (v := .int (σ 8 a0 0 7)) (C := RX3) (T := TX3) (N := 10) hx hb hts in_X3_greatestAfter_3 hown hK (ks_P1 hW v0 (ks_c8 cy ad o a0 0 _)) 0 rfl rfl 7 (by decide) (hts (.fieldLink RX3 45 "SpinKernel$Task" "count" "I") (by decide +kernel)) (fun _ h => h) rfl dX3_greatestAfter_6 ?_
    refine lv_icmp_ge (tgt := 40) hx hb dX3_greatestAfter_9 (by decide) (fun c1 => ?_) (fun c1 => ?_)
    · rw [if_pos c1] at hf
      refine lv_iload_n hx hb dX3_greatestAfter_40 rfl (lv_at hl 1 rfl) ?_
      exact ks_iret C hf hW hS dX3_greatestAfter_41
    · rw [if_neg c1] at hf
      refine lv_aload_n hx hb dX3_greatestAfter_12 rfl (lv_at hl 0 rfl) ?_
      refine va_get (D := D) (ci := 3) (v := .ref (ad 10 a0 0)) (C := RX3) (T := TX3) (N := 10) hx hb hts in_X3_greatestAfter_3 hown hK (ks_P1 hW v0 (ks_c8 cy ad o a0 0 _)) 0 rfl rfl 8 (by decide) (hts (.fieldLink RX3 11 "SpinKernel$Task" "requests" "[LSpinKernel$Request;") (by decide +kernel)) (fun _ h => h) rfl dX3_greatestAfter_13 ?_
      refine lv_iload_n hx hb dX3_greatestAfter_16 rfl (lv_at hl 2 rfl) ?_
      obtain ⟨hi2, hf⟩ := ks_guard hf
      refine ks_aald hx hb hK hW (ks_v10 (j := 0) v0.2.1 (hE 10 rfl)) 5 (ks_c10 cy ad o a0 0 _) rfl rfl hi2 dX3_greatestAfter_17 ?_
      obtain ⟨⟨r5, s4⟩, hc3, hf⟩ := ks_bind hf
      try dsimp only at hf
      refine ks_calli (va_runV (As := []) (rest := []) ⟨hx, hb, hml, hown, hts⟩ (m_X1_isOuter l D cy ad En n0 hG hE o (ks_v11 (ks_v10 (j := 0) v0.2.1 (hE 10 rfl)).2.1 (ks_in_lt hi2) (hE 11 rfl)) hc3) (cwV 0 hts gX3_greatestAfter_X1_isOuter rfl rfl rfl (by decide +kernel) ⟨(Nat.le_of_ble_eq_true rfl), (Nat.le_of_ble_eq_true rfl)⟩) ⟨ks_U.blind, ks_recv hK hW (ks_v11 (ks_v10 (j := 0) v0.2.1 (hE 10 rfl)).2.1 (ks_in_lt hi2) (hE 11 rfl)) (ks_c11 cy ad o a0 (x2.toNatClampNeg) _) rfl, fun U hU hWm => ⟨rfl, hU0.now hS hW hWm.alike hU⟩⟩ rfl rfl hl.1 rfl (lv_room (Nat.le_of_ble_eq_true rfl)) dX3_greatestAfter_18 ⟨(Nat.le_of_ble_eq_true rfl), (Nat.le_of_ble_eq_true rfl)⟩) hS (fun H locs hW hS => ?_)
      refine lv_if_eq (tgt := 34) hx hb dX3_greatestAfter_21 (by decide) (fun c6 => ?_) (fun c6 => ?_)
      · rw [if_pos c6] at hf
        refine lv_iinc (v := (x2 + 1)) (lv' := [(2, .int (x2 + 1)), (0, .ref (ad 8 a0 0)), (1, .int x1)]) hx hb dX3_greatestAfter_34 hl (k := 2) rfl rfl (by decide) rfl (fun ls hl => ?_)
        refine lv_goto (tgt := 4) hx hb dX3_greatestAfter_37 (by decide) ?_
        exact hk4 _ _ _ _ v0 hf hW hS (lv_sub hl [1, 2, 0] rfl)
      · rw [if_neg c6] at hf
        refine lv_aload_n hx hb dX3_greatestAfter_24 rfl (lv_at hl 0 rfl) ?_
        refine va_get (D := D) (ci := 3) (v := .ref (ad 10 a0 0)) (C := RX3) (T := TX3) (N := 10) hx hb hts in_X3_greatestAfter_3 hown hK (ks_P1 hW v0 (ks_c8 cy ad o a0 0 _)) 0 rfl rfl 8 (by decide) (hts (.fieldLink RX3 11 "SpinKernel$Task" "requests" "[LSpinKernel$Request;") (by decide +kernel)) (fun _ h => h) rfl dX3_greatestAfter_25 ?_
        refine lv_iload_n hx hb dX3_greatestAfter_28 rfl (lv_at hl 2 rfl) ?_
        obtain ⟨hi7, hf⟩ := ks_guard hf
        refine ks_aald hx hb hK hW (ks_v10 (j := 0) v0.2.1 (hE 10 rfl)) 5 (ks_c10 cy ad o a0 0 _) rfl rfl hi7 dX3_greatestAfter_29 ?_
        refine va_get (D := D) (ci := 1) (v := .int (s4 11 a0 ((x2.toNatClampNeg)) 0)) (C := RX1) (T := TX1) (N := 8) hx hb hts in_X3_greatestAfter_1 hown hK (ks_P1 hW (ks_v11 (ks_v10 (j := 0) v0.2.1 (hE 10 rfl)).2.1 (ks_in_lt hi7) (hE 11 rfl)) (ks_c11 cy ad o a0 (x2.toNatClampNeg) _)) 0 rfl rfl 0 (by decide) (hts (.fieldLink RX3 62 "SpinKernel$Request" "after" "I") (by decide +kernel)) (fun _ h => h) rfl dX3_greatestAfter_30 ?_
        refine lv_istore_n (lv' := [(1, .int (s4 11 a0 ((x2.toNatClampNeg)) 0)), (0, .ref (ad 8 a0 0)), (2, .int x2)]) hx hb dX3_greatestAfter_33 rfl hl (by decide) rfl (fun ls hl => ?_)
        refine lv_iinc (v := (x2 + 1)) (lv' := [(2, .int (x2 + 1)), (1, .int (s4 11 a0 ((x2.toNatClampNeg)) 0)), (0, .ref (ad 8 a0 0))]) hx hb dX3_greatestAfter_34 hl (k := 2) rfl rfl (by decide) rfl (fun ls hl => ?_)
        refine lv_goto (tgt := 4) hx hb dX3_greatestAfter_37 (by decide) ?_
        exact hk4 _ _ _ _ v0 hf hW hS (lv_sub hl [2, 1, 0] rfl)
set_option maxHeartbeats 4000000 in
set_option maxRecDepth 100000 in
theorem t_X3_greatestAfter {p : Program} {l : Launch} {e : Env} {s : State} {m : MethodId} {args : Array Value} {below : List Frame} {meth : Method} {c : Code} {D : va_G} {cy : Nat → ClassId} {ad : ks_A} {En : Nat → Prop} {n0 : Nat → Prop} {σ0 : ks_S} {o : Int64} {N : Nat} {out : (Int32 × ks_S)} (C : ks_M p s m args meth c D cy ad En (fun k => ks_g k = 0) n0 σ0 o wsX3_greatestAfter cX3_greatestAfter RX3 3 (some .int)) {σ : ks_S} {a0 : Nat} (v0 : ks_v En 8 a0 0) (hf : f_X3_greatestAfter N σ a0 = some out) {H : Heap} {locs : List Loc} {ls : Array Slot} (hW : ks_W D cy ad En σ o H) (hS : va_S (ks_F n0) s.heap H locs) (hl : lv_has ls 3 [(0, .ref (ad 8 a0 0))]) : W p l e (ks_Rm 1 0 0 20) s m args below meth c H locs 0 0 (MQ below (ks_Qi D cy ad En n0 o out) args s 0 0 (ks_F n0)) (F0 m 0 ls []) := by
  obtain ⟨hx, hb, hml, hr, hown, hts, hlocks, hG, hU0, hE⟩ := id C
  have hK := hU0.2.2
  unfold f_X3_greatestAfter at hf
  refine lv_iconst (v := 0) hx hb dX3_greatestAfter_0 (by decide) ?_
  refine lv_istore_n (lv' := [(1, .int 0), (0, .ref (ad 8 a0 0))]) hx hb dX3_greatestAfter_1 rfl hl (by decide) rfl (fun ls hl => ?_)
  refine lv_iconst (v := 0) hx hb dX3_greatestAfter_2 (by decide) ?_
  refine lv_istore_n (lv' := [(2, .int 0), (1, .int 0), (0, .ref (ad 8 a0 0))]) hx hb dX3_greatestAfter_3 rfl hl (by decide) rfl (fun ls hl => ?_)
  exact t_X3_greatestAfter_4 C _ _ _ _ _ v0 hf hW hS (lv_sub hl [2, 1, 0] rfl)
set_option maxHeartbeats 4000000 in
set_option maxRecDepth 100000 in
theorem m_X3_greatestAfter (l : Launch) (D : va_G) (cy : Nat → ClassId) (ad : ks_A) (En : Nat → Prop) (n0 : Nat → Prop) (hG : ks_G ad En n0) (hE : ∀ k, ks_g k = 0 → En k) (o : Int64) {N : Nat} {σ : ks_S} {a0 : Nat} (v0 : ks_v En 8 a0 0) {out : (Int32 × ks_S)} (hf : f_X3_greatestAfter N σ a0 = some out) : Met l yX3_greatestAfter wsX3_greatestAfter (ks_Rm 1 0 0 20) (va_Pc [.ref (ad 8 a0 0)] (ks_U D cy ad En n0 σ o)) (ks_Qi D cy ad En n0 o out) 0 0 (ks_F n0) := by
  refine Met.ofW (cc := cX3_greatestAfter) (maxL := 3) (ret := some .int) (by decide) rfl ?_
  intro p e s m args below meth c s₁ B hml hv
  obtain ⟨rfl, hU⟩ := hv
  have hl := lv_entry ([.ref (ad 8 a0 0)]) (n := 3) (Nat.le_of_ble_eq_true rfl)
  rw [lg_entry_eq]
  generalize (lg_sl ([.ref (ad 8 a0 0)]) ++ List.replicate (3 - (lg_sl ([.ref (ad 8 a0 0)])).length) Slot.unset).toArray = ls at hl ⊢
  exact t_X3_greatestAfter ⟨B.exec, B.bytes, hml, B.returns, findClass_of_methodNamed B.named, atoms_spec (ws := wsX3_greatestAfter) B.pre, B.notSynchronized, hG, hU, hE⟩ v0 hf hU.2.1 va_S.rf hl

/-! SpinKernel$Task.hasPlaceFor(III)Z -/
def f_X3_hasPlaceFor (N : Nat) (σ : ks_S) (a0 : Nat) (x1 : Int32) (x2 : Int32) (x3 : Int32) : Option (Int32 × ks_S) :=
  (if x3 = ((-1)) then ((f_X3_greatestAfter N σ a0).bind fun (r11, s10) => (if x1 < r11 then some (0, s10) else (if ((s10 8 a0 0 5)) < x1 then some (0, s10) else some (1, s10)))) else ((f_X3_isOuter σ a0 x3).bind fun (r4, s3) => (if r4 = 0 then some (0, s3) else (if x1 < 0 then some (0, s3) else (if ks_in x3 6 = true then (if ((((s3 11 a0 ((x3.toNatClampNeg)) 2)) - x2)) < x1 then some (0, s3) else some (1, s3)) else none)))))
theorem in_X3_hasPlaceFor_1 : ∀ w ∈ wsX10, w ∈ wsX3_hasPlaceFor := by decide +kernel
theorem in_X3_hasPlaceFor_3 : ∀ w ∈ wsX30, w ∈ wsX3_hasPlaceFor := by decide +kernel
set_option maxHeartbeats 4000000 in
set_option maxRecDepth 100000 in
theorem t_X3_hasPlaceFor {p : Program} {l : Launch} {e : Env} {s : State} {m : MethodId} {args : Array Value} {below : List Frame} {meth : Method} {c : Code} {D : va_G} {cy : Nat → ClassId} {ad : ks_A} {En : Nat → Prop} {n0 : Nat → Prop} {σ0 : ks_S} {o : Int64} {N : Nat} {out : (Int32 × ks_S)} (C : ks_M p s m args meth c D cy ad En (fun k => ks_g k = 0) n0 σ0 o wsX3_hasPlaceFor cX3_hasPlaceFor RX3 4 (some .boolean)) {σ : ks_S} {a0 : Nat} {x1 : Int32} {x2 : Int32} {x3 : Int32} (v0 : ks_v En 8 a0 0) (hf : f_X3_hasPlaceFor N σ a0 x1 x2 x3 = some out) {H : Heap} {locs : List Loc} {ls : Array Slot} (hW : ks_W D cy ad En σ o H) (hS : va_S (ks_F n0) s.heap H locs) (hl : lv_has ls 4 [(0, .ref (ad 8 a0 0)), (1, .int x1), (2, .int x2), (3, .int x3)]) : W p l e (ks_Rm 2 0 0 42) s m args below meth c H locs 0 0 (MQ below (ks_Qi D cy ad En n0 o out) args s 0 0 (ks_F n0)) (F0 m 0 ls []) := by
  obtain ⟨hx, hb, hml, hr, hown, hts, hlocks, hG, hU0, hE⟩ := id C
  have hK := hU0.2.2
  unfold f_X3_hasPlaceFor at hf
  refine lv_iload_n hx hb dX3_hasPlaceFor_0 rfl (lv_at hl 3 rfl) ?_
  refine lv_iconst (v := (-1)) hx hb dX3_hasPlaceFor_1 (by decide) ?_
  refine lv_icmp_ne (tgt := 27) hx hb dX3_hasPlaceFor_2 (by decide) (fun c1 => ?_) (fun c1 => ?_)
  · rw [if_neg c1] at hf
    refine lv_aload_n hx hb dX3_hasPlaceFor_27 rfl (lv_at hl 0 rfl) ?_
    refine lv_iload_n hx hb dX3_hasPlaceFor_28 rfl (lv_at hl 3 rfl) ?_
    obtain ⟨⟨r4, s3⟩, hc2, hf⟩ := ks_bind hf
    try dsimp only at hf
    refine ks_calli (va_runV (As := [.int x3]) (rest := []) ⟨hx, hb, hml, hown, hts⟩ (m_X3_isOuter l D cy ad En n0 hG hE o v0 hc2) (cwV 1 hts gX3_hasPlaceFor_X3_isOuter rfl rfl rfl (by decide +kernel) ⟨(Nat.le_of_ble_eq_true rfl), (Nat.le_of_ble_eq_true rfl)⟩) ⟨ks_U.blind, ks_recv hK hW v0 (ks_c8 cy ad o a0 0 _) rfl, fun U hU hWm => ⟨rfl, hU0.now hS hW hWm.alike hU⟩⟩ rfl rfl hl.1 rfl (lv_room (Nat.le_of_ble_eq_true rfl)) dX3_hasPlaceFor_29 ⟨(Nat.le_of_ble_eq_true rfl), (Nat.le_of_ble_eq_true rfl)⟩) hS (fun H locs hW hS => ?_)
    refine lv_if_eq (tgt := 58) hx hb dX3_hasPlaceFor_32 (by decide) (fun c5 => ?_) (fun c5 => ?_)
    · rw [if_pos c5] at hf
      refine lv_iconst (v := 0) hx hb dX3_hasPlaceFor_58 (by decide) ?_
      exact ks_zret C rfl hf hW hS dX3_hasPlaceFor_59
    · rw [if_neg c5] at hf
      refine lv_iload_n hx hb dX3_hasPlaceFor_35 rfl (lv_at hl 1 rfl) ?_
      refine lv_if_lt (tgt := 58) hx hb dX3_hasPlaceFor_36 (by decide) (fun c6 => ?_) (fun c6 => ?_)
      · rw [if_pos c6] at hf
        refine lv_iconst (v := 0) hx hb dX3_hasPlaceFor_58 (by decide) ?_
        exact ks_zret C rfl hf hW hS dX3_hasPlaceFor_59
      · rw [if_neg c6] at hf
        refine lv_iload_n hx hb dX3_hasPlaceFor_39 rfl (lv_at hl 1 rfl) ?_
        refine lv_aload_n hx hb dX3_hasPlaceFor_40 rfl (lv_at hl 0 rfl) ?_
        refine va_get (D := D) (ci := 3) (v := .ref (ad 10 a0 0)) (C := RX3) (T := TX3) (N := 10) hx hb hts in_X3_hasPlaceFor_3 hown hK (ks_P1 hW v0 (ks_c8 cy ad o a0 0 _)) 0 rfl rfl 8 (by decide) (hts (.fieldLink RX3 11 "SpinKernel$Task" "requests" "[LSpinKernel$Request;") (by decide +kernel)) (fun _ h => h) rfl dX3_hasPlaceFor_41 ?_
        refine lv_iload_n hx hb dX3_hasPlaceFor_44 rfl (lv_at hl 3 rfl) ?_
        obtain ⟨hi7, hf⟩ := ks_guard hf
        refine ks_aald hx hb hK hW (ks_v10 (j := 0) v0.2.1 (hE 10 rfl)) 5 (ks_c10 cy ad o a0 0 _) rfl rfl hi7 dX3_hasPlaceFor_45 ?_
        refine va_get (D := D) (ci := 1) (v := .int (s3 11 a0 ((x3.toNatClampNeg)) 2)) (C := RX1) (T := TX1) (N := 8) hx hb hts in_X3_hasPlaceFor_1 hown hK (ks_P1 hW (ks_v11 (ks_v10 (j := 0) v0.2.1 (hE 10 rfl)).2.1 (ks_in_lt hi7) (hE 11 rfl)) (ks_c11 cy ad o a0 (x3.toNatClampNeg) _)) 0 rfl rfl 2 (by decide) (hts (.fieldLink RX3 59 "SpinKernel$Request" "length" "I") (by decide +kernel)) (fun _ h => h) rfl dX3_hasPlaceFor_46 ?_
        refine lv_iload_n hx hb dX3_hasPlaceFor_49 rfl (lv_at hl 2 rfl) ?_
        refine lv_isub hx hb dX3_hasPlaceFor_50 ?_
        refine lv_icmp_gt (tgt := 58) hx hb dX3_hasPlaceFor_51 (by decide) (fun c8 => ?_) (fun c8 => ?_)
        · rw [if_pos c8] at hf
          refine lv_iconst (v := 0) hx hb dX3_hasPlaceFor_58 (by decide) ?_
          exact ks_zret C rfl hf hW hS dX3_hasPlaceFor_59
        · rw [if_neg c8] at hf
          refine lv_iconst (v := 1) hx hb dX3_hasPlaceFor_54 (by decide) ?_
          refine lv_goto (tgt := 59) hx hb dX3_hasPlaceFor_55 (by decide) ?_
          exact ks_zret C rfl hf hW hS dX3_hasPlaceFor_59
  · rw [if_pos c1] at hf
    refine lv_iload_n hx hb dX3_hasPlaceFor_5 rfl (lv_at hl 1 rfl) ?_
    refine lv_aload_n hx hb dX3_hasPlaceFor_6 rfl (lv_at hl 0 rfl) ?_
    obtain ⟨⟨r11, s10⟩, hc9, hf⟩ := ks_bind hf
    try dsimp only at hf
    refine ks_calli (va_runV (As := []) (rest := [.int x1]) ⟨hx, hb, hml, hown, hts⟩ (m_X3_greatestAfter l D cy ad En n0 hG hE o v0 hc9) (cwV 0 hts gX3_hasPlaceFor_X3_greatestAfter rfl rfl rfl (by decide +kernel) ⟨(Nat.le_of_ble_eq_true rfl), (Nat.le_of_ble_eq_true rfl)⟩) ⟨ks_U.blind, ks_recv hK hW v0 (ks_c8 cy ad o a0 0 _) rfl, fun U hU hWm => ⟨rfl, hU0.now hS hW hWm.alike hU⟩⟩ rfl rfl hl.1 rfl (lv_room (Nat.le_of_ble_eq_true rfl)) dX3_hasPlaceFor_7 ⟨(Nat.le_of_ble_eq_true rfl), (Nat.le_of_ble_eq_true rfl)⟩) hS (fun H locs hW hS => ?_)
    refine lv_icmp_lt (tgt := 25) hx hb dX3_hasPlaceFor_10 (by decide) (fun c12 => ?_) (fun c12 => ?_)
    · rw [if_pos c12] at hf
      refine lv_iconst (v := 0) hx hb dX3_hasPlaceFor_25 (by decide) ?_
      exact ks_zret C rfl hf hW hS dX3_hasPlaceFor_26
    · rw [if_neg c12] at hf
      refine lv_iload_n hx hb dX3_hasPlaceFor_13 rfl (lv_at hl 1 rfl) ?_
      refine lv_aload_n hx hb dX3_hasPlaceFor_14 rfl (lv_at hl 0 rfl) ?_
      refine va_get (D := D) (ci := 3) (v := .int (s10 8 a0 0 5)) (C := RX3) (T := TX3) (N := 10) hx hb hts in_X3_hasPlaceFor_3 hown hK (ks_P1 hW v0 (ks_c8 cy ad o a0 0 _)) 0 rfl rfl 5 (by decide) (hts (.fieldLink RX3 42 "SpinKernel$Task" "work" "I") (by decide +kernel)) (fun _ h => h) rfl dX3_hasPlaceFor_15 ?_
      refine lv_icmp_gt (tgt := 25) hx hb dX3_hasPlaceFor_18 (by decide) (fun c13 => ?_) (fun c13 => ?_)
      · rw [if_pos c13] at hf
        refine lv_iconst (v := 0) hx hb dX3_hasPlaceFor_25 (by decide) ?_
        exact ks_zret C rfl hf hW hS dX3_hasPlaceFor_26
      · rw [if_neg c13] at hf
        refine lv_iconst (v := 1) hx hb dX3_hasPlaceFor_21 (by decide) ?_
        refine lv_goto (tgt := 26) hx hb dX3_hasPlaceFor_22 (by decide) ?_
        exact ks_zret C rfl hf hW hS dX3_hasPlaceFor_26
set_option maxHeartbeats 4000000 in
set_option maxRecDepth 100000 in
theorem m_X3_hasPlaceFor (l : Launch) (D : va_G) (cy : Nat → ClassId) (ad : ks_A) (En : Nat → Prop) (n0 : Nat → Prop) (hG : ks_G ad En n0) (hE : ∀ k, ks_g k = 0 → En k) (o : Int64) {N : Nat} {σ : ks_S} {a0 : Nat} {x1 : Int32} {x2 : Int32} {x3 : Int32} (v0 : ks_v En 8 a0 0) {out : (Int32 × ks_S)} (hf : f_X3_hasPlaceFor N σ a0 x1 x2 x3 = some out) : Met l yX3_hasPlaceFor wsX3_hasPlaceFor (ks_Rm 2 0 0 42) (va_Pc [.ref (ad 8 a0 0), .int x1, .int x2, .int x3] (ks_U D cy ad En n0 σ o)) (ks_Qi D cy ad En n0 o out) 0 0 (ks_F n0) := by
  refine Met.ofW (cc := cX3_hasPlaceFor) (maxL := 4) (ret := some .boolean) (by decide) rfl ?_
  intro p e s m args below meth c s₁ B hml hv
  obtain ⟨rfl, hU⟩ := hv
  have hl := lv_entry ([.ref (ad 8 a0 0), .int x1, .int x2, .int x3]) (n := 4) (Nat.le_of_ble_eq_true rfl)
  rw [lg_entry_eq]
  generalize (lg_sl ([.ref (ad 8 a0 0), .int x1, .int x2, .int x3]) ++ List.replicate (4 - (lg_sl ([.ref (ad 8 a0 0), .int x1, .int x2, .int x3])).length) Slot.unset).toArray = ls at hl ⊢
  exact t_X3_hasPlaceFor ⟨B.exec, B.bytes, hml, B.returns, findClass_of_methodNamed B.named, atoms_spec (ws := wsX3_hasPlaceFor) B.pre, B.notSynchronized, hG, hU, hE⟩ v0 hf hU.2.1 va_S.rf hl

/-! SpinKernel$Task.addRequest(IIII)I -/
def f_X3_addRequest (σ : ks_S) (a0 : Nat) (x1 : Int32) (x2 : Int32) (x3 : Int32) (x4 : Int32) : Option (Int32 × ks_S) :=
  (if ks_in ((σ 8 a0 0 7)) 6 = true then ((f_X1_layDown σ a0 ((((σ 8 a0 0 7)).toNatClampNeg)) x1 x2 x3 x4).bind fun s3 => some ((σ 8 a0 0 7), (ks_up s3 8 a0 0 7 ((((s3 8 a0 0 7)) + 1))))) else none)
theorem in_X3_addRequest_3 : ∀ w ∈ wsX30, w ∈ wsX3_addRequest := by decide +kernel
set_option maxHeartbeats 4000000 in
set_option maxRecDepth 100000 in
theorem t_X3_addRequest {p : Program} {l : Launch} {e : Env} {s : State} {m : MethodId} {args : Array Value} {below : List Frame} {meth : Method} {c : Code} {D : va_G} {cy : Nat → ClassId} {ad : ks_A} {En : Nat → Prop} {n0 : Nat → Prop} {σ0 : ks_S} {o : Int64} {out : (Int32 × ks_S)} (C : ks_M p s m args meth c D cy ad En (fun k => ks_g k = 0) n0 σ0 o wsX3_addRequest cX3_addRequest RX3 6 (some .int)) {σ : ks_S} {a0 : Nat} {x1 : Int32} {x2 : Int32} {x3 : Int32} {x4 : Int32} (v0 : ks_v En 8 a0 0) (hf : f_X3_addRequest σ a0 x1 x2 x3 x4 = some out) {H : Heap} {locs : List Loc} {ls : Array Slot} (hW : ks_W D cy ad En σ o H) (hS : va_S (ks_F n0) s.heap H locs) (hl : lv_has ls 6 [(0, .ref (ad 8 a0 0)), (1, .int x1), (2, .int x2), (3, .int x3), (4, .int x4)]) : W p l e (ks_Rm 1 0 0 24) s m args below meth c H locs 0 0 (MQ below (ks_Qi D cy ad En n0 o out) args s 0 0 (ks_F n0)) (F0 m 0 ls []) := by
  obtain ⟨hx, hb, hml, hr, hown, hts, hlocks, hG, hU0, hE⟩ := id C
  have hK := hU0.2.2
  unfold f_X3_addRequest at hf
  refine lv_aload_n hx hb dX3_addRequest_0 rfl (lv_at hl 0 rfl) ?_
  refine va_get (D := D) (ci := 3) (v := .int (σ 8 a0 0 7)) (C := RX3) (T := TX3) (N := 10) hx hb hts in_X3_addRequest_3 hown hK (ks_P1 hW v0 (ks_c8 cy ad o a0 0 _)) 0 rfl rfl 7 (by decide) (hts (.fieldLink RX3 45 "SpinKernel$Task" "count" "I") (by decide +kernel)) (fun _ h => h) rfl dX3_addRequest_1 ?_
  refine lv_istore (lv' := [(5, .int (σ 8 a0 0 7)), (0, .ref (ad 8 a0 0)), (1, .int x1), (2, .int x2), (3, .int x3), (4, .int x4)]) hx hb dX3_addRequest_4 hl (by decide) rfl (fun ls hl => ?_)
  refine lv_aload_n hx hb dX3_addRequest_6 rfl (lv_at hl 1 rfl) ?_
  refine va_get (D := D) (ci := 3) (v := .ref (ad 10 a0 0)) (C := RX3) (T := TX3) (N := 10) hx hb hts in_X3_addRequest_3 hown hK (ks_P1 hW v0 (ks_c8 cy ad o a0 0 _)) 0 rfl rfl 8 (by decide) (hts (.fieldLink RX3 11 "SpinKernel$Task" "requests" "[LSpinKernel$Request;") (by decide +kernel)) (fun _ h => h) rfl dX3_addRequest_7 ?_
  refine lv_iload hx hb dX3_addRequest_10 (lv_at hl 0 rfl) ?_
  obtain ⟨hi1, hf⟩ := ks_guard hf
  refine ks_aald hx hb hK hW (ks_v10 (j := 0) v0.2.1 (hE 10 rfl)) 5 (ks_c10 cy ad o a0 0 _) rfl rfl hi1 dX3_addRequest_12 ?_
  refine lv_iload_n hx hb dX3_addRequest_13 rfl (lv_at hl 2 rfl) ?_
  refine lv_iload_n hx hb dX3_addRequest_14 rfl (lv_at hl 3 rfl) ?_
  refine lv_iload_n hx hb dX3_addRequest_15 rfl (lv_at hl 4 rfl) ?_
  refine lv_iload hx hb dX3_addRequest_16 (lv_at hl 5 rfl) ?_
  obtain ⟨s3, hc2, hf⟩ := ks_bind hf
  try dsimp only at hf
  refine ks_callv (va_runV (As := [.int x1, .int x2, .int x3, .int x4]) (rest := []) ⟨hx, hb, hml, hown, hts⟩ (m_X1_layDown l D cy ad En n0 hG hE o (ks_v11 (ks_v10 (j := 0) v0.2.1 (hE 10 rfl)).2.1 (ks_in_lt hi1) (hE 11 rfl)) hc2) (cwV 4 hts gX3_addRequest_X1_layDown rfl rfl rfl (by decide +kernel) ⟨(Nat.le_of_ble_eq_true rfl), (Nat.le_of_ble_eq_true rfl)⟩) ⟨ks_U.blind, ks_recv hK hW (ks_v11 (ks_v10 (j := 0) v0.2.1 (hE 10 rfl)).2.1 (ks_in_lt hi1) (hE 11 rfl)) (ks_c11 cy ad o a0 (((σ 8 a0 0 7)).toNatClampNeg) _) rfl, fun U hU hWm => ⟨rfl, hU0.now hS hW hWm.alike hU⟩⟩ rfl rfl hl.1 rfl (lv_room (Nat.le_of_ble_eq_true rfl)) dX3_addRequest_18 ⟨(Nat.le_of_ble_eq_true rfl), (Nat.le_of_ble_eq_true rfl)⟩) hS (fun H locs hW hS => ?_)
  refine lv_aload_n hx hb dX3_addRequest_21 rfl (lv_at hl 1 rfl) ?_
  refine lv_dup hx hb dX3_addRequest_22 rfl ?_
  refine va_get (D := D) (ci := 3) (v := .int (s3 8 a0 0 7)) (C := RX3) (T := TX3) (N := 10) hx hb hts in_X3_addRequest_3 hown hK (ks_P1 hW v0 (ks_c8 cy ad o a0 0 _)) 0 rfl rfl 7 (by decide) (hts (.fieldLink RX3 45 "SpinKernel$Task" "count" "I") (by decide +kernel)) (fun _ h => h) rfl dX3_addRequest_23 ?_
  refine lv_iconst (v := 1) hx hb dX3_addRequest_26 (by decide) ?_
  refine lv_iadd hx hb dX3_addRequest_27 ?_
  refine ks_put (D := D) (ci := 3) (C := RX3) (T := TX3) (N := 10) hx hb hts in_X3_addRequest_3 tyX3 tyX3_ok nmX3 hown hK hG hW hS v0 7 (v := (((s3 8 a0 0 7)) + 1)) (ks_c8 cy ad o a0 0 _) (ks_c8s7 cy ad o a0 0 _ _) rfl (by decide) (hts (.fieldLink RX3 45 "SpinKernel$Task" "count" "I") (by decide +kernel)) rfl (ty := .int) (by decide +kernel) rfl rfl (Nat.le_of_ble_eq_true rfl) dX3_addRequest_28 (fun H locs hW hS => ?_)
  refine lv_iload hx hb dX3_addRequest_31 (lv_at hl 0 rfl) ?_
  exact ks_iret C hf hW hS dX3_addRequest_33
set_option maxHeartbeats 4000000 in
set_option maxRecDepth 100000 in
theorem m_X3_addRequest (l : Launch) (D : va_G) (cy : Nat → ClassId) (ad : ks_A) (En : Nat → Prop) (n0 : Nat → Prop) (hG : ks_G ad En n0) (hE : ∀ k, ks_g k = 0 → En k) (o : Int64) {σ : ks_S} {a0 : Nat} {x1 : Int32} {x2 : Int32} {x3 : Int32} {x4 : Int32} (v0 : ks_v En 8 a0 0) {out : (Int32 × ks_S)} (hf : f_X3_addRequest σ a0 x1 x2 x3 x4 = some out) : Met l yX3_addRequest wsX3_addRequest (ks_Rm 1 0 0 24) (va_Pc [.ref (ad 8 a0 0), .int x1, .int x2, .int x3, .int x4] (ks_U D cy ad En n0 σ o)) (ks_Qi D cy ad En n0 o out) 0 0 (ks_F n0) := by
  refine Met.ofW (cc := cX3_addRequest) (maxL := 6) (ret := some .int) (by decide) rfl ?_
  intro p e s m args below meth c s₁ B hml hv
  obtain ⟨rfl, hU⟩ := hv
  have hl := lv_entry ([.ref (ad 8 a0 0), .int x1, .int x2, .int x3, .int x4]) (n := 6) (Nat.le_of_ble_eq_true rfl)
  rw [lg_entry_eq]
  generalize (lg_sl ([.ref (ad 8 a0 0), .int x1, .int x2, .int x3, .int x4]) ++ List.replicate (6 - (lg_sl ([.ref (ad 8 a0 0), .int x1, .int x2, .int x3, .int x4])).length) Slot.unset).toArray = ls at hl ⊢
  exact t_X3_addRequest ⟨B.exec, B.bytes, hml, B.returns, findClass_of_methodNamed B.named, atoms_spec (ws := wsX3_addRequest) B.pre, B.notSynchronized, hG, hU, hE⟩ v0 hf hU.2.1 va_S.rf hl

/-! SpinKernel$Task.longestStay()I -/
def f_X3_longestStay_4 (N : Nat) : Nat → ks_S → Nat → Int32 → Int32 → Option (Int32 × ks_S)
  | 0, _, _, _, _ => none
  | n + 1, σ, a0, x1, x2 => (if ((σ 8 a0 0 7)) ≤ x2 then some (x1, σ) else (if ks_in x2 6 = true then ((f_X1_isOuter σ a0 ((x2.toNatClampNeg))).bind fun (r5, s4) => (if r5 = 0 then f_X3_longestStay_4 N n s4 a0 x1 ((x2 + 1)) else (if ks_in x2 6 = true then (if ks_in x2 6 = true then f_X3_longestStay_4 N n s4 a0 ((if x1 < ((((s4 11 a0 ((x2.toNatClampNeg)) 2)) + ((s4 11 a0 ((x2.toNatClampNeg)) 4)))) then ((((s4 11 a0 ((x2.toNatClampNeg)) 2)) + ((s4 11 a0 ((x2.toNatClampNeg)) 4)))) else x1)) ((x2 + 1)) else none) else none))) else none))
def f_X3_longestStay (N : Nat) (σ : ks_S) (a0 : Nat) : Option (Int32 × ks_S) :=
  f_X3_longestStay_4 N N σ a0 0 0
theorem in_X3_longestStay_1 : ∀ w ∈ wsX10, w ∈ wsX3_longestStay := by decide +kernel
theorem in_X3_longestStay_3 : ∀ w ∈ wsX30, w ∈ wsX3_longestStay := by decide +kernel
set_option maxHeartbeats 4000000 in
set_option maxRecDepth 100000 in
theorem t_X3_longestStay_4 {p : Program} {l : Launch} {e : Env} {s : State} {m : MethodId} {args : Array Value} {below : List Frame} {meth : Method} {c : Code} {D : va_G} {cy : Nat → ClassId} {ad : ks_A} {En : Nat → Prop} {n0 : Nat → Prop} {σ0 : ks_S} {o : Int64} {N : Nat} {out : (Int32 × ks_S)} (C : ks_M p s m args meth c D cy ad En (fun k => ks_g k = 0) n0 σ0 o wsX3_longestStay cX3_longestStay RX3 3 (some .int)) : ∀ (n : Nat) (σ : ks_S) (a0 : Nat) (x1 : Int32) (x2 : Int32), ks_v En 8 a0 0 → f_X3_longestStay_4 N n σ a0 x1 x2 = some out → ∀ {H : Heap} {locs : List Loc} {ls : Array Slot}, ks_W D cy ad En σ o H → va_S (ks_F n0) s.heap H locs → lv_has ls 3 [(0, .ref (ad 8 a0 0)), (1, .int x1), (2, .int x2)] → W p l e (ks_Rm 1 0 0 20) s m args below meth c H locs 0 0 (MQ below (ks_Qi D cy ad En n0 o out) args s 0 0 (ks_F n0)) (F0 m 4 ls []) := by
  obtain ⟨hx, hb, hml, hr, hown, hts, hlocks, hG, hU0, hE⟩ := id C
  have hK := hU0.2.2
  intro n
  induction n with
  | zero => intro σ a0 x1 x2; intro v0 hf; exact absurd hf (by simp [f_X3_longestStay_4])
  | succ n hk4 =>
    intro σ a0 x1 x2 v0 hf H locs ls hW hS hl
    rw [f_X3_longestStay_4] at hf
    refine lv_iload_n hx hb dX3_longestStay_4 rfl (lv_at hl 2 rfl) ?_
    refine lv_aload_n hx hb dX3_longestStay_5 rfl (lv_at hl 0 rfl) ?_
    refine va_get (D := D) (ci := 3) (v := .int (σ 8 a0 0 7)) (C := RX3) (T := TX3) (N := 10) hx hb hts in_X3_longestStay_3 hown hK (ks_P1 hW v0 (ks_c8 cy ad o a0 0 _)) 0 rfl rfl 7 (by decide) (hts (.fieldLink RX3 45 "SpinKernel$Task" "count" "I") (by decide +kernel)) (fun _ h => h) rfl dX3_longestStay_6 ?_
    refine lv_icmp_ge (tgt := 54) hx hb dX3_longestStay_9 (by decide) (fun c1 => ?_) (fun c1 => ?_)
    · rw [if_pos c1] at hf
      refine lv_iload_n hx hb dX3_longestStay_54 rfl (lv_at hl 1 rfl) ?_
      exact ks_iret C hf hW hS dX3_longestStay_55
    · rw [if_neg c1] at hf
      refine lv_aload_n hx hb dX3_longestStay_12 rfl (lv_at hl 0 rfl) ?_
      refine va_get (D := D) (ci := 3) (v := .ref (ad 10 a0 0)) (C := RX3) (T := TX3) (N := 10) hx hb hts in_X3_longestStay_3 hown hK (ks_P1 hW v0 (ks_c8 cy ad o a0 0 _)) 0 rfl rfl 8 (by decide) (hts (.fieldLink RX3 11 "SpinKernel$Task" "requests" "[LSpinKernel$Request;") (by decide +kernel)) (fun _ h => h) rfl dX3_longestStay_13 ?_
      refine lv_iload_n hx hb dX3_longestStay_16 rfl (lv_at hl 2 rfl) ?_
      obtain ⟨hi2, hf⟩ := ks_guard hf
      refine ks_aald hx hb hK hW (ks_v10 (j := 0) v0.2.1 (hE 10 rfl)) 5 (ks_c10 cy ad o a0 0 _) rfl rfl hi2 dX3_longestStay_17 ?_
      obtain ⟨⟨r5, s4⟩, hc3, hf⟩ := ks_bind hf
      try dsimp only at hf
      refine ks_calli (va_runV (As := []) (rest := []) ⟨hx, hb, hml, hown, hts⟩ (m_X1_isOuter l D cy ad En n0 hG hE o (ks_v11 (ks_v10 (j := 0) v0.2.1 (hE 10 rfl)).2.1 (ks_in_lt hi2) (hE 11 rfl)) hc3) (cwV 0 hts gX3_longestStay_X1_isOuter rfl rfl rfl (by decide +kernel) ⟨(Nat.le_of_ble_eq_true rfl), (Nat.le_of_ble_eq_true rfl)⟩) ⟨ks_U.blind, ks_recv hK hW (ks_v11 (ks_v10 (j := 0) v0.2.1 (hE 10 rfl)).2.1 (ks_in_lt hi2) (hE 11 rfl)) (ks_c11 cy ad o a0 (x2.toNatClampNeg) _) rfl, fun U hU hWm => ⟨rfl, hU0.now hS hW hWm.alike hU⟩⟩ rfl rfl hl.1 rfl (lv_room (Nat.le_of_ble_eq_true rfl)) dX3_longestStay_18 ⟨(Nat.le_of_ble_eq_true rfl), (Nat.le_of_ble_eq_true rfl)⟩) hS (fun H locs hW hS => ?_)
      refine lv_if_eq (tgt := 48) hx hb dX3_longestStay_21 (by decide) (fun c6 => ?_) (fun c6 => ?_)
      · rw [if_pos c6] at hf
        refine lv_iinc (v := (x2 + 1)) (lv' := [(2, .int (x2 + 1)), (0, .ref (ad 8 a0 0)), (1, .int x1)]) hx hb dX3_longestStay_48 hl (k := 2) rfl rfl (by decide) rfl (fun ls hl => ?_)
        refine lv_goto (tgt := 4) hx hb dX3_longestStay_51 (by decide) ?_
        exact hk4 _ _ _ _ v0 hf hW hS (lv_sub hl [1, 2, 0] rfl)
      · rw [if_neg c6] at hf
        refine lv_iload_n hx hb dX3_longestStay_24 rfl (lv_at hl 1 rfl) ?_
        refine lv_aload_n hx hb dX3_longestStay_25 rfl (lv_at hl 0 rfl) ?_
        refine va_get (D := D) (ci := 3) (v := .ref (ad 10 a0 0)) (C := RX3) (T := TX3) (N := 10) hx hb hts in_X3_longestStay_3 hown hK (ks_P1 hW v0 (ks_c8 cy ad o a0 0 _)) 0 rfl rfl 8 (by decide) (hts (.fieldLink RX3 11 "SpinKernel$Task" "requests" "[LSpinKernel$Request;") (by decide +kernel)) (fun _ h => h) rfl dX3_longestStay_26 ?_
        refine lv_iload_n hx hb dX3_longestStay_29 rfl (lv_at hl 2 rfl) ?_
        obtain ⟨hi7, hf⟩ := ks_guard hf
        refine ks_aald hx hb hK hW (ks_v10 (j := 0) v0.2.1 (hE 10 rfl)) 5 (ks_c10 cy ad o a0 0 _) rfl rfl hi7 dX3_longestStay_30 ?_
        refine va_get (D := D) (ci := 1) (v := .int (s4 11 a0 ((x2.toNatClampNeg)) 2)) (C := RX1) (T := TX1) (N := 8) hx hb hts in_X3_longestStay_1 hown hK (ks_P1 hW (ks_v11 (ks_v10 (j := 0) v0.2.1 (hE 10 rfl)).2.1 (ks_in_lt hi7) (hE 11 rfl)) (ks_c11 cy ad o a0 (x2.toNatClampNeg) _)) 0 rfl rfl 2 (by decide) (hts (.fieldLink RX3 59 "SpinKernel$Request" "length" "I") (by decide +kernel)) (fun _ h => h) rfl dX3_longestStay_31 ?_
        refine lv_aload_n hx hb dX3_longestStay_34 rfl (lv_at hl 0 rfl) ?_
        refine va_get (D := D) (ci := 3) (v := .ref (ad 10 a0 0)) (C := RX3) (T := TX3) (N := 10) hx hb hts in_X3_longestStay_3 hown hK (ks_P1 hW v0 (ks_c8 cy ad o a0 0 _)) 0 rfl rfl 8 (by decide) (hts (.fieldLink RX3 11 "SpinKernel$Task" "requests" "[LSpinKernel$Request;") (by decide +kernel)) (fun _ h => h) rfl dX3_longestStay_35 ?_
        refine lv_iload_n hx hb dX3_longestStay_38 rfl (lv_at hl 2 rfl) ?_
        obtain ⟨hi8, hf⟩ := ks_guard hf
        refine ks_aald hx hb hK hW (ks_v10 (j := 0) v0.2.1 (hE 10 rfl)) 5 (ks_c10 cy ad o a0 0 _) rfl rfl hi8 dX3_longestStay_39 ?_
        refine va_get (D := D) (ci := 1) (v := .int (s4 11 a0 ((x2.toNatClampNeg)) 4)) (C := RX1) (T := TX1) (N := 8) hx hb hts in_X3_longestStay_1 hown hK (ks_P1 hW (ks_v11 (ks_v10 (j := 0) v0.2.1 (hE 10 rfl)).2.1 (ks_in_lt hi8) (hE 11 rfl)) (ks_c11 cy ad o a0 (x2.toNatClampNeg) _)) 0 rfl rfl 4 (by decide) (hts (.fieldLink RX3 69 "SpinKernel$Request" "spinBound" "I") (by decide +kernel)) (fun _ h => h) rfl dX3_longestStay_40 ?_
        refine lv_iadd hx hb dX3_longestStay_43 ?_
        refine va_mmax hx hb (hml.trans hl.1.symm) hown (hts (.methodLink RX3 72 Lib.Math.max.name) (by decide +kernel)) (hts (.static Lib.Math.max.name) (by decide +kernel)) (hts (.initialized "java/lang/Math") (by decide +kernel)) (hts (.code Lib.Math.max.name Lib.Math.max.code 2 (some .int)) (by decide +kernel)) (Nat.le_of_ble_eq_true rfl) (Nat.le_of_ble_eq_true rfl) (Nat.le_of_ble_eq_true rfl) (Nat.le_of_ble_eq_true rfl) dX3_longestStay_44 ?_
        refine lv_istore_n (lv' := [(1, .int (if x1 < ((((s4 11 a0 ((x2.toNatClampNeg)) 2)) + ((s4 11 a0 ((x2.toNatClampNeg)) 4)))) then ((((s4 11 a0 ((x2.toNatClampNeg)) 2)) + ((s4 11 a0 ((x2.toNatClampNeg)) 4)))) else x1)), (0, .ref (ad 8 a0 0)), (2, .int x2)]) hx hb dX3_longestStay_47 rfl hl (by decide) rfl (fun ls hl => ?_)
        refine lv_iinc (v := (x2 + 1)) (lv' := [(2, .int (x2 + 1)), (1, .int (if x1 < ((((s4 11 a0 ((x2.toNatClampNeg)) 2)) + ((s4 11 a0 ((x2.toNatClampNeg)) 4)))) then ((((s4 11 a0 ((x2.toNatClampNeg)) 2)) + ((s4 11 a0 ((x2.toNatClampNeg)) 4)))) else x1)), (0, .ref (ad 8 a0 0))]) hx hb dX3_longestStay_48 hl (k := 2) rfl rfl (by decide) rfl (fun ls hl => ?_)
        refine lv_goto (tgt := 4) hx hb dX3_longestStay_51 (by decide) ?_
        exact hk4 _ _ _ _ v0 hf hW hS (lv_sub hl [2, 1, 0] rfl)
set_option maxHeartbeats 4000000 in
set_option maxRecDepth 100000 in
theorem t_X3_longestStay {p : Program} {l : Launch} {e : Env} {s : State} {m : MethodId} {args : Array Value} {below : List Frame} {meth : Method} {c : Code} {D : va_G} {cy : Nat → ClassId} {ad : ks_A} {En : Nat → Prop} {n0 : Nat → Prop} {σ0 : ks_S} {o : Int64} {N : Nat} {out : (Int32 × ks_S)} (C : ks_M p s m args meth c D cy ad En (fun k => ks_g k = 0) n0 σ0 o wsX3_longestStay cX3_longestStay RX3 3 (some .int)) {σ : ks_S} {a0 : Nat} (v0 : ks_v En 8 a0 0) (hf : f_X3_longestStay N σ a0 = some out) {H : Heap} {locs : List Loc} {ls : Array Slot} (hW : ks_W D cy ad En σ o H) (hS : va_S (ks_F n0) s.heap H locs) (hl : lv_has ls 3 [(0, .ref (ad 8 a0 0))]) : W p l e (ks_Rm 1 0 0 20) s m args below meth c H locs 0 0 (MQ below (ks_Qi D cy ad En n0 o out) args s 0 0 (ks_F n0)) (F0 m 0 ls []) := by
  obtain ⟨hx, hb, hml, hr, hown, hts, hlocks, hG, hU0, hE⟩ := id C
  have hK := hU0.2.2
  unfold f_X3_longestStay at hf
  refine lv_iconst (v := 0) hx hb dX3_longestStay_0 (by decide) ?_
  refine lv_istore_n (lv' := [(1, .int 0), (0, .ref (ad 8 a0 0))]) hx hb dX3_longestStay_1 rfl hl (by decide) rfl (fun ls hl => ?_)
  refine lv_iconst (v := 0) hx hb dX3_longestStay_2 (by decide) ?_
  refine lv_istore_n (lv' := [(2, .int 0), (1, .int 0), (0, .ref (ad 8 a0 0))]) hx hb dX3_longestStay_3 rfl hl (by decide) rfl (fun ls hl => ?_)
  exact t_X3_longestStay_4 C _ _ _ _ _ v0 hf hW hS (lv_sub hl [2, 1, 0] rfl)
set_option maxHeartbeats 4000000 in
set_option maxRecDepth 100000 in
theorem m_X3_longestStay (l : Launch) (D : va_G) (cy : Nat → ClassId) (ad : ks_A) (En : Nat → Prop) (n0 : Nat → Prop) (hG : ks_G ad En n0) (hE : ∀ k, ks_g k = 0 → En k) (o : Int64) {N : Nat} {σ : ks_S} {a0 : Nat} (v0 : ks_v En 8 a0 0) {out : (Int32 × ks_S)} (hf : f_X3_longestStay N σ a0 = some out) : Met l yX3_longestStay wsX3_longestStay (ks_Rm 1 0 0 20) (va_Pc [.ref (ad 8 a0 0)] (ks_U D cy ad En n0 σ o)) (ks_Qi D cy ad En n0 o out) 0 0 (ks_F n0) := by
  refine Met.ofW (cc := cX3_longestStay) (maxL := 3) (ret := some .int) (by decide) rfl ?_
  intro p e s m args below meth c s₁ B hml hv
  obtain ⟨rfl, hU⟩ := hv
  have hl := lv_entry ([.ref (ad 8 a0 0)]) (n := 3) (Nat.le_of_ble_eq_true rfl)
  rw [lg_entry_eq]
  generalize (lg_sl ([.ref (ad 8 a0 0)]) ++ List.replicate (3 - (lg_sl ([.ref (ad 8 a0 0)])).length) Slot.unset).toArray = ls at hl ⊢
  exact t_X3_longestStay ⟨B.exec, B.bytes, hml, B.returns, findClass_of_methodNamed B.named, atoms_spec (ws := wsX3_longestStay) B.pre, B.notSynchronized, hG, hU, hE⟩ v0 hf hU.2.1 va_S.rf hl

/-! SpinKernel$Task.beginningsIn(I)I -/
def f_X3_beginningsIn (σ : ks_S) (a0 : Nat) (x1 : Int32) : Option (Int32 × ks_S) :=
  (if 1 ≤ ((σ 8 a0 0 3)) then (if ¬ ((σ 8 a0 0 3)) = 0 then some ((((((x1 + ((σ 8 a0 0 3)))) - 1)) / ((σ 8 a0 0 3))), σ) else none) else some (0, σ))
theorem in_X3_beginningsIn_3 : ∀ w ∈ wsX30, w ∈ wsX3_beginningsIn := by decide +kernel
set_option maxHeartbeats 4000000 in
set_option maxRecDepth 100000 in
theorem t_X3_beginningsIn {p : Program} {l : Launch} {e : Env} {s : State} {m : MethodId} {args : Array Value} {below : List Frame} {meth : Method} {c : Code} {D : va_G} {cy : Nat → ClassId} {ad : ks_A} {En : Nat → Prop} {n0 : Nat → Prop} {σ0 : ks_S} {o : Int64} {out : (Int32 × ks_S)} (C : ks_M p s m args meth c D cy ad En (fun k => ks_g k = 0) n0 σ0 o wsX3_beginningsIn cX3_beginningsIn RX3 2 (some .int)) {σ : ks_S} {a0 : Nat} {x1 : Int32} (v0 : ks_v En 8 a0 0) (hf : f_X3_beginningsIn σ a0 x1 = some out) {H : Heap} {locs : List Loc} {ls : Array Slot} (hW : ks_W D cy ad En σ o H) (hS : va_S (ks_F n0) s.heap H locs) (hl : lv_has ls 2 [(0, .ref (ad 8 a0 0)), (1, .int x1)]) : W p l e (ks_Rm 0 0 0 0) s m args below meth c H locs 0 0 (MQ below (ks_Qi D cy ad En n0 o out) args s 0 0 (ks_F n0)) (F0 m 0 ls []) := by
  obtain ⟨hx, hb, hml, hr, hown, hts, hlocks, hG, hU0, hE⟩ := id C
  have hK := hU0.2.2
  unfold f_X3_beginningsIn at hf
  refine lv_aload_n hx hb dX3_beginningsIn_0 rfl (lv_at hl 0 rfl) ?_
  refine va_get (D := D) (ci := 3) (v := .int (σ 8 a0 0 3)) (C := RX3) (T := TX3) (N := 10) hx hb hts in_X3_beginningsIn_3 hown hK (ks_P1 hW v0 (ks_c8 cy ad o a0 0 _)) 0 rfl rfl 3 (by decide) (hts (.fieldLink RX3 36 "SpinKernel$Task" "distance" "I") (by decide +kernel)) (fun _ h => h) rfl dX3_beginningsIn_1 ?_
  refine lv_iconst (v := 1) hx hb dX3_beginningsIn_4 (by decide) ?_
  refine lv_icmp_ge (tgt := 12) hx hb dX3_beginningsIn_5 (by decide) (fun c1 => ?_) (fun c1 => ?_)
  · rw [if_pos c1] at hf
    refine lv_iload_n hx hb dX3_beginningsIn_12 rfl (lv_at hl 1 rfl) ?_
    refine lv_aload_n hx hb dX3_beginningsIn_13 rfl (lv_at hl 0 rfl) ?_
    refine va_get (D := D) (ci := 3) (v := .int (σ 8 a0 0 3)) (C := RX3) (T := TX3) (N := 10) hx hb hts in_X3_beginningsIn_3 hown hK (ks_P1 hW v0 (ks_c8 cy ad o a0 0 _)) 0 rfl rfl 3 (by decide) (hts (.fieldLink RX3 36 "SpinKernel$Task" "distance" "I") (by decide +kernel)) (fun _ h => h) rfl dX3_beginningsIn_14 ?_
    refine lv_iadd hx hb dX3_beginningsIn_17 ?_
    refine lv_iconst (v := 1) hx hb dX3_beginningsIn_18 (by decide) ?_
    refine lv_isub hx hb dX3_beginningsIn_19 ?_
    refine lv_aload_n hx hb dX3_beginningsIn_20 rfl (lv_at hl 0 rfl) ?_
    refine va_get (D := D) (ci := 3) (v := .int (σ 8 a0 0 3)) (C := RX3) (T := TX3) (N := 10) hx hb hts in_X3_beginningsIn_3 hown hK (ks_P1 hW v0 (ks_c8 cy ad o a0 0 _)) 0 rfl rfl 3 (by decide) (hts (.fieldLink RX3 36 "SpinKernel$Task" "distance" "I") (by decide +kernel)) (fun _ h => h) rfl dX3_beginningsIn_21 ?_
    obtain ⟨hq2, hf⟩ := ks_guard hf
    refine lv_idiv hx hb dX3_beginningsIn_24 hq2 ?_
    exact ks_iret C hf hW hS dX3_beginningsIn_25
  · rw [if_neg c1] at hf
    refine lv_iconst (v := 0) hx hb dX3_beginningsIn_8 (by decide) ?_
    refine lv_goto (tgt := 25) hx hb dX3_beginningsIn_9 (by decide) ?_
    exact ks_iret C hf hW hS dX3_beginningsIn_25
set_option maxHeartbeats 4000000 in
set_option maxRecDepth 100000 in
theorem m_X3_beginningsIn (l : Launch) (D : va_G) (cy : Nat → ClassId) (ad : ks_A) (En : Nat → Prop) (n0 : Nat → Prop) (hG : ks_G ad En n0) (hE : ∀ k, ks_g k = 0 → En k) (o : Int64) {σ : ks_S} {a0 : Nat} {x1 : Int32} (v0 : ks_v En 8 a0 0) {out : (Int32 × ks_S)} (hf : f_X3_beginningsIn σ a0 x1 = some out) : Met l yX3_beginningsIn wsX3_beginningsIn (ks_Rm 0 0 0 0) (va_Pc [.ref (ad 8 a0 0), .int x1] (ks_U D cy ad En n0 σ o)) (ks_Qi D cy ad En n0 o out) 0 0 (ks_F n0) := by
  refine Met.ofW (cc := cX3_beginningsIn) (maxL := 2) (ret := some .int) (by decide) rfl ?_
  intro p e s m args below meth c s₁ B hml hv
  obtain ⟨rfl, hU⟩ := hv
  have hl := lv_entry ([.ref (ad 8 a0 0), .int x1]) (n := 2) (Nat.le_of_ble_eq_true rfl)
  rw [lg_entry_eq]
  generalize (lg_sl ([.ref (ad 8 a0 0), .int x1]) ++ List.replicate (2 - (lg_sl ([.ref (ad 8 a0 0), .int x1])).length) Slot.unset).toArray = ls at hl ⊢
  exact t_X3_beginningsIn ⟨B.exec, B.bytes, hml, B.returns, findClass_of_methodNamed B.named, atoms_spec (ws := wsX3_beginningsIn) B.pre, B.notSynchronized, hG, hU, hE⟩ v0 hf hU.2.1 va_S.rf hl

/-! SpinKernel$Task.outerFrom(I)I -/
def f_X3_outerFrom_2 (N : Nat) : Nat → ks_S → Nat → Int32 → Option (Int32 × ks_S)
  | 0, _, _, _ => none
  | n + 1, σ, a0, x2 => (if ((σ 8 a0 0 7)) ≤ x2 then some (x2, σ) else (if ks_in x2 6 = true then ((f_X1_isOuter σ a0 ((x2.toNatClampNeg))).bind fun (r5, s4) => (if r5 = 0 then f_X3_outerFrom_2 N n s4 a0 ((x2 + 1)) else some (x2, s4))) else none))
def f_X3_outerFrom (N : Nat) (σ : ks_S) (a0 : Nat) (x1 : Int32) : Option (Int32 × ks_S) :=
  f_X3_outerFrom_2 N N σ a0 x1
theorem in_X3_outerFrom_3 : ∀ w ∈ wsX30, w ∈ wsX3_outerFrom := by decide +kernel
set_option maxHeartbeats 4000000 in
set_option maxRecDepth 100000 in
theorem t_X3_outerFrom_2 {p : Program} {l : Launch} {e : Env} {s : State} {m : MethodId} {args : Array Value} {below : List Frame} {meth : Method} {c : Code} {D : va_G} {cy : Nat → ClassId} {ad : ks_A} {En : Nat → Prop} {n0 : Nat → Prop} {σ0 : ks_S} {o : Int64} {N : Nat} {out : (Int32 × ks_S)} (C : ks_M p s m args meth c D cy ad En (fun k => ks_g k = 0) n0 σ0 o wsX3_outerFrom cX3_outerFrom RX3 3 (some .int)) : ∀ (n : Nat) (σ : ks_S) (a0 : Nat) (x2 : Int32), ks_v En 8 a0 0 → f_X3_outerFrom_2 N n σ a0 x2 = some out → ∀ {H : Heap} {locs : List Loc} {ls : Array Slot}, ks_W D cy ad En σ o H → va_S (ks_F n0) s.heap H locs → lv_has ls 3 [(0, .ref (ad 8 a0 0)), (2, .int x2)] → W p l e (ks_Rm 1 0 0 20) s m args below meth c H locs 0 0 (MQ below (ks_Qi D cy ad En n0 o out) args s 0 0 (ks_F n0)) (F0 m 2 ls []) := by
  obtain ⟨hx, hb, hml, hr, hown, hts, hlocks, hG, hU0, hE⟩ := id C
  have hK := hU0.2.2
  intro n
  induction n with
  | zero => intro σ a0 x2; intro v0 hf; exact absurd hf (by simp [f_X3_outerFrom_2])
  | succ n hk2 =>
    intro σ a0 x2 v0 hf H locs ls hW hS hl
    rw [f_X3_outerFrom_2] at hf
    refine lv_iload_n hx hb dX3_outerFrom_2 rfl (lv_at hl 1 rfl) ?_
    refine lv_aload_n hx hb dX3_outerFrom_3 rfl (lv_at hl 0 rfl) ?_
    refine va_get (D := D) (ci := 3) (v := .int (σ 8 a0 0 7)) (C := RX3) (T := TX3) (N := 10) hx hb hts in_X3_outerFrom_3 hown hK (ks_P1 hW v0 (ks_c8 cy ad o a0 0 _)) 0 rfl rfl 7 (by decide) (hts (.fieldLink RX3 45 "SpinKernel$Task" "count" "I") (by decide +kernel)) (fun _ h => h) rfl dX3_outerFrom_4 ?_
    refine lv_icmp_ge (tgt := 28) hx hb dX3_outerFrom_7 (by decide) (fun c1 => ?_) (fun c1 => ?_)
    · rw [if_pos c1] at hf
      refine lv_iload_n hx hb dX3_outerFrom_28 rfl (lv_at hl 1 rfl) ?_
      exact ks_iret C hf hW hS dX3_outerFrom_29
    · rw [if_neg c1] at hf
      refine lv_aload_n hx hb dX3_outerFrom_10 rfl (lv_at hl 0 rfl) ?_
      refine va_get (D := D) (ci := 3) (v := .ref (ad 10 a0 0)) (C := RX3) (T := TX3) (N := 10) hx hb hts in_X3_outerFrom_3 hown hK (ks_P1 hW v0 (ks_c8 cy ad o a0 0 _)) 0 rfl rfl 8 (by decide) (hts (.fieldLink RX3 11 "SpinKernel$Task" "requests" "[LSpinKernel$Request;") (by decide +kernel)) (fun _ h => h) rfl dX3_outerFrom_11 ?_
      refine lv_iload_n hx hb dX3_outerFrom_14 rfl (lv_at hl 1 rfl) ?_
      obtain ⟨hi2, hf⟩ := ks_guard hf
      refine ks_aald hx hb hK hW (ks_v10 (j := 0) v0.2.1 (hE 10 rfl)) 5 (ks_c10 cy ad o a0 0 _) rfl rfl hi2 dX3_outerFrom_15 ?_
      obtain ⟨⟨r5, s4⟩, hc3, hf⟩ := ks_bind hf
      try dsimp only at hf
      refine ks_calli (va_runV (As := []) (rest := []) ⟨hx, hb, hml, hown, hts⟩ (m_X1_isOuter l D cy ad En n0 hG hE o (ks_v11 (ks_v10 (j := 0) v0.2.1 (hE 10 rfl)).2.1 (ks_in_lt hi2) (hE 11 rfl)) hc3) (cwV 0 hts gX3_outerFrom_X1_isOuter rfl rfl rfl (by decide +kernel) ⟨(Nat.le_of_ble_eq_true rfl), (Nat.le_of_ble_eq_true rfl)⟩) ⟨ks_U.blind, ks_recv hK hW (ks_v11 (ks_v10 (j := 0) v0.2.1 (hE 10 rfl)).2.1 (ks_in_lt hi2) (hE 11 rfl)) (ks_c11 cy ad o a0 (x2.toNatClampNeg) _) rfl, fun U hU hWm => ⟨rfl, hU0.now hS hW hWm.alike hU⟩⟩ rfl rfl hl.1 rfl (lv_room (Nat.le_of_ble_eq_true rfl)) dX3_outerFrom_16 ⟨(Nat.le_of_ble_eq_true rfl), (Nat.le_of_ble_eq_true rfl)⟩) hS (fun H locs hW hS => ?_)
      refine lv_if_ne (tgt := 28) hx hb dX3_outerFrom_19 (by decide) (fun c6 => ?_) (fun c6 => ?_)
      · rw [if_neg c6] at hf
        refine lv_iload_n hx hb dX3_outerFrom_28 rfl (lv_at hl 1 rfl) ?_
        exact ks_iret C hf hW hS dX3_outerFrom_29
      · rw [if_pos c6] at hf
        refine lv_iinc (v := (x2 + 1)) (lv' := [(2, .int (x2 + 1)), (0, .ref (ad 8 a0 0))]) hx hb dX3_outerFrom_22 hl (k := 1) rfl rfl (by decide) rfl (fun ls hl => ?_)
        refine lv_goto (tgt := 2) hx hb dX3_outerFrom_25 (by decide) ?_
        exact hk2 _ _ _ v0 hf hW hS (lv_sub hl [1, 0] rfl)
set_option maxHeartbeats 4000000 in
set_option maxRecDepth 100000 in
theorem t_X3_outerFrom {p : Program} {l : Launch} {e : Env} {s : State} {m : MethodId} {args : Array Value} {below : List Frame} {meth : Method} {c : Code} {D : va_G} {cy : Nat → ClassId} {ad : ks_A} {En : Nat → Prop} {n0 : Nat → Prop} {σ0 : ks_S} {o : Int64} {N : Nat} {out : (Int32 × ks_S)} (C : ks_M p s m args meth c D cy ad En (fun k => ks_g k = 0) n0 σ0 o wsX3_outerFrom cX3_outerFrom RX3 3 (some .int)) {σ : ks_S} {a0 : Nat} {x1 : Int32} (v0 : ks_v En 8 a0 0) (hf : f_X3_outerFrom N σ a0 x1 = some out) {H : Heap} {locs : List Loc} {ls : Array Slot} (hW : ks_W D cy ad En σ o H) (hS : va_S (ks_F n0) s.heap H locs) (hl : lv_has ls 3 [(0, .ref (ad 8 a0 0)), (1, .int x1)]) : W p l e (ks_Rm 1 0 0 20) s m args below meth c H locs 0 0 (MQ below (ks_Qi D cy ad En n0 o out) args s 0 0 (ks_F n0)) (F0 m 0 ls []) := by
  obtain ⟨hx, hb, hml, hr, hown, hts, hlocks, hG, hU0, hE⟩ := id C
  have hK := hU0.2.2
  unfold f_X3_outerFrom at hf
  refine lv_iload_n hx hb dX3_outerFrom_0 rfl (lv_at hl 1 rfl) ?_
  refine lv_istore_n (lv' := [(2, .int x1), (0, .ref (ad 8 a0 0)), (1, .int x1)]) hx hb dX3_outerFrom_1 rfl hl (by decide) rfl (fun ls hl => ?_)
  exact t_X3_outerFrom_2 C _ _ _ _ v0 hf hW hS (lv_sub hl [1, 0] rfl)
set_option maxHeartbeats 4000000 in
set_option maxRecDepth 100000 in
theorem m_X3_outerFrom (l : Launch) (D : va_G) (cy : Nat → ClassId) (ad : ks_A) (En : Nat → Prop) (n0 : Nat → Prop) (hG : ks_G ad En n0) (hE : ∀ k, ks_g k = 0 → En k) (o : Int64) {N : Nat} {σ : ks_S} {a0 : Nat} {x1 : Int32} (v0 : ks_v En 8 a0 0) {out : (Int32 × ks_S)} (hf : f_X3_outerFrom N σ a0 x1 = some out) : Met l yX3_outerFrom wsX3_outerFrom (ks_Rm 1 0 0 20) (va_Pc [.ref (ad 8 a0 0), .int x1] (ks_U D cy ad En n0 σ o)) (ks_Qi D cy ad En n0 o out) 0 0 (ks_F n0) := by
  refine Met.ofW (cc := cX3_outerFrom) (maxL := 3) (ret := some .int) (by decide) rfl ?_
  intro p e s m args below meth c s₁ B hml hv
  obtain ⟨rfl, hU⟩ := hv
  have hl := lv_entry ([.ref (ad 8 a0 0), .int x1]) (n := 3) (Nat.le_of_ble_eq_true rfl)
  rw [lg_entry_eq]
  generalize (lg_sl ([.ref (ad 8 a0 0), .int x1]) ++ List.replicate (3 - (lg_sl ([.ref (ad 8 a0 0), .int x1])).length) Slot.unset).toArray = ls at hl ⊢
  exact t_X3_outerFrom ⟨B.exec, B.bytes, hml, B.returns, findClass_of_methodNamed B.named, atoms_spec (ws := wsX3_outerFrom) B.pre, B.notSynchronized, hG, hU, hE⟩ v0 hf hU.2.1 va_S.rf hl
