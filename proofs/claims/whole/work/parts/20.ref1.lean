/-! SpinKernelModel.thrown()I -/
def f_X5_thrown (σ : ks_S)  : Option (Int32 × ks_S) :=
  some ((σ 14 0 0 0), σ)
theorem in_X5_thrown_5 : ∀ w ∈ wsX50, w ∈ wsX5_thrown := by decide +kernel
set_option maxHeartbeats 4000000 in
set_option maxRecDepth 100000 in
theorem t_X5_thrown {p : Program} {l : Launch} {e : Env} {s : State} {m : MethodId} {args : Array Value} {below : List Frame} {meth : Method} {c : Code} {D : va_G} {cy : Nat → ClassId} {ad : ks_A} {En : Nat → Prop} {n0 : Nat → Prop} {σ0 : ks_S} {o : Int64} {out : (Int32 × ks_S)} (C : ks_M p s m args meth c D cy ad En (fun k => ks_g k = 1) n0 σ0 o wsX5_thrown cX5_thrown RX5 1 (some .int)) {σ : ks_S}   (hf : f_X5_thrown σ  = some out) {H : Heap} {locs : List Loc} {ls : Array Slot} (hW : ks_W D cy ad En σ o H) (hS : va_S (ks_F n0) s.heap H locs) (hl : lv_has ls 1 [(0, .ref (ad 14 0 0))]) : W p l e (ks_Rm 0 0 0 0) s m args below meth c H locs 0 0 (MQ below (ks_Qi D cy ad En n0 o out) args s 0 0 (ks_F n0)) (F0 m 0 ls []) := by
  obtain ⟨hx, hb, hml, hr, hown, hts, hlocks, hG, hU0, hE⟩ := id C
  have hK := hU0.2.2
  unfold f_X5_thrown at hf
  refine lv_aload_n hx hb dX5_thrown_0 rfl (lv_at hl 0 rfl) ?_
  refine va_get (D := D) (ci := 5) (v := .int (σ 14 0 0 0)) (C := RX5) (T := TX5) (N := 34) hx hb hts in_X5_thrown_5 hown hK (ks_P1 hW (ks_v14 (i := 0) (j := 0) (hE 14 rfl)) (ks_c14 cy ad o 0 0 _)) 0 rfl rfl 0 (by decide) (hts (.fieldLink RX5 104 "SpinKernelModel" "thrown" "I") (by decide +kernel)) (fun _ h => h) rfl dX5_thrown_1 ?_
  exact ks_iret C hf hW hS dX5_thrown_4
set_option maxHeartbeats 4000000 in
set_option maxRecDepth 100000 in
theorem m_X5_thrown (l : Launch) (D : va_G) (cy : Nat → ClassId) (ad : ks_A) (En : Nat → Prop) (n0 : Nat → Prop) (hG : ks_G ad En n0) (hE : ∀ k, ks_g k = 1 → En k) (o : Int64) {σ : ks_S}   {out : (Int32 × ks_S)} (hf : f_X5_thrown σ  = some out) : Met l yX5_thrown wsX5_thrown (ks_Rm 0 0 0 0) (va_Pc [.ref (ad 14 0 0)] (ks_U D cy ad En n0 σ o)) (ks_Qi D cy ad En n0 o out) 0 0 (ks_F n0) := by
  refine Met.ofW (cc := cX5_thrown) (maxL := 1) (ret := some .int) (by decide) rfl ?_
  intro p e s m args below meth c s₁ B hml hv
  obtain ⟨rfl, hU⟩ := hv
  have hl := lv_entry ([.ref (ad 14 0 0)]) (n := 1) (Nat.le_of_ble_eq_true rfl)
  rw [lg_entry_eq]
  generalize (lg_sl ([.ref (ad 14 0 0)]) ++ List.replicate (1 - (lg_sl ([.ref (ad 14 0 0)])).length) Slot.unset).toArray = ls at hl ⊢
  exact t_X5_thrown ⟨B.exec, B.bytes, hml, B.returns, findClass_of_methodNamed B.named, atoms_spec (ws := wsX5_thrown) B.pre, B.notSynchronized, hG, hU, hE⟩  hf hU.2.1 va_S.rf hl

/-! SpinKernelModel.refused(ZZZ)Z -/
def f_X5_refused (σ : ks_S) (x1 : Int32) (x2 : Int32) (x3 : Int32) : Option (Int32 × ks_S) :=
  (if x1 = 0 then (if x2 = 0 then (if x3 = 0 then (if ((((ks_up σ 14 0 0 0 0)) 14 0 0 0)) ≤ 0 then some (0, (ks_up σ 14 0 0 0 0)) else some (1, (ks_up σ 14 0 0 0 0))) else (if ((((ks_up σ 14 0 0 0 3)) 14 0 0 0)) ≤ 0 then some (0, (ks_up σ 14 0 0 0 3)) else some (1, (ks_up σ 14 0 0 0 3)))) else (if ((((ks_up σ 14 0 0 0 2)) 14 0 0 0)) ≤ 0 then some (0, (ks_up σ 14 0 0 0 2)) else some (1, (ks_up σ 14 0 0 0 2)))) else (if ((((ks_up σ 14 0 0 0 1)) 14 0 0 0)) ≤ 0 then some (0, (ks_up σ 14 0 0 0 1)) else some (1, (ks_up σ 14 0 0 0 1))))
theorem in_X5_refused_5 : ∀ w ∈ wsX50, w ∈ wsX5_refused := by decide +kernel
set_option maxHeartbeats 4000000 in
set_option maxRecDepth 100000 in
theorem t_X5_refused {p : Program} {l : Launch} {e : Env} {s : State} {m : MethodId} {args : Array Value} {below : List Frame} {meth : Method} {c : Code} {D : va_G} {cy : Nat → ClassId} {ad : ks_A} {En : Nat → Prop} {n0 : Nat → Prop} {σ0 : ks_S} {o : Int64} {out : (Int32 × ks_S)} (C : ks_M p s m args meth c D cy ad En (fun k => ks_g k = 1) n0 σ0 o wsX5_refused cX5_refused RX5 4 (some .boolean)) {σ : ks_S} {x1 : Int32} {x2 : Int32} {x3 : Int32}  (hf : f_X5_refused σ x1 x2 x3 = some out) {H : Heap} {locs : List Loc} {ls : Array Slot} (hW : ks_W D cy ad En σ o H) (hS : va_S (ks_F n0) s.heap H locs) (hl : lv_has ls 4 [(0, .ref (ad 14 0 0)), (1, .int x1), (2, .int x2), (3, .int x3)]) : W p l e (ks_Rm 0 0 0 0) s m args below meth c H locs 0 0 (MQ below (ks_Qi D cy ad En n0 o out) args s 0 0 (ks_F n0)) (F0 m 0 ls []) := by
  obtain ⟨hx, hb, hml, hr, hown, hts, hlocks, hG, hU0, hE⟩ := id C
  have hK := hU0.2.2
  unfold f_X5_refused at hf
  refine lv_aload_n hx hb dX5_refused_0 rfl (lv_at hl 0 rfl) ?_
  refine lv_iload_n hx hb dX5_refused_1 rfl (lv_at hl 1 rfl) ?_
  refine lv_if_eq (tgt := 9) hx hb dX5_refused_2 (by decide) (fun c1 => ?_) (fun c1 => ?_)
  · rw [if_pos c1] at hf
    refine lv_iload_n hx hb dX5_refused_9 rfl (lv_at hl 2 rfl) ?_
    refine lv_if_eq (tgt := 17) hx hb dX5_refused_10 (by decide) (fun c2 => ?_) (fun c2 => ?_)
    · rw [if_pos c2] at hf
      refine lv_iload_n hx hb dX5_refused_17 rfl (lv_at hl 3 rfl) ?_
      refine lv_if_eq (tgt := 25) hx hb dX5_refused_18 (by decide) (fun c3 => ?_) (fun c3 => ?_)
      · rw [if_pos c3] at hf
        refine lv_iconst (v := 0) hx hb dX5_refused_25 (by decide) ?_
        refine ks_put (D := D) (ci := 5) (C := RX5) (T := TX5) (N := 34) hx hb hts in_X5_refused_5 tyX5 tyX5_ok nmX5 hown hK hG hW hS (ks_v14 (i := 0) (j := 0) (hE 14 rfl)) 0 (v := 0) (ks_c14 cy ad o 0 0 _) (ks_c14s0 cy ad o 0 0 _ _) rfl (by decide) (hts (.fieldLink RX5 104 "SpinKernelModel" "thrown" "I") (by decide +kernel)) rfl (ty := .int) (by decide +kernel) rfl rfl (Nat.le_of_ble_eq_true rfl) dX5_refused_26 (fun H locs hW hS => ?_)
        refine lv_aload_n hx hb dX5_refused_29 rfl (lv_at hl 0 rfl) ?_
        refine va_get (D := D) (ci := 5) (v := .int (((ks_up σ 14 0 0 0 0)) 14 0 0 0)) (C := RX5) (T := TX5) (N := 34) hx hb hts in_X5_refused_5 hown hK (ks_P1 hW (ks_v14 (i := 0) (j := 0) (hE 14 rfl)) (ks_c14 cy ad o 0 0 _)) 0 rfl rfl 0 (by decide) (hts (.fieldLink RX5 104 "SpinKernelModel" "thrown" "I") (by decide +kernel)) (fun _ h => h) rfl dX5_refused_30 ?_
        refine lv_if_le (tgt := 40) hx hb dX5_refused_33 (by decide) (fun c4 => ?_) (fun c4 => ?_)
        · rw [if_pos c4] at hf
          refine lv_iconst (v := 0) hx hb dX5_refused_40 (by decide) ?_
          exact ks_zret C rfl hf hW hS dX5_refused_41
        · rw [if_neg c4] at hf
          refine lv_iconst (v := 1) hx hb dX5_refused_36 (by decide) ?_
          refine lv_goto (tgt := 41) hx hb dX5_refused_37 (by decide) ?_
          exact ks_zret C rfl hf hW hS dX5_refused_41
      · rw [if_neg c3] at hf
        refine lv_iconst (v := 3) hx hb dX5_refused_21 (by decide) ?_
        refine lv_goto (tgt := 26) hx hb dX5_refused_22 (by decide) ?_
        refine ks_put (D := D) (ci := 5) (C := RX5) (T := TX5) (N := 34) hx hb hts in_X5_refused_5 tyX5 tyX5_ok nmX5 hown hK hG hW hS (ks_v14 (i := 0) (j := 0) (hE 14 rfl)) 0 (v := 3) (ks_c14 cy ad o 0 0 _) (ks_c14s0 cy ad o 0 0 _ _) rfl (by decide) (hts (.fieldLink RX5 104 "SpinKernelModel" "thrown" "I") (by decide +kernel)) rfl (ty := .int) (by decide +kernel) rfl rfl (Nat.le_of_ble_eq_true rfl) dX5_refused_26 (fun H locs hW hS => ?_)
        refine lv_aload_n hx hb dX5_refused_29 rfl (lv_at hl 0 rfl) ?_
        refine va_get (D := D) (ci := 5) (v := .int (((ks_up σ 14 0 0 0 3)) 14 0 0 0)) (C := RX5) (T := TX5) (N := 34) hx hb hts in_X5_refused_5 hown hK (ks_P1 hW (ks_v14 (i := 0) (j := 0) (hE 14 rfl)) (ks_c14 cy ad o 0 0 _)) 0 rfl rfl 0 (by decide) (hts (.fieldLink RX5 104 "SpinKernelModel" "thrown" "I") (by decide +kernel)) (fun _ h => h) rfl dX5_refused_30 ?_
        refine lv_if_le (tgt := 40) hx hb dX5_refused_33 (by decide) (fun c5 => ?_) (fun c5 => ?_)
        · rw [if_pos c5] at hf
          refine lv_iconst (v := 0) hx hb dX5_refused_40 (by decide) ?_
          exact ks_zret C rfl hf hW hS dX5_refused_41
        · rw [if_neg c5] at hf
          refine lv_iconst (v := 1) hx hb dX5_refused_36 (by decide) ?_
          refine lv_goto (tgt := 41) hx hb dX5_refused_37 (by decide) ?_
          exact ks_zret C rfl hf hW hS dX5_refused_41
    · rw [if_neg c2] at hf
      refine lv_iconst (v := 2) hx hb dX5_refused_13 (by decide) ?_
      refine lv_goto (tgt := 26) hx hb dX5_refused_14 (by decide) ?_
      refine ks_put (D := D) (ci := 5) (C := RX5) (T := TX5) (N := 34) hx hb hts in_X5_refused_5 tyX5 tyX5_ok nmX5 hown hK hG hW hS (ks_v14 (i := 0) (j := 0) (hE 14 rfl)) 0 (v := 2) (ks_c14 cy ad o 0 0 _) (ks_c14s0 cy ad o 0 0 _ _) rfl (by decide) (hts (.fieldLink RX5 104 "SpinKernelModel" "thrown" "I") (by decide +kernel)) rfl (ty := .int) (by decide +kernel) rfl rfl (Nat.le_of_ble_eq_true rfl) dX5_refused_26 (fun H locs hW hS => ?_)
      refine lv_aload_n hx hb dX5_refused_29 rfl (lv_at hl 0 rfl) ?_
      refine va_get (D := D) (ci := 5) (v := .int (((ks_up σ 14 0 0 0 2)) 14 0 0 0)) (C := RX5) (T := TX5) (N := 34) hx hb hts in_X5_refused_5 hown hK (ks_P1 hW (ks_v14 (i := 0) (j := 0) (hE 14 rfl)) (ks_c14 cy ad o 0 0 _)) 0 rfl rfl 0 (by decide) (hts (.fieldLink RX5 104 "SpinKernelModel" "thrown" "I") (by decide +kernel)) (fun _ h => h) rfl dX5_refused_30 ?_
      refine lv_if_le (tgt := 40) hx hb dX5_refused_33 (by decide) (fun c6 => ?_) (fun c6 => ?_)
      · rw [if_pos c6] at hf
        refine lv_iconst (v := 0) hx hb dX5_refused_40 (by decide) ?_
        exact ks_zret C rfl hf hW hS dX5_refused_41
      · rw [if_neg c6] at hf
        refine lv_iconst (v := 1) hx hb dX5_refused_36 (by decide) ?_
        refine lv_goto (tgt := 41) hx hb dX5_refused_37 (by decide) ?_
        exact ks_zret C rfl hf hW hS dX5_refused_41
  · rw [if_neg c1] at hf
    refine lv_iconst (v := 1) hx hb dX5_refused_5 (by decide) ?_
    refine lv_goto (tgt := 26) hx hb dX5_refused_6 (by decide) ?_
    refine ks_put (D := D) (ci := 5) (C := RX5) (T := TX5) (N := 34) hx hb hts in_X5_refused_5 tyX5 tyX5_ok nmX5 hown hK hG hW hS (ks_v14 (i := 0) (j := 0) (hE 14 rfl)) 0 (v := 1) (ks_c14 cy ad o 0 0 _) (ks_c14s0 cy ad o 0 0 _ _) rfl (by decide) (hts (.fieldLink RX5 104 "SpinKernelModel" "thrown" "I") (by decide +kernel)) rfl (ty := .int) (by decide +kernel) rfl rfl (Nat.le_of_ble_eq_true rfl) dX5_refused_26 (fun H locs hW hS => ?_)
    refine lv_aload_n hx hb dX5_refused_29 rfl (lv_at hl 0 rfl) ?_
    refine va_get (D := D) (ci := 5) (v := .int (((ks_up σ 14 0 0 0 1)) 14 0 0 0)) (C := RX5) (T := TX5) (N := 34) hx hb hts in_X5_refused_5 hown hK (ks_P1 hW (ks_v14 (i := 0) (j := 0) (hE 14 rfl)) (ks_c14 cy ad o 0 0 _)) 0 rfl rfl 0 (by decide) (hts (.fieldLink RX5 104 "SpinKernelModel" "thrown" "I") (by decide +kernel)) (fun _ h => h) rfl dX5_refused_30 ?_
    refine lv_if_le (tgt := 40) hx hb dX5_refused_33 (by decide) (fun c7 => ?_) (fun c7 => ?_)
    · rw [if_pos c7] at hf
      refine lv_iconst (v := 0) hx hb dX5_refused_40 (by decide) ?_
      exact ks_zret C rfl hf hW hS dX5_refused_41
    · rw [if_neg c7] at hf
      refine lv_iconst (v := 1) hx hb dX5_refused_36 (by decide) ?_
      refine lv_goto (tgt := 41) hx hb dX5_refused_37 (by decide) ?_
      exact ks_zret C rfl hf hW hS dX5_refused_41
set_option maxHeartbeats 4000000 in
set_option maxRecDepth 100000 in
theorem m_X5_refused (l : Launch) (D : va_G) (cy : Nat → ClassId) (ad : ks_A) (En : Nat → Prop) (n0 : Nat → Prop) (hG : ks_G ad En n0) (hE : ∀ k, ks_g k = 1 → En k) (o : Int64) {σ : ks_S} {x1 : Int32} {x2 : Int32} {x3 : Int32}  {out : (Int32 × ks_S)} (hf : f_X5_refused σ x1 x2 x3 = some out) : Met l yX5_refused wsX5_refused (ks_Rm 0 0 0 0) (va_Pc [.ref (ad 14 0 0), .int x1, .int x2, .int x3] (ks_U D cy ad En n0 σ o)) (ks_Qi D cy ad En n0 o out) 0 0 (ks_F n0) := by
  refine Met.ofW (cc := cX5_refused) (maxL := 4) (ret := some .boolean) (by decide) rfl ?_
  intro p e s m args below meth c s₁ B hml hv
  obtain ⟨rfl, hU⟩ := hv
  have hl := lv_entry ([.ref (ad 14 0 0), .int x1, .int x2, .int x3]) (n := 4) (Nat.le_of_ble_eq_true rfl)
  rw [lg_entry_eq]
  generalize (lg_sl ([.ref (ad 14 0 0), .int x1, .int x2, .int x3]) ++ List.replicate (4 - (lg_sl ([.ref (ad 14 0 0), .int x1, .int x2, .int x3])).length) Slot.unset).toArray = ls at hl ⊢
  exact t_X5_refused ⟨B.exec, B.bytes, hml, B.returns, findClass_of_methodNamed B.named, atoms_spec (ws := wsX5_refused) B.pre, B.notSynchronized, hG, hU, hE⟩  hf hU.2.1 va_S.rf hl

/-! SpinKernelModel.isTask(I)Z -/
def f_X5_isTask (σ : ks_S) (x1 : Int32) : Option (Int32 × ks_S) :=
  (if x1 < 0 then some (0, σ) else (if 16 ≤ x1 then some (0, σ) else (if ks_in x1 16 = true then (if ((σ 15 0 0 x1.toNatClampNeg)) < 0 then some (0, σ) else some (1, σ)) else none)))
theorem in_X5_isTask_5 : ∀ w ∈ wsX50, w ∈ wsX5_isTask := by decide +kernel
set_option maxHeartbeats 4000000 in
set_option maxRecDepth 100000 in
theorem t_X5_isTask {p : Program} {l : Launch} {e : Env} {s : State} {m : MethodId} {args : Array Value} {below : List Frame} {meth : Method} {c : Code} {D : va_G} {cy : Nat → ClassId} {ad : ks_A} {En : Nat → Prop} {n0 : Nat → Prop} {σ0 : ks_S} {o : Int64} {out : (Int32 × ks_S)} (C : ks_M p s m args meth c D cy ad En (fun k => ks_g k = 1) n0 σ0 o wsX5_isTask cX5_isTask RX5 2 (some .boolean)) {σ : ks_S} {x1 : Int32}  (hf : f_X5_isTask σ x1 = some out) {H : Heap} {locs : List Loc} {ls : Array Slot} (hW : ks_W D cy ad En σ o H) (hS : va_S (ks_F n0) s.heap H locs) (hl : lv_has ls 2 [(0, .ref (ad 14 0 0)), (1, .int x1)]) : W p l e (ks_Rm 0 0 0 0) s m args below meth c H locs 0 0 (MQ below (ks_Qi D cy ad En n0 o out) args s 0 0 (ks_F n0)) (F0 m 0 ls []) := by
  obtain ⟨hx, hb, hml, hr, hown, hts, hlocks, hG, hU0, hE⟩ := id C
  have hK := hU0.2.2
  unfold f_X5_isTask at hf
  refine lv_iload_n hx hb dX5_isTask_0 rfl (lv_at hl 1 rfl) ?_
  refine lv_if_lt (tgt := 23) hx hb dX5_isTask_1 (by decide) (fun c1 => ?_) (fun c1 => ?_)
  · rw [if_pos c1] at hf
    refine lv_iconst (v := 0) hx hb dX5_isTask_23 (by decide) ?_
    exact ks_zret C rfl hf hW hS dX5_isTask_24
  · rw [if_neg c1] at hf
    refine lv_iload_n hx hb dX5_isTask_4 rfl (lv_at hl 1 rfl) ?_
    refine lv_bipush (v := 16) hx hb dX5_isTask_5 (by decide) ?_
    refine lv_icmp_ge (tgt := 23) hx hb dX5_isTask_7 (by decide) (fun c2 => ?_) (fun c2 => ?_)
    · rw [if_pos c2] at hf
      refine lv_iconst (v := 0) hx hb dX5_isTask_23 (by decide) ?_
      exact ks_zret C rfl hf hW hS dX5_isTask_24
    · rw [if_neg c2] at hf
      refine lv_aload_n hx hb dX5_isTask_10 rfl (lv_at hl 0 rfl) ?_
      refine va_get (D := D) (ci := 5) (v := .ref (ad 15 0 0)) (C := RX5) (T := TX5) (N := 34) hx hb hts in_X5_isTask_5 hown hK (ks_P1 hW (ks_v14 (i := 0) (j := 0) (hE 14 rfl)) (ks_c14 cy ad o 0 0 _)) 0 rfl rfl 1 (by decide) (hts (.fieldLink RX5 7 "SpinKernelModel" "cores" "[I") (by decide +kernel)) (fun _ h => h) rfl dX5_isTask_11 ?_
      refine lv_iload_n hx hb dX5_isTask_14 rfl (lv_at hl 1 rfl) ?_
      obtain ⟨hi3, hf⟩ := ks_guard hf
      refine ks_iald hx hb hK hW (ks_v15 (i := 0) (j := 0) (hE 15 rfl)) (ks_c15 cy ad o 0 0 _) hi3 dX5_isTask_15 ?_
      refine lv_if_lt (tgt := 23) hx hb dX5_isTask_16 (by decide) (fun c4 => ?_) (fun c4 => ?_)
      · rw [if_pos c4] at hf
        refine lv_iconst (v := 0) hx hb dX5_isTask_23 (by decide) ?_
        exact ks_zret C rfl hf hW hS dX5_isTask_24
      · rw [if_neg c4] at hf
        refine lv_iconst (v := 1) hx hb dX5_isTask_19 (by decide) ?_
        refine lv_goto (tgt := 24) hx hb dX5_isTask_20 (by decide) ?_
        exact ks_zret C rfl hf hW hS dX5_isTask_24
set_option maxHeartbeats 4000000 in
set_option maxRecDepth 100000 in
theorem m_X5_isTask (l : Launch) (D : va_G) (cy : Nat → ClassId) (ad : ks_A) (En : Nat → Prop) (n0 : Nat → Prop) (hG : ks_G ad En n0) (hE : ∀ k, ks_g k = 1 → En k) (o : Int64) {σ : ks_S} {x1 : Int32}  {out : (Int32 × ks_S)} (hf : f_X5_isTask σ x1 = some out) : Met l yX5_isTask wsX5_isTask (ks_Rm 0 0 0 0) (va_Pc [.ref (ad 14 0 0), .int x1] (ks_U D cy ad En n0 σ o)) (ks_Qi D cy ad En n0 o out) 0 0 (ks_F n0) := by
  refine Met.ofW (cc := cX5_isTask) (maxL := 2) (ret := some .boolean) (by decide) rfl ?_
  intro p e s m args below meth c s₁ B hml hv
  obtain ⟨rfl, hU⟩ := hv
  have hl := lv_entry ([.ref (ad 14 0 0), .int x1]) (n := 2) (Nat.le_of_ble_eq_true rfl)
  rw [lg_entry_eq]
  generalize (lg_sl ([.ref (ad 14 0 0), .int x1]) ++ List.replicate (2 - (lg_sl ([.ref (ad 14 0 0), .int x1])).length) Slot.unset).toArray = ls at hl ⊢
  exact t_X5_isTask ⟨B.exec, B.bytes, hml, B.returns, findClass_of_methodNamed B.named, atoms_spec (ws := wsX5_isTask) B.pre, B.notSynchronized, hG, hU, hE⟩  hf hU.2.1 va_S.rf hl

/-! SpinKernelModel.isRequest(II)Z -/
def f_X5_isRequest (σ : ks_S) (x1 : Int32) (x2 : Int32) : Option (Int32 × ks_S) :=
  ((f_X5_isTask σ x1).bind fun (r3, s2) => (if r3 = 0 then some (0, s2) else (if x2 < 0 then some (0, s2) else (if ks_in x1 16 = true then (if ((s2 20 0 0 x1.toNatClampNeg)) ≤ x2 then some (0, s2) else some (1, s2)) else none))))
theorem in_X5_isRequest_5 : ∀ w ∈ wsX50, w ∈ wsX5_isRequest := by decide +kernel
set_option maxHeartbeats 4000000 in
set_option maxRecDepth 100000 in
theorem t_X5_isRequest {p : Program} {l : Launch} {e : Env} {s : State} {m : MethodId} {args : Array Value} {below : List Frame} {meth : Method} {c : Code} {D : va_G} {cy : Nat → ClassId} {ad : ks_A} {En : Nat → Prop} {n0 : Nat → Prop} {σ0 : ks_S} {o : Int64} {out : (Int32 × ks_S)} (C : ks_M p s m args meth c D cy ad En (fun k => ks_g k = 1) n0 σ0 o wsX5_isRequest cX5_isRequest RX5 3 (some .boolean)) {σ : ks_S} {x1 : Int32} {x2 : Int32}  (hf : f_X5_isRequest σ x1 x2 = some out) {H : Heap} {locs : List Loc} {ls : Array Slot} (hW : ks_W D cy ad En σ o H) (hS : va_S (ks_F n0) s.heap H locs) (hl : lv_has ls 3 [(0, .ref (ad 14 0 0)), (1, .int x1), (2, .int x2)]) : W p l e (ks_Rm 1 0 0 21) s m args below meth c H locs 0 0 (MQ below (ks_Qi D cy ad En n0 o out) args s 0 0 (ks_F n0)) (F0 m 0 ls []) := by
  obtain ⟨hx, hb, hml, hr, hown, hts, hlocks, hG, hU0, hE⟩ := id C
  have hK := hU0.2.2
  unfold f_X5_isRequest at hf
  refine lv_aload_n hx hb dX5_isRequest_0 rfl (lv_at hl 0 rfl) ?_
  refine lv_iload_n hx hb dX5_isRequest_1 rfl (lv_at hl 1 rfl) ?_
  obtain ⟨⟨r3, s2⟩, hc1, hf⟩ := ks_bind hf
  try dsimp only at hf
  refine ks_calli (va_runV (As := [.int x1]) (rest := []) ⟨hx, hb, hml, hown, hts⟩ (m_X5_isTask l D cy ad En n0 hG hE o hc1) (cwV 1 hts gX5_isRequest_X5_isTask rfl rfl rfl (by decide +kernel) ⟨(Nat.le_of_ble_eq_true rfl), (Nat.le_of_ble_eq_true rfl)⟩) ⟨ks_U.blind, ks_recv hK hW (ks_v14 (i := 0) (j := 0) (hE 14 rfl)) (ks_c14 cy ad o 0 0 _) rfl, fun U hU hWm => ⟨rfl, hU0.now hS hW hWm.alike hU⟩⟩ rfl rfl hl.1 rfl (lv_room (Nat.le_of_ble_eq_true rfl)) dX5_isRequest_2 ⟨(Nat.le_of_ble_eq_true rfl), (Nat.le_of_ble_eq_true rfl)⟩) hS (fun H locs hW hS => ?_)
  refine lv_if_eq (tgt := 26) hx hb dX5_isRequest_5 (by decide) (fun c4 => ?_) (fun c4 => ?_)
  · rw [if_pos c4] at hf
    refine lv_iconst (v := 0) hx hb dX5_isRequest_26 (by decide) ?_
    exact ks_zret C rfl hf hW hS dX5_isRequest_27
  · rw [if_neg c4] at hf
    refine lv_iload_n hx hb dX5_isRequest_8 rfl (lv_at hl 2 rfl) ?_
    refine lv_if_lt (tgt := 26) hx hb dX5_isRequest_9 (by decide) (fun c5 => ?_) (fun c5 => ?_)
    · rw [if_pos c5] at hf
      refine lv_iconst (v := 0) hx hb dX5_isRequest_26 (by decide) ?_
      exact ks_zret C rfl hf hW hS dX5_isRequest_27
    · rw [if_neg c5] at hf
      refine lv_iload_n hx hb dX5_isRequest_12 rfl (lv_at hl 2 rfl) ?_
      refine lv_aload_n hx hb dX5_isRequest_13 rfl (lv_at hl 0 rfl) ?_
      refine va_get (D := D) (ci := 5) (v := .ref (ad 20 0 0)) (C := RX5) (T := TX5) (N := 34) hx hb hts in_X5_isRequest_5 hown hK (ks_P1 hW (ks_v14 (i := 0) (j := 0) (hE 14 rfl)) (ks_c14 cy ad o 0 0 _)) 0 rfl rfl 6 (by decide) (hts (.fieldLink RX5 25 "SpinKernelModel" "counts" "[I") (by decide +kernel)) (fun _ h => h) rfl dX5_isRequest_14 ?_
      refine lv_iload_n hx hb dX5_isRequest_17 rfl (lv_at hl 1 rfl) ?_
      obtain ⟨hi6, hf⟩ := ks_guard hf
      refine ks_iald hx hb hK hW (ks_v20 (i := 0) (j := 0) (hE 20 rfl)) (ks_c20 cy ad o 0 0 _) hi6 dX5_isRequest_18 ?_
      refine lv_icmp_ge (tgt := 26) hx hb dX5_isRequest_19 (by decide) (fun c7 => ?_) (fun c7 => ?_)
      · rw [if_pos c7] at hf
        refine lv_iconst (v := 0) hx hb dX5_isRequest_26 (by decide) ?_
        exact ks_zret C rfl hf hW hS dX5_isRequest_27
      · rw [if_neg c7] at hf
        refine lv_iconst (v := 1) hx hb dX5_isRequest_22 (by decide) ?_
        refine lv_goto (tgt := 27) hx hb dX5_isRequest_23 (by decide) ?_
        exact ks_zret C rfl hf hW hS dX5_isRequest_27
set_option maxHeartbeats 4000000 in
set_option maxRecDepth 100000 in
theorem m_X5_isRequest (l : Launch) (D : va_G) (cy : Nat → ClassId) (ad : ks_A) (En : Nat → Prop) (n0 : Nat → Prop) (hG : ks_G ad En n0) (hE : ∀ k, ks_g k = 1 → En k) (o : Int64) {σ : ks_S} {x1 : Int32} {x2 : Int32}  {out : (Int32 × ks_S)} (hf : f_X5_isRequest σ x1 x2 = some out) : Met l yX5_isRequest wsX5_isRequest (ks_Rm 1 0 0 21) (va_Pc [.ref (ad 14 0 0), .int x1, .int x2] (ks_U D cy ad En n0 σ o)) (ks_Qi D cy ad En n0 o out) 0 0 (ks_F n0) := by
  refine Met.ofW (cc := cX5_isRequest) (maxL := 3) (ret := some .boolean) (by decide) rfl ?_
  intro p e s m args below meth c s₁ B hml hv
  obtain ⟨rfl, hU⟩ := hv
  have hl := lv_entry ([.ref (ad 14 0 0), .int x1, .int x2]) (n := 3) (Nat.le_of_ble_eq_true rfl)
  rw [lg_entry_eq]
  generalize (lg_sl ([.ref (ad 14 0 0), .int x1, .int x2]) ++ List.replicate (3 - (lg_sl ([.ref (ad 14 0 0), .int x1, .int x2])).length) Slot.unset).toArray = ls at hl ⊢
  exact t_X5_isRequest ⟨B.exec, B.bytes, hml, B.returns, findClass_of_methodNamed B.named, atoms_spec (ws := wsX5_isRequest) B.pre, B.notSynchronized, hG, hU, hE⟩  hf hU.2.1 va_S.rf hl

/-! SpinKernelModel.within(III)Z -/
def f_X5_within (σ : ks_S) (x0 : Int32) (x1 : Int32) (x2 : Int32) : Option (Int32 × ks_S) :=
  (if x0 < x1 then some (0, σ) else (if x2 < x0 then some (0, σ) else some (1, σ)))
set_option maxHeartbeats 4000000 in
set_option maxRecDepth 100000 in
theorem t_X5_within {p : Program} {l : Launch} {e : Env} {s : State} {m : MethodId} {args : Array Value} {below : List Frame} {meth : Method} {c : Code} {D : va_G} {cy : Nat → ClassId} {ad : ks_A} {En : Nat → Prop} {n0 : Nat → Prop} {σ0 : ks_S} {o : Int64} {out : (Int32 × ks_S)} (C : ks_M p s m args meth c D cy ad En (fun k => ks_g k = 1) n0 σ0 o wsX5_within cX5_within RX5 3 (some .boolean)) {σ : ks_S} {x0 : Int32} {x1 : Int32} {x2 : Int32}  (hf : f_X5_within σ x0 x1 x2 = some out) {H : Heap} {locs : List Loc} {ls : Array Slot} (hW : ks_W D cy ad En σ o H) (hS : va_S (ks_F n0) s.heap H locs) (hl : lv_has ls 3 [(0, .int x0), (1, .int x1), (2, .int x2)]) : W p l e (ks_Rm 0 0 0 0) s m args below meth c H locs 0 0 (MQ below (ks_Qi D cy ad En n0 o out) args s 0 0 (ks_F n0)) (F0 m 0 ls []) := by
  obtain ⟨hx, hb, hml, hr, hown, hts, hlocks, hG, hU0, hE⟩ := id C
  have hK := hU0.2.2
  unfold f_X5_within at hf
  refine lv_iload_n hx hb dX5_within_0 rfl (lv_at hl 0 rfl) ?_
  refine lv_iload_n hx hb dX5_within_1 rfl (lv_at hl 1 rfl) ?_
  refine lv_icmp_lt (tgt := 14) hx hb dX5_within_2 (by decide) (fun c1 => ?_) (fun c1 => ?_)
  · rw [if_pos c1] at hf
    refine lv_iconst (v := 0) hx hb dX5_within_14 (by decide) ?_
    exact ks_zret C rfl hf hW hS dX5_within_15
  · rw [if_neg c1] at hf
    refine lv_iload_n hx hb dX5_within_5 rfl (lv_at hl 0 rfl) ?_
    refine lv_iload_n hx hb dX5_within_6 rfl (lv_at hl 2 rfl) ?_
    refine lv_icmp_gt (tgt := 14) hx hb dX5_within_7 (by decide) (fun c2 => ?_) (fun c2 => ?_)
    · rw [if_pos c2] at hf
      refine lv_iconst (v := 0) hx hb dX5_within_14 (by decide) ?_
      exact ks_zret C rfl hf hW hS dX5_within_15
    · rw [if_neg c2] at hf
      refine lv_iconst (v := 1) hx hb dX5_within_10 (by decide) ?_
      refine lv_goto (tgt := 15) hx hb dX5_within_11 (by decide) ?_
      exact ks_zret C rfl hf hW hS dX5_within_15
set_option maxHeartbeats 4000000 in
set_option maxRecDepth 100000 in
theorem m_X5_within (l : Launch) (D : va_G) (cy : Nat → ClassId) (ad : ks_A) (En : Nat → Prop) (n0 : Nat → Prop) (hG : ks_G ad En n0) (hE : ∀ k, ks_g k = 1 → En k) (o : Int64) {σ : ks_S} {x0 : Int32} {x1 : Int32} {x2 : Int32}  {out : (Int32 × ks_S)} (hf : f_X5_within σ x0 x1 x2 = some out) : Met l yX5_within wsX5_within (ks_Rm 0 0 0 0) (va_Pc [.int x0, .int x1, .int x2] (ks_U D cy ad En n0 σ o)) (ks_Qi D cy ad En n0 o out) 0 0 (ks_F n0) := by
  refine Met.ofW (cc := cX5_within) (maxL := 3) (ret := some .boolean) (by decide) rfl ?_
  intro p e s m args below meth c s₁ B hml hv
  obtain ⟨rfl, hU⟩ := hv
  have hl := lv_entry ([.int x0, .int x1, .int x2]) (n := 3) (Nat.le_of_ble_eq_true rfl)
  rw [lg_entry_eq]
  generalize (lg_sl ([.int x0, .int x1, .int x2]) ++ List.replicate (3 - (lg_sl ([.int x0, .int x1, .int x2])).length) Slot.unset).toArray = ls at hl ⊢
  exact t_X5_within ⟨B.exec, B.bytes, hml, B.returns, findClass_of_methodNamed B.named, atoms_spec (ws := wsX5_within) B.pre, B.notSynchronized, hG, hU, hE⟩  hf hU.2.1 va_S.rf hl

/-! SpinKernelModel.hasPriority(II)Z -/
def f_X5_hasPriority_2 (N : Nat) : Nat → ks_S → Int32 → Int32 → Int32 → Option (Int32 × ks_S)
  | 0, _, _, _, _ => none
  | n + 1, σ, x1, x2, x3 => (if 16 ≤ x3 then some (0, σ) else (if ks_in x3 16 = true then (if ((σ 15 0 0 x3.toNatClampNeg)) = x1 then (if x1 < 0 then f_X5_hasPriority_2 N n σ x1 x2 ((x3 + 1)) else (if ks_in x3 16 = true then (if ((σ 16 0 0 x3.toNatClampNeg)) = x2 then some (1, σ) else f_X5_hasPriority_2 N n σ x1 x2 ((x3 + 1))) else none)) else f_X5_hasPriority_2 N n σ x1 x2 ((x3 + 1))) else none))
def f_X5_hasPriority (N : Nat) (σ : ks_S) (x1 : Int32) (x2 : Int32) : Option (Int32 × ks_S) :=
  f_X5_hasPriority_2 N N σ x1 x2 0
theorem in_X5_hasPriority_5 : ∀ w ∈ wsX50, w ∈ wsX5_hasPriority := by decide +kernel
set_option maxHeartbeats 4000000 in
set_option maxRecDepth 100000 in
theorem t_X5_hasPriority_2 {p : Program} {l : Launch} {e : Env} {s : State} {m : MethodId} {args : Array Value} {below : List Frame} {meth : Method} {c : Code} {D : va_G} {cy : Nat → ClassId} {ad : ks_A} {En : Nat → Prop} {n0 : Nat → Prop} {σ0 : ks_S} {o : Int64} {N : Nat} {out : (Int32 × ks_S)} (C : ks_M p s m args meth c D cy ad En (fun k => ks_g k = 1) n0 σ0 o wsX5_hasPriority cX5_hasPriority RX5 4 (some .boolean)) : ∀ (n : Nat) (σ : ks_S) (x1 : Int32) (x2 : Int32) (x3 : Int32), f_X5_hasPriority_2 N n σ x1 x2 x3 = some out → ∀ {H : Heap} {locs : List Loc} {ls : Array Slot}, ks_W D cy ad En σ o H → va_S (ks_F n0) s.heap H locs → lv_has ls 4 [(0, .ref (ad 14 0 0)), (1, .int x1), (2, .int x2), (3, .int x3)] → W p l e (ks_Rm 0 0 0 0) s m args below meth c H locs 0 0 (MQ below (ks_Qi D cy ad En n0 o out) args s 0 0 (ks_F n0)) (F0 m 2 ls []) := by
  obtain ⟨hx, hb, hml, hr, hown, hts, hlocks, hG, hU0, hE⟩ := id C
  have hK := hU0.2.2
  intro n
  induction n with
  | zero => intro σ x1 x2 x3; intro  hf; exact absurd hf (by simp [f_X5_hasPriority_2])
  | succ n hk2 =>
    intro σ x1 x2 x3  hf H locs ls hW hS hl
    rw [f_X5_hasPriority_2] at hf
    refine lv_iload_n hx hb dX5_hasPriority_2 rfl (lv_at hl 3 rfl) ?_
    refine lv_bipush (v := 16) hx hb dX5_hasPriority_3 (by decide) ?_
    refine lv_icmp_ge (tgt := 40) hx hb dX5_hasPriority_5 (by decide) (fun c1 => ?_) (fun c1 => ?_)
    · rw [if_pos c1] at hf
      refine lv_iconst (v := 0) hx hb dX5_hasPriority_40 (by decide) ?_
      exact ks_zret C rfl hf hW hS dX5_hasPriority_41
    · rw [if_neg c1] at hf
      refine lv_aload_n hx hb dX5_hasPriority_8 rfl (lv_at hl 0 rfl) ?_
      refine va_get (D := D) (ci := 5) (v := .ref (ad 15 0 0)) (C := RX5) (T := TX5) (N := 34) hx hb hts in_X5_hasPriority_5 hown hK (ks_P1 hW (ks_v14 (i := 0) (j := 0) (hE 14 rfl)) (ks_c14 cy ad o 0 0 _)) 0 rfl rfl 1 (by decide) (hts (.fieldLink RX5 7 "SpinKernelModel" "cores" "[I") (by decide +kernel)) (fun _ h => h) rfl dX5_hasPriority_9 ?_
      refine lv_iload_n hx hb dX5_hasPriority_12 rfl (lv_at hl 3 rfl) ?_
      obtain ⟨hi2, hf⟩ := ks_guard hf
      refine ks_iald hx hb hK hW (ks_v15 (i := 0) (j := 0) (hE 15 rfl)) (ks_c15 cy ad o 0 0 _) hi2 dX5_hasPriority_13 ?_
      refine lv_iload_n hx hb dX5_hasPriority_14 rfl (lv_at hl 1 rfl) ?_
      refine lv_icmp_ne (tgt := 34) hx hb dX5_hasPriority_15 (by decide) (fun c3 => ?_) (fun c3 => ?_)
      · rw [if_neg c3] at hf
        refine lv_iinc (v := (x3 + 1)) (lv' := [(3, .int (x3 + 1)), (0, .ref (ad 14 0 0)), (1, .int x1), (2, .int x2)]) hx hb dX5_hasPriority_34 hl (k := 3) rfl rfl (by decide) rfl (fun ls hl => ?_)
        refine lv_goto (tgt := 2) hx hb dX5_hasPriority_37 (by decide) ?_
        exact hk2 _ _ _ _ hf hW hS (lv_sub hl [1, 2, 3, 0] rfl)
      · rw [if_pos c3] at hf
        refine lv_iload_n hx hb dX5_hasPriority_18 rfl (lv_at hl 1 rfl) ?_
        refine lv_if_lt (tgt := 34) hx hb dX5_hasPriority_19 (by decide) (fun c4 => ?_) (fun c4 => ?_)
        · rw [if_pos c4] at hf
          refine lv_iinc (v := (x3 + 1)) (lv' := [(3, .int (x3 + 1)), (0, .ref (ad 14 0 0)), (1, .int x1), (2, .int x2)]) hx hb dX5_hasPriority_34 hl (k := 3) rfl rfl (by decide) rfl (fun ls hl => ?_)
          refine lv_goto (tgt := 2) hx hb dX5_hasPriority_37 (by decide) ?_
          exact hk2 _ _ _ _ hf hW hS (lv_sub hl [1, 2, 3, 0] rfl)
        · rw [if_neg c4] at hf
          refine lv_aload_n hx hb dX5_hasPriority_22 rfl (lv_at hl 0 rfl) ?_
          refine va_get (D := D) (ci := 5) (v := .ref (ad 16 0 0)) (C := RX5) (T := TX5) (N := 34) hx hb hts in_X5_hasPriority_5 hown hK (ks_P1 hW (ks_v14 (i := 0) (j := 0) (hE 14 rfl)) (ks_c14 cy ad o 0 0 _)) 0 rfl rfl 2 (by decide) (hts (.fieldLink RX5 13 "SpinKernelModel" "priorities" "[I") (by decide +kernel)) (fun _ h => h) rfl dX5_hasPriority_23 ?_
          refine lv_iload_n hx hb dX5_hasPriority_26 rfl (lv_at hl 3 rfl) ?_
          obtain ⟨hi5, hf⟩ := ks_guard hf
          refine ks_iald hx hb hK hW (ks_v16 (i := 0) (j := 0) (hE 16 rfl)) (ks_c16 cy ad o 0 0 _) hi5 dX5_hasPriority_27 ?_
          refine lv_iload_n hx hb dX5_hasPriority_28 rfl (lv_at hl 2 rfl) ?_
          refine lv_icmp_ne (tgt := 34) hx hb dX5_hasPriority_29 (by decide) (fun c6 => ?_) (fun c6 => ?_)
          · rw [if_neg c6] at hf
            refine lv_iinc (v := (x3 + 1)) (lv' := [(3, .int (x3 + 1)), (0, .ref (ad 14 0 0)), (1, .int x1), (2, .int x2)]) hx hb dX5_hasPriority_34 hl (k := 3) rfl rfl (by decide) rfl (fun ls hl => ?_)
            refine lv_goto (tgt := 2) hx hb dX5_hasPriority_37 (by decide) ?_
            exact hk2 _ _ _ _ hf hW hS (lv_sub hl [1, 2, 3, 0] rfl)
          · rw [if_pos c6] at hf
            refine lv_iconst (v := 1) hx hb dX5_hasPriority_32 (by decide) ?_
            exact ks_zret C rfl hf hW hS dX5_hasPriority_33
set_option maxHeartbeats 4000000 in
set_option maxRecDepth 100000 in
theorem t_X5_hasPriority {p : Program} {l : Launch} {e : Env} {s : State} {m : MethodId} {args : Array Value} {below : List Frame} {meth : Method} {c : Code} {D : va_G} {cy : Nat → ClassId} {ad : ks_A} {En : Nat → Prop} {n0 : Nat → Prop} {σ0 : ks_S} {o : Int64} {N : Nat} {out : (Int32 × ks_S)} (C : ks_M p s m args meth c D cy ad En (fun k => ks_g k = 1) n0 σ0 o wsX5_hasPriority cX5_hasPriority RX5 4 (some .boolean)) {σ : ks_S} {x1 : Int32} {x2 : Int32}  (hf : f_X5_hasPriority N σ x1 x2 = some out) {H : Heap} {locs : List Loc} {ls : Array Slot} (hW : ks_W D cy ad En σ o H) (hS : va_S (ks_F n0) s.heap H locs) (hl : lv_has ls 4 [(0, .ref (ad 14 0 0)), (1, .int x1), (2, .int x2)]) : W p l e (ks_Rm 0 0 0 0) s m args below meth c H locs 0 0 (MQ below (ks_Qi D cy ad En n0 o out) args s 0 0 (ks_F n0)) (F0 m 0 ls []) := by
  obtain ⟨hx, hb, hml, hr, hown, hts, hlocks, hG, hU0, hE⟩ := id C
  have hK := hU0.2.2
  unfold f_X5_hasPriority at hf
  refine lv_iconst (v := 0) hx hb dX5_hasPriority_0 (by decide) ?_
  refine lv_istore_n (lv' := [(3, .int 0), (0, .ref (ad 14 0 0)), (1, .int x1), (2, .int x2)]) hx hb dX5_hasPriority_1 rfl hl (by decide) rfl (fun ls hl => ?_)
  exact t_X5_hasPriority_2 C _ _ _ _ _  hf hW hS (lv_sub hl [1, 2, 3, 0] rfl)
set_option maxHeartbeats 4000000 in
set_option maxRecDepth 100000 in
theorem m_X5_hasPriority (l : Launch) (D : va_G) (cy : Nat → ClassId) (ad : ks_A) (En : Nat → Prop) (n0 : Nat → Prop) (hG : ks_G ad En n0) (hE : ∀ k, ks_g k = 1 → En k) (o : Int64) {N : Nat} {σ : ks_S} {x1 : Int32} {x2 : Int32}  {out : (Int32 × ks_S)} (hf : f_X5_hasPriority N σ x1 x2 = some out) : Met l yX5_hasPriority wsX5_hasPriority (ks_Rm 0 0 0 0) (va_Pc [.ref (ad 14 0 0), .int x1, .int x2] (ks_U D cy ad En n0 σ o)) (ks_Qi D cy ad En n0 o out) 0 0 (ks_F n0) := by
  refine Met.ofW (cc := cX5_hasPriority) (maxL := 4) (ret := some .boolean) (by decide) rfl ?_
  intro p e s m args below meth c s₁ B hml hv
  obtain ⟨rfl, hU⟩ := hv
  have hl := lv_entry ([.ref (ad 14 0 0), .int x1, .int x2]) (n := 4) (Nat.le_of_ble_eq_true rfl)
  rw [lg_entry_eq]
  generalize (lg_sl ([.ref (ad 14 0 0), .int x1, .int x2]) ++ List.replicate (4 - (lg_sl ([.ref (ad 14 0 0), .int x1, .int x2])).length) Slot.unset).toArray = ls at hl ⊢
  exact t_X5_hasPriority ⟨B.exec, B.bytes, hml, B.returns, findClass_of_methodNamed B.named, atoms_spec (ws := wsX5_hasPriority) B.pre, B.notSynchronized, hG, hU, hE⟩  hf hU.2.1 va_S.rf hl

/-! SpinKernelModel.task(IIIIII)V -/
def f_X5_task_131 (N : Nat) (σ : ks_S) (x1 : Int32) (x2 : Int32) (x3 : Int32) (x4 : Int32) (x5 : Int32) (x6 : Int32) (xs0 : Int32) (xs1 : Int32) (xs2 : Int32) : Option ks_S :=
  ((f_X5_refused σ xs2 xs1 xs0).bind fun (r13, s12) => (if r13 = 0 then (if ks_in x1 16 = true then (if ks_in x1 16 = true then (if ks_in x1 16 = true then (if ks_in x1 16 = true then (if ks_in x1 16 = true then (if ks_in x1 16 = true then some ((ks_up (ks_up (ks_up (ks_up (ks_up (ks_up s12 15 0 0 x1.toNatClampNeg x2) 16 0 0 x1.toNatClampNeg x3) 17 0 0 x1.toNatClampNeg x4) 18 0 0 x1.toNatClampNeg x5) 19 0 0 x1.toNatClampNeg x6) 20 0 0 x1.toNatClampNeg 0)) else none) else none) else none) else none) else none) else none) else some s12))
def f_X5_task_114 (N : Nat) (σ : ks_S) (x1 : Int32) (x2 : Int32) (x3 : Int32) (x4 : Int32) (x5 : Int32) (x6 : Int32) (x7 : Int32) (x8 : Int32) (xs0 : Int32) : Option ks_S :=
  (if xs0 = 0 then f_X5_task_131 N σ x1 x2 x3 x4 x5 x6 1 x8 x7 else f_X5_task_131 N σ x1 x2 x3 x4 x5 x6 0 x8 x7)
def f_X5_task_113 (N : Nat) (σ : ks_S) (x1 : Int32) (x2 : Int32) (x3 : Int32) (x4 : Int32) (x5 : Int32) (x6 : Int32) (x7 : Int32) (x8 : Int32) : Option ks_S :=
  f_X5_task_114 N σ x1 x2 x3 x4 x5 x6 x7 x8 0
def f_X5_task_43 (N : Nat) (σ : ks_S) (x1 : Int32) (x2 : Int32) (x3 : Int32) (x4 : Int32) (x5 : Int32) (x6 : Int32) (x7 : Int32) (xs0 : Int32) : Option ks_S :=
  ((f_X5_within σ x2 0 3).bind fun (r8, s7) => (if r8 = 0 then f_X5_task_113 N s7 x1 x2 x3 x4 x5 x6 x7 xs0 else ((f_X5_within s7 x3 0 1000).bind fun (r23, s22) => (if r23 = 0 then f_X5_task_113 N s22 x1 x2 x3 x4 x5 x6 x7 xs0 else ((f_X5_within s22 x4 1 10000).bind fun (r27, s26) => (if r27 = 0 then f_X5_task_113 N s26 x1 x2 x3 x4 x5 x6 x7 xs0 else ((f_X5_within s26 x5 1 x4).bind fun (r31, s30) => (if r31 = 0 then f_X5_task_113 N s30 x1 x2 x3 x4 x5 x6 x7 xs0 else ((f_X5_within s30 x6 1 1000).bind fun (r35, s34) => (if r35 = 0 then f_X5_task_113 N s34 x1 x2 x3 x4 x5 x6 x7 xs0 else ((f_X5_hasPriority N s34 x2 x3).bind fun (r39, s38) => (if r39 = 0 then f_X5_task_114 N s38 x1 x2 x3 x4 x5 x6 x7 xs0 1 else f_X5_task_113 N s38 x1 x2 x3 x4 x5 x6 x7 xs0))))))))))))
def f_X5_task_42 (N : Nat) (σ : ks_S) (x1 : Int32) (x2 : Int32) (x3 : Int32) (x4 : Int32) (x5 : Int32) (x6 : Int32) (x7 : Int32) : Option ks_S :=
  f_X5_task_43 N σ x1 x2 x3 x4 x5 x6 x7 0
def f_X5_task_38 (N : Nat) (σ : ks_S) (x1 : Int32) (x2 : Int32) (x3 : Int32) (x4 : Int32) (x5 : Int32) (x6 : Int32) (x7 : Int32) : Option ks_S :=
  f_X5_task_43 N σ x1 x2 x3 x4 x5 x6 x7 1
def f_X5_task_15 (N : Nat) (σ : ks_S) (x1 : Int32) (x2 : Int32) (x3 : Int32) (x4 : Int32) (x5 : Int32) (x6 : Int32) (xs0 : Int32) : Option ks_S :=
  (if xs0 = 0 then (if ((σ 14 0 0 12)) = 0 then (if ks_in x1 16 = true then (if ((σ 15 0 0 x1.toNatClampNeg)) < 0 then f_X5_task_42 N σ x1 x2 x3 x4 x5 x6 xs0 else f_X5_task_38 N σ x1 x2 x3 x4 x5 x6 xs0) else none) else f_X5_task_38 N σ x1 x2 x3 x4 x5 x6 xs0) else f_X5_task_42 N σ x1 x2 x3 x4 x5 x6 xs0)
def f_X5_task (N : Nat) (σ : ks_S) (x1 : Int32) (x2 : Int32) (x3 : Int32) (x4 : Int32) (x5 : Int32) (x6 : Int32) : Option ks_S :=
  ((f_X5_within σ x1 0 15).bind fun (r3, s2) => (if r3 = 0 then f_X5_task_15 N s2 x1 x2 x3 x4 x5 x6 1 else f_X5_task_15 N s2 x1 x2 x3 x4 x5 x6 0))
theorem in_X5_task_5 : ∀ w ∈ wsX50, w ∈ wsX5_task := by decide +kernel
set_option maxHeartbeats 4000000 in
set_option maxRecDepth 100000 in
theorem t_X5_task_131 {p : Program} {l : Launch} {e : Env} {s : State} {m : MethodId} {args : Array Value} {below : List Frame} {meth : Method} {c : Code} {D : va_G} {cy : Nat → ClassId} {ad : ks_A} {En : Nat → Prop} {n0 : Nat → Prop} {σ0 : ks_S} {o : Int64} {N : Nat} {out : ks_S} (C : ks_M p s m args meth c D cy ad En (fun k => ks_g k = 1) n0 σ0 o wsX5_task cX5_task RX5 10 (none)) {σ : ks_S} {x1 : Int32} {x2 : Int32} {x3 : Int32} {x4 : Int32} {x5 : Int32} {x6 : Int32} {xs0 : Int32} {xs1 : Int32} {xs2 : Int32}  (hf : f_X5_task_131 N σ x1 x2 x3 x4 x5 x6 xs0 xs1 xs2 = some out) {H : Heap} {locs : List Loc} {ls : Array Slot} (hW : ks_W D cy ad En σ o H) (hS : va_S (ks_F n0) s.heap H locs) (hl : lv_has ls 10 [(0, .ref (ad 14 0 0)), (1, .int x1), (2, .int x2), (3, .int x3), (4, .int x4), (5, .int x5), (6, .int x6)]) : W p l e (ks_Rm 1 0 0 23) s m args below meth c H locs 0 0 (MQ below (ks_Qv D cy ad En n0 o out) args s 0 0 (ks_F n0)) (F0 m 131 ls [.int xs0, .int xs1, .int xs2, .ref (ad 14 0 0)]) := by
  obtain ⟨hx, hb, hml, hr, hown, hts, hlocks, hG, hU0, hE⟩ := id C
  have hK := hU0.2.2
  unfold f_X5_task_131 at hf
  obtain ⟨⟨r13, s12⟩, hc11, hf⟩ := ks_bind hf
  try dsimp only at hf
  refine ks_calli (va_runV (As := [.int xs2, .int xs1, .int xs0]) (rest := []) ⟨hx, hb, hml, hown, hts⟩ (m_X5_refused l D cy ad En n0 hG hE o hc11) (cwV 3 hts gX5_task_X5_refused rfl rfl rfl (by decide +kernel) ⟨(Nat.le_of_ble_eq_true rfl), (Nat.le_of_ble_eq_true rfl)⟩) ⟨ks_U.blind, ks_recv hK hW (ks_v14 (i := 0) (j := 0) (hE 14 rfl)) (ks_c14 cy ad o 0 0 _) rfl, fun U hU hWm => ⟨rfl, hU0.now hS hW hWm.alike hU⟩⟩ rfl rfl hl.1 rfl (lv_room (Nat.le_of_ble_eq_true rfl)) dX5_task_131 ⟨(Nat.le_of_ble_eq_true rfl), (Nat.le_of_ble_eq_true rfl)⟩) hS (fun H locs hW hS => ?_)
  refine lv_if_eq (tgt := 138) hx hb dX5_task_134 (by decide) (fun c14 => ?_) (fun c14 => ?_)
  · rw [if_pos c14] at hf
    refine lv_aload_n hx hb dX5_task_138 rfl (lv_at hl 0 rfl) ?_
    refine va_get (D := D) (ci := 5) (v := .ref (ad 15 0 0)) (C := RX5) (T := TX5) (N := 34) hx hb hts in_X5_task_5 hown hK (ks_P1 hW (ks_v14 (i := 0) (j := 0) (hE 14 rfl)) (ks_c14 cy ad o 0 0 _)) 0 rfl rfl 1 (by decide) (hts (.fieldLink RX5 7 "SpinKernelModel" "cores" "[I") (by decide +kernel)) (fun _ h => h) rfl dX5_task_139 ?_
    refine lv_iload_n hx hb dX5_task_142 rfl (lv_at hl 1 rfl) ?_
    refine lv_iload_n hx hb dX5_task_143 rfl (lv_at hl 2 rfl) ?_
    obtain ⟨hi15, hf⟩ := ks_guard hf
    refine ks_iast hx hb hK hG hW hS (ks_v15 (i := 0) (j := 0) (hE 15 rfl)) (fun c => ks_c15 cy ad o 0 0 c) hi15 dX5_task_144 (fun H locs hW hS => ?_)
    refine lv_aload_n hx hb dX5_task_145 rfl (lv_at hl 0 rfl) ?_
    refine va_get (D := D) (ci := 5) (v := .ref (ad 16 0 0)) (C := RX5) (T := TX5) (N := 34) hx hb hts in_X5_task_5 hown hK (ks_P1 hW (ks_v14 (i := 0) (j := 0) (hE 14 rfl)) (ks_c14 cy ad o 0 0 _)) 0 rfl rfl 2 (by decide) (hts (.fieldLink RX5 13 "SpinKernelModel" "priorities" "[I") (by decide +kernel)) (fun _ h => h) rfl dX5_task_146 ?_
    refine lv_iload_n hx hb dX5_task_149 rfl (lv_at hl 1 rfl) ?_
    refine lv_iload_n hx hb dX5_task_150 rfl (lv_at hl 3 rfl) ?_
    obtain ⟨hi16, hf⟩ := ks_guard hf
    refine ks_iast hx hb hK hG hW hS (ks_v16 (i := 0) (j := 0) (hE 16 rfl)) (fun c => ks_c16 cy ad o 0 0 c) hi16 dX5_task_151 (fun H locs hW hS => ?_)
    refine lv_aload_n hx hb dX5_task_152 rfl (lv_at hl 0 rfl) ?_
    refine va_get (D := D) (ci := 5) (v := .ref (ad 17 0 0)) (C := RX5) (T := TX5) (N := 34) hx hb hts in_X5_task_5 hown hK (ks_P1 hW (ks_v14 (i := 0) (j := 0) (hE 14 rfl)) (ks_c14 cy ad o 0 0 _)) 0 rfl rfl 3 (by decide) (hts (.fieldLink RX5 16 "SpinKernelModel" "distances" "[I") (by decide +kernel)) (fun _ h => h) rfl dX5_task_153 ?_
    refine lv_iload_n hx hb dX5_task_156 rfl (lv_at hl 1 rfl) ?_
    refine lv_iload hx hb dX5_task_157 (lv_at hl 4 rfl) ?_
    obtain ⟨hi17, hf⟩ := ks_guard hf
    refine ks_iast hx hb hK hG hW hS (ks_v17 (i := 0) (j := 0) (hE 17 rfl)) (fun c => ks_c17 cy ad o 0 0 c) hi17 dX5_task_159 (fun H locs hW hS => ?_)
    refine lv_aload_n hx hb dX5_task_160 rfl (lv_at hl 0 rfl) ?_
    refine va_get (D := D) (ci := 5) (v := .ref (ad 18 0 0)) (C := RX5) (T := TX5) (N := 34) hx hb hts in_X5_task_5 hown hK (ks_P1 hW (ks_v14 (i := 0) (j := 0) (hE 14 rfl)) (ks_c14 cy ad o 0 0 _)) 0 rfl rfl 4 (by decide) (hts (.fieldLink RX5 19 "SpinKernelModel" "deadlines" "[I") (by decide +kernel)) (fun _ h => h) rfl dX5_task_161 ?_
    refine lv_iload_n hx hb dX5_task_164 rfl (lv_at hl 1 rfl) ?_
    refine lv_iload hx hb dX5_task_165 (lv_at hl 5 rfl) ?_
    obtain ⟨hi18, hf⟩ := ks_guard hf
    refine ks_iast hx hb hK hG hW hS (ks_v18 (i := 0) (j := 0) (hE 18 rfl)) (fun c => ks_c18 cy ad o 0 0 c) hi18 dX5_task_167 (fun H locs hW hS => ?_)
    refine lv_aload_n hx hb dX5_task_168 rfl (lv_at hl 0 rfl) ?_
    refine va_get (D := D) (ci := 5) (v := .ref (ad 19 0 0)) (C := RX5) (T := TX5) (N := 34) hx hb hts in_X5_task_5 hown hK (ks_P1 hW (ks_v14 (i := 0) (j := 0) (hE 14 rfl)) (ks_c14 cy ad o 0 0 _)) 0 rfl rfl 5 (by decide) (hts (.fieldLink RX5 22 "SpinKernelModel" "works" "[I") (by decide +kernel)) (fun _ h => h) rfl dX5_task_169 ?_
    refine lv_iload_n hx hb dX5_task_172 rfl (lv_at hl 1 rfl) ?_
    refine lv_iload hx hb dX5_task_173 (lv_at hl 6 rfl) ?_
    obtain ⟨hi19, hf⟩ := ks_guard hf
    refine ks_iast hx hb hK hG hW hS (ks_v19 (i := 0) (j := 0) (hE 19 rfl)) (fun c => ks_c19 cy ad o 0 0 c) hi19 dX5_task_175 (fun H locs hW hS => ?_)
    refine lv_aload_n hx hb dX5_task_176 rfl (lv_at hl 0 rfl) ?_
    refine va_get (D := D) (ci := 5) (v := .ref (ad 20 0 0)) (C := RX5) (T := TX5) (N := 34) hx hb hts in_X5_task_5 hown hK (ks_P1 hW (ks_v14 (i := 0) (j := 0) (hE 14 rfl)) (ks_c14 cy ad o 0 0 _)) 0 rfl rfl 6 (by decide) (hts (.fieldLink RX5 25 "SpinKernelModel" "counts" "[I") (by decide +kernel)) (fun _ h => h) rfl dX5_task_177 ?_
    refine lv_iload_n hx hb dX5_task_180 rfl (lv_at hl 1 rfl) ?_
    refine lv_iconst (v := 0) hx hb dX5_task_181 (by decide) ?_
    obtain ⟨hi20, hf⟩ := ks_guard hf
    refine ks_iast hx hb hK hG hW hS (ks_v20 (i := 0) (j := 0) (hE 20 rfl)) (fun c => ks_c20 cy ad o 0 0 c) hi20 dX5_task_182 (fun H locs hW hS => ?_)
    exact ks_vret C hf hW hS dX5_task_183
  · rw [if_neg c14] at hf
    exact ks_vret C hf hW hS dX5_task_137
set_option maxHeartbeats 4000000 in
set_option maxRecDepth 100000 in
theorem t_X5_task_114 {p : Program} {l : Launch} {e : Env} {s : State} {m : MethodId} {args : Array Value} {below : List Frame} {meth : Method} {c : Code} {D : va_G} {cy : Nat → ClassId} {ad : ks_A} {En : Nat → Prop} {n0 : Nat → Prop} {σ0 : ks_S} {o : Int64} {N : Nat} {out : ks_S} (C : ks_M p s m args meth c D cy ad En (fun k => ks_g k = 1) n0 σ0 o wsX5_task cX5_task RX5 10 (none)) {σ : ks_S} {x1 : Int32} {x2 : Int32} {x3 : Int32} {x4 : Int32} {x5 : Int32} {x6 : Int32} {x7 : Int32} {x8 : Int32} {xs0 : Int32}  (hf : f_X5_task_114 N σ x1 x2 x3 x4 x5 x6 x7 x8 xs0 = some out) {H : Heap} {locs : List Loc} {ls : Array Slot} (hW : ks_W D cy ad En σ o H) (hS : va_S (ks_F n0) s.heap H locs) (hl : lv_has ls 10 [(0, .ref (ad 14 0 0)), (1, .int x1), (2, .int x2), (3, .int x3), (4, .int x4), (5, .int x5), (6, .int x6), (7, .int x7), (8, .int x8)]) : W p l e (ks_Rm 1 0 0 23) s m args below meth c H locs 0 0 (MQ below (ks_Qv D cy ad En n0 o out) args s 0 0 (ks_F n0)) (F0 m 114 ls [.int xs0]) := by
  obtain ⟨hx, hb, hml, hr, hown, hts, hlocks, hG, hU0, hE⟩ := id C
  have hK := hU0.2.2
  unfold f_X5_task_114 at hf
  refine lv_istore (lv' := [(9, .int xs0), (0, .ref (ad 14 0 0)), (1, .int x1), (2, .int x2), (3, .int x3), (4, .int x4), (5, .int x5), (6, .int x6), (7, .int x7), (8, .int x8)]) hx hb dX5_task_114 hl (by decide) rfl (fun ls hl => ?_)
  refine lv_aload_n hx hb dX5_task_116 rfl (lv_at hl 1 rfl) ?_
  refine lv_iload hx hb dX5_task_117 (lv_at hl 8 rfl) ?_
  refine lv_iload hx hb dX5_task_119 (lv_at hl 9 rfl) ?_
  refine lv_iload hx hb dX5_task_121 (lv_at hl 0 rfl) ?_
  refine lv_if_ne (tgt := 130) hx hb dX5_task_123 (by decide) (fun c10 => ?_) (fun c10 => ?_)
  · rw [if_neg c10] at hf
    refine lv_iconst (v := 0) hx hb dX5_task_130 (by decide) ?_
    exact t_X5_task_131 C  hf hW hS (lv_sub hl [1, 2, 3, 4, 5, 6, 7] rfl)
  · rw [if_pos c10] at hf
    refine lv_iconst (v := 1) hx hb dX5_task_126 (by decide) ?_
    refine lv_goto (tgt := 131) hx hb dX5_task_127 (by decide) ?_
    exact t_X5_task_131 C  hf hW hS (lv_sub hl [1, 2, 3, 4, 5, 6, 7] rfl)
set_option maxHeartbeats 4000000 in
set_option maxRecDepth 100000 in
theorem t_X5_task_113 {p : Program} {l : Launch} {e : Env} {s : State} {m : MethodId} {args : Array Value} {below : List Frame} {meth : Method} {c : Code} {D : va_G} {cy : Nat → ClassId} {ad : ks_A} {En : Nat → Prop} {n0 : Nat → Prop} {σ0 : ks_S} {o : Int64} {N : Nat} {out : ks_S} (C : ks_M p s m args meth c D cy ad En (fun k => ks_g k = 1) n0 σ0 o wsX5_task cX5_task RX5 10 (none)) {σ : ks_S} {x1 : Int32} {x2 : Int32} {x3 : Int32} {x4 : Int32} {x5 : Int32} {x6 : Int32} {x7 : Int32} {x8 : Int32}  (hf : f_X5_task_113 N σ x1 x2 x3 x4 x5 x6 x7 x8 = some out) {H : Heap} {locs : List Loc} {ls : Array Slot} (hW : ks_W D cy ad En σ o H) (hS : va_S (ks_F n0) s.heap H locs) (hl : lv_has ls 10 [(0, .ref (ad 14 0 0)), (1, .int x1), (2, .int x2), (3, .int x3), (4, .int x4), (5, .int x5), (6, .int x6), (7, .int x7), (8, .int x8)]) : W p l e (ks_Rm 1 0 0 23) s m args below meth c H locs 0 0 (MQ below (ks_Qv D cy ad En n0 o out) args s 0 0 (ks_F n0)) (F0 m 113 ls []) := by
  obtain ⟨hx, hb, hml, hr, hown, hts, hlocks, hG, hU0, hE⟩ := id C
  have hK := hU0.2.2
  unfold f_X5_task_113 at hf
  refine lv_iconst (v := 0) hx hb dX5_task_113 (by decide) ?_
  exact t_X5_task_114 C  hf hW hS (lv_sub hl [0, 1, 2, 3, 4, 5, 6, 7, 8] rfl)
set_option maxHeartbeats 4000000 in
set_option maxRecDepth 100000 in
theorem t_X5_task_43 {p : Program} {l : Launch} {e : Env} {s : State} {m : MethodId} {args : Array Value} {below : List Frame} {meth : Method} {c : Code} {D : va_G} {cy : Nat → ClassId} {ad : ks_A} {En : Nat → Prop} {n0 : Nat → Prop} {σ0 : ks_S} {o : Int64} {N : Nat} {out : ks_S} (C : ks_M p s m args meth c D cy ad En (fun k => ks_g k = 1) n0 σ0 o wsX5_task cX5_task RX5 10 (none)) {σ : ks_S} {x1 : Int32} {x2 : Int32} {x3 : Int32} {x4 : Int32} {x5 : Int32} {x6 : Int32} {x7 : Int32} {xs0 : Int32}  (hf : f_X5_task_43 N σ x1 x2 x3 x4 x5 x6 x7 xs0 = some out) {H : Heap} {locs : List Loc} {ls : Array Slot} (hW : ks_W D cy ad En σ o H) (hS : va_S (ks_F n0) s.heap H locs) (hl : lv_has ls 10 [(0, .ref (ad 14 0 0)), (1, .int x1), (2, .int x2), (3, .int x3), (4, .int x4), (5, .int x5), (6, .int x6), (7, .int x7)]) : W p l e (ks_Rm 1 0 0 23) s m args below meth c H locs 0 0 (MQ below (ks_Qv D cy ad En n0 o out) args s 0 0 (ks_F n0)) (F0 m 43 ls [.int xs0]) := by
  obtain ⟨hx, hb, hml, hr, hown, hts, hlocks, hG, hU0, hE⟩ := id C
  have hK := hU0.2.2
  unfold f_X5_task_43 at hf
  refine lv_istore (lv' := [(8, .int xs0), (0, .ref (ad 14 0 0)), (1, .int x1), (2, .int x2), (3, .int x3), (4, .int x4), (5, .int x5), (6, .int x6), (7, .int x7)]) hx hb dX5_task_43 hl (by decide) rfl (fun ls hl => ?_)
  refine lv_iload_n hx hb dX5_task_45 rfl (lv_at hl 3 rfl) ?_
  refine lv_iconst (v := 0) hx hb dX5_task_46 (by decide) ?_
  refine lv_iconst (v := 3) hx hb dX5_task_47 (by decide) ?_
  obtain ⟨⟨r8, s7⟩, hc6, hf⟩ := ks_bind hf
  try dsimp only at hf
  refine ks_calli (va_runS (As := [.int x2, .int 0, .int 3]) (rest := []) ⟨hx, hb, hml, hown, hts⟩ (m_X5_within l D cy ad En n0 hG hE o hc6) (va_cwS 3 hts gX5_task_X5_within rfl rfl rfl (by decide +kernel) ⟨(Nat.le_of_ble_eq_true rfl), (Nat.le_of_ble_eq_true rfl)⟩) ⟨ks_U.blind, fun U hU hWm => ⟨rfl, hU0.now hS hW hWm.alike hU⟩⟩ rfl rfl hl.1 rfl (lv_room (Nat.le_of_ble_eq_true rfl)) dX5_task_48 ⟨(Nat.le_of_ble_eq_true rfl), (Nat.le_of_ble_eq_true rfl)⟩) hS (fun H locs hW hS => ?_)
  refine lv_if_eq (tgt := 113) hx hb dX5_task_51 (by decide) (fun c9 => ?_) (fun c9 => ?_)
  · rw [if_pos c9] at hf
    exact t_X5_task_113 C  hf hW hS (lv_sub hl [1, 2, 3, 4, 5, 6, 7, 8, 0] rfl)
  · rw [if_neg c9] at hf
    refine lv_iload_n hx hb dX5_task_54 rfl (lv_at hl 4 rfl) ?_
    refine lv_iconst (v := 0) hx hb dX5_task_55 (by decide) ?_
    refine lv_sipush (v := 1000) hx hb dX5_task_56 (by decide) ?_
    obtain ⟨⟨r23, s22⟩, hc21, hf⟩ := ks_bind hf
    try dsimp only at hf
    refine ks_calli (va_runS (As := [.int x3, .int 0, .int 1000]) (rest := []) ⟨hx, hb, hml, hown, hts⟩ (m_X5_within l D cy ad En n0 hG hE o hc21) (va_cwS 3 hts gX5_task_X5_within rfl rfl rfl (by decide +kernel) ⟨(Nat.le_of_ble_eq_true rfl), (Nat.le_of_ble_eq_true rfl)⟩) ⟨ks_U.blind, fun U hU hWm => ⟨rfl, hU0.now hS hW hWm.alike hU⟩⟩ rfl rfl hl.1 rfl (lv_room (Nat.le_of_ble_eq_true rfl)) dX5_task_59 ⟨(Nat.le_of_ble_eq_true rfl), (Nat.le_of_ble_eq_true rfl)⟩) hS (fun H locs hW hS => ?_)
    refine lv_if_eq (tgt := 113) hx hb dX5_task_62 (by decide) (fun c24 => ?_) (fun c24 => ?_)
    · rw [if_pos c24] at hf
      exact t_X5_task_113 C  hf hW hS (lv_sub hl [1, 2, 3, 4, 5, 6, 7, 8, 0] rfl)
    · rw [if_neg c24] at hf
      refine lv_iload hx hb dX5_task_65 (lv_at hl 5 rfl) ?_
      refine lv_iconst (v := 1) hx hb dX5_task_67 (by decide) ?_
      refine lv_sipush (v := 10000) hx hb dX5_task_68 (by decide) ?_
      obtain ⟨⟨r27, s26⟩, hc25, hf⟩ := ks_bind hf
      try dsimp only at hf
      refine ks_calli (va_runS (As := [.int x4, .int 1, .int 10000]) (rest := []) ⟨hx, hb, hml, hown, hts⟩ (m_X5_within l D cy ad En n0 hG hE o hc25) (va_cwS 3 hts gX5_task_X5_within rfl rfl rfl (by decide +kernel) ⟨(Nat.le_of_ble_eq_true rfl), (Nat.le_of_ble_eq_true rfl)⟩) ⟨ks_U.blind, fun U hU hWm => ⟨rfl, hU0.now hS hW hWm.alike hU⟩⟩ rfl rfl hl.1 rfl (lv_room (Nat.le_of_ble_eq_true rfl)) dX5_task_71 ⟨(Nat.le_of_ble_eq_true rfl), (Nat.le_of_ble_eq_true rfl)⟩) hS (fun H locs hW hS => ?_)
      refine lv_if_eq (tgt := 113) hx hb dX5_task_74 (by decide) (fun c28 => ?_) (fun c28 => ?_)
      · rw [if_pos c28] at hf
        exact t_X5_task_113 C  hf hW hS (lv_sub hl [1, 2, 3, 4, 5, 6, 7, 8, 0] rfl)
      · rw [if_neg c28] at hf
        refine lv_iload hx hb dX5_task_77 (lv_at hl 6 rfl) ?_
        refine lv_iconst (v := 1) hx hb dX5_task_79 (by decide) ?_
        refine lv_iload hx hb dX5_task_80 (lv_at hl 5 rfl) ?_
        obtain ⟨⟨r31, s30⟩, hc29, hf⟩ := ks_bind hf
        try dsimp only at hf
        refine ks_calli (va_runS (As := [.int x5, .int 1, .int x4]) (rest := []) ⟨hx, hb, hml, hown, hts⟩ (m_X5_within l D cy ad En n0 hG hE o hc29) (va_cwS 3 hts gX5_task_X5_within rfl rfl rfl (by decide +kernel) ⟨(Nat.le_of_ble_eq_true rfl), (Nat.le_of_ble_eq_true rfl)⟩) ⟨ks_U.blind, fun U hU hWm => ⟨rfl, hU0.now hS hW hWm.alike hU⟩⟩ rfl rfl hl.1 rfl (lv_room (Nat.le_of_ble_eq_true rfl)) dX5_task_82 ⟨(Nat.le_of_ble_eq_true rfl), (Nat.le_of_ble_eq_true rfl)⟩) hS (fun H locs hW hS => ?_)
        refine lv_if_eq (tgt := 113) hx hb dX5_task_85 (by decide) (fun c32 => ?_) (fun c32 => ?_)
        · rw [if_pos c32] at hf
          exact t_X5_task_113 C  hf hW hS (lv_sub hl [1, 2, 3, 4, 5, 6, 7, 8, 0] rfl)
        · rw [if_neg c32] at hf
          refine lv_iload hx hb dX5_task_88 (lv_at hl 7 rfl) ?_
          refine lv_iconst (v := 1) hx hb dX5_task_90 (by decide) ?_
          refine lv_sipush (v := 1000) hx hb dX5_task_91 (by decide) ?_
          obtain ⟨⟨r35, s34⟩, hc33, hf⟩ := ks_bind hf
          try dsimp only at hf
          refine ks_calli (va_runS (As := [.int x6, .int 1, .int 1000]) (rest := []) ⟨hx, hb, hml, hown, hts⟩ (m_X5_within l D cy ad En n0 hG hE o hc33) (va_cwS 3 hts gX5_task_X5_within rfl rfl rfl (by decide +kernel) ⟨(Nat.le_of_ble_eq_true rfl), (Nat.le_of_ble_eq_true rfl)⟩) ⟨ks_U.blind, fun U hU hWm => ⟨rfl, hU0.now hS hW hWm.alike hU⟩⟩ rfl rfl hl.1 rfl (lv_room (Nat.le_of_ble_eq_true rfl)) dX5_task_94 ⟨(Nat.le_of_ble_eq_true rfl), (Nat.le_of_ble_eq_true rfl)⟩) hS (fun H locs hW hS => ?_)
          refine lv_if_eq (tgt := 113) hx hb dX5_task_97 (by decide) (fun c36 => ?_) (fun c36 => ?_)
          · rw [if_pos c36] at hf
            exact t_X5_task_113 C  hf hW hS (lv_sub hl [1, 2, 3, 4, 5, 6, 7, 8, 0] rfl)
          · rw [if_neg c36] at hf
            refine lv_aload_n hx hb dX5_task_100 rfl (lv_at hl 1 rfl) ?_
            refine lv_iload_n hx hb dX5_task_101 rfl (lv_at hl 3 rfl) ?_
            refine lv_iload_n hx hb dX5_task_102 rfl (lv_at hl 4 rfl) ?_
            obtain ⟨⟨r39, s38⟩, hc37, hf⟩ := ks_bind hf
            try dsimp only at hf
            refine ks_calli (va_runV (As := [.int x2, .int x3]) (rest := []) ⟨hx, hb, hml, hown, hts⟩ (m_X5_hasPriority l D cy ad En n0 hG hE o hc37) (cwV 2 hts gX5_task_X5_hasPriority rfl rfl rfl (by decide +kernel) ⟨(Nat.le_of_ble_eq_true rfl), (Nat.le_of_ble_eq_true rfl)⟩) ⟨ks_U.blind, ks_recv hK hW (ks_v14 (i := 0) (j := 0) (hE 14 rfl)) (ks_c14 cy ad o 0 0 _) rfl, fun U hU hWm => ⟨rfl, hU0.now hS hW hWm.alike hU⟩⟩ rfl rfl hl.1 rfl (lv_room (Nat.le_of_ble_eq_true rfl)) dX5_task_103 ⟨(Nat.le_of_ble_eq_true rfl), (Nat.le_of_ble_eq_true rfl)⟩) hS (fun H locs hW hS => ?_)
            refine lv_if_ne (tgt := 113) hx hb dX5_task_106 (by decide) (fun c40 => ?_) (fun c40 => ?_)
            · rw [if_neg c40] at hf
              exact t_X5_task_113 C  hf hW hS (lv_sub hl [1, 2, 3, 4, 5, 6, 7, 8, 0] rfl)
            · rw [if_pos c40] at hf
              refine lv_iconst (v := 1) hx hb dX5_task_109 (by decide) ?_
              refine lv_goto (tgt := 114) hx hb dX5_task_110 (by decide) ?_
              exact t_X5_task_114 C  hf hW hS (lv_sub hl [1, 2, 3, 4, 5, 6, 7, 8, 0] rfl)
set_option maxHeartbeats 4000000 in
set_option maxRecDepth 100000 in
theorem t_X5_task_42 {p : Program} {l : Launch} {e : Env} {s : State} {m : MethodId} {args : Array Value} {below : List Frame} {meth : Method} {c : Code} {D : va_G} {cy : Nat → ClassId} {ad : ks_A} {En : Nat → Prop} {n0 : Nat → Prop} {σ0 : ks_S} {o : Int64} {N : Nat} {out : ks_S} (C : ks_M p s m args meth c D cy ad En (fun k => ks_g k = 1) n0 σ0 o wsX5_task cX5_task RX5 10 (none)) {σ : ks_S} {x1 : Int32} {x2 : Int32} {x3 : Int32} {x4 : Int32} {x5 : Int32} {x6 : Int32} {x7 : Int32}  (hf : f_X5_task_42 N σ x1 x2 x3 x4 x5 x6 x7 = some out) {H : Heap} {locs : List Loc} {ls : Array Slot} (hW : ks_W D cy ad En σ o H) (hS : va_S (ks_F n0) s.heap H locs) (hl : lv_has ls 10 [(0, .ref (ad 14 0 0)), (1, .int x1), (2, .int x2), (3, .int x3), (4, .int x4), (5, .int x5), (6, .int x6), (7, .int x7)]) : W p l e (ks_Rm 1 0 0 23) s m args below meth c H locs 0 0 (MQ below (ks_Qv D cy ad En n0 o out) args s 0 0 (ks_F n0)) (F0 m 42 ls []) := by
  obtain ⟨hx, hb, hml, hr, hown, hts, hlocks, hG, hU0, hE⟩ := id C
  have hK := hU0.2.2
  unfold f_X5_task_42 at hf
  refine lv_iconst (v := 0) hx hb dX5_task_42 (by decide) ?_
  exact t_X5_task_43 C  hf hW hS (lv_sub hl [0, 1, 2, 3, 4, 5, 6, 7] rfl)
set_option maxHeartbeats 4000000 in
set_option maxRecDepth 100000 in
theorem t_X5_task_38 {p : Program} {l : Launch} {e : Env} {s : State} {m : MethodId} {args : Array Value} {below : List Frame} {meth : Method} {c : Code} {D : va_G} {cy : Nat → ClassId} {ad : ks_A} {En : Nat → Prop} {n0 : Nat → Prop} {σ0 : ks_S} {o : Int64} {N : Nat} {out : ks_S} (C : ks_M p s m args meth c D cy ad En (fun k => ks_g k = 1) n0 σ0 o wsX5_task cX5_task RX5 10 (none)) {σ : ks_S} {x1 : Int32} {x2 : Int32} {x3 : Int32} {x4 : Int32} {x5 : Int32} {x6 : Int32} {x7 : Int32}  (hf : f_X5_task_38 N σ x1 x2 x3 x4 x5 x6 x7 = some out) {H : Heap} {locs : List Loc} {ls : Array Slot} (hW : ks_W D cy ad En σ o H) (hS : va_S (ks_F n0) s.heap H locs) (hl : lv_has ls 10 [(0, .ref (ad 14 0 0)), (1, .int x1), (2, .int x2), (3, .int x3), (4, .int x4), (5, .int x5), (6, .int x6), (7, .int x7)]) : W p l e (ks_Rm 1 0 0 23) s m args below meth c H locs 0 0 (MQ below (ks_Qv D cy ad En n0 o out) args s 0 0 (ks_F n0)) (F0 m 38 ls []) := by
  obtain ⟨hx, hb, hml, hr, hown, hts, hlocks, hG, hU0, hE⟩ := id C
  have hK := hU0.2.2
  unfold f_X5_task_38 at hf
  refine lv_iconst (v := 1) hx hb dX5_task_38 (by decide) ?_
  refine lv_goto (tgt := 43) hx hb dX5_task_39 (by decide) ?_
  exact t_X5_task_43 C  hf hW hS (lv_sub hl [0, 1, 2, 3, 4, 5, 6, 7] rfl)
set_option maxHeartbeats 4000000 in
set_option maxRecDepth 100000 in
theorem t_X5_task_15 {p : Program} {l : Launch} {e : Env} {s : State} {m : MethodId} {args : Array Value} {below : List Frame} {meth : Method} {c : Code} {D : va_G} {cy : Nat → ClassId} {ad : ks_A} {En : Nat → Prop} {n0 : Nat → Prop} {σ0 : ks_S} {o : Int64} {N : Nat} {out : ks_S} (C : ks_M p s m args meth c D cy ad En (fun k => ks_g k = 1) n0 σ0 o wsX5_task cX5_task RX5 10 (none)) {σ : ks_S} {x1 : Int32} {x2 : Int32} {x3 : Int32} {x4 : Int32} {x5 : Int32} {x6 : Int32} {xs0 : Int32}  (hf : f_X5_task_15 N σ x1 x2 x3 x4 x5 x6 xs0 = some out) {H : Heap} {locs : List Loc} {ls : Array Slot} (hW : ks_W D cy ad En σ o H) (hS : va_S (ks_F n0) s.heap H locs) (hl : lv_has ls 10 [(0, .ref (ad 14 0 0)), (1, .int x1), (2, .int x2), (3, .int x3), (4, .int x4), (5, .int x5), (6, .int x6)]) : W p l e (ks_Rm 1 0 0 23) s m args below meth c H locs 0 0 (MQ below (ks_Qv D cy ad En n0 o out) args s 0 0 (ks_F n0)) (F0 m 15 ls [.int xs0]) := by
  obtain ⟨hx, hb, hml, hr, hown, hts, hlocks, hG, hU0, hE⟩ := id C
  have hK := hU0.2.2
  unfold f_X5_task_15 at hf
  refine lv_istore (lv' := [(7, .int xs0), (0, .ref (ad 14 0 0)), (1, .int x1), (2, .int x2), (3, .int x3), (4, .int x4), (5, .int x5), (6, .int x6)]) hx hb dX5_task_15 hl (by decide) rfl (fun ls hl => ?_)
  refine lv_iload hx hb dX5_task_17 (lv_at hl 0 rfl) ?_
  refine lv_if_ne (tgt := 42) hx hb dX5_task_19 (by decide) (fun c5 => ?_) (fun c5 => ?_)
  · rw [if_neg c5] at hf
    exact t_X5_task_42 C  hf hW hS (lv_sub hl [1, 2, 3, 4, 5, 6, 7, 0] rfl)
  · rw [if_pos c5] at hf
    refine lv_aload_n hx hb dX5_task_22 rfl (lv_at hl 1 rfl) ?_
    refine va_get (D := D) (ci := 5) (v := .int (σ 14 0 0 12)) (C := RX5) (T := TX5) (N := 34) hx hb hts in_X5_task_5 hown hK (ks_P1 hW (ks_v14 (i := 0) (j := 0) (hE 14 rfl)) (ks_c14 cy ad o 0 0 _)) 0 rfl rfl 12 (by decide) (hts (.fieldLink RX5 116 "SpinKernelModel" "sealed" "Z") (by decide +kernel)) (fun _ h => h) rfl dX5_task_23 ?_
    refine lv_if_ne (tgt := 38) hx hb dX5_task_26 (by decide) (fun c41 => ?_) (fun c41 => ?_)
    · rw [if_neg c41] at hf
      exact t_X5_task_38 C  hf hW hS (lv_sub hl [1, 2, 3, 4, 5, 6, 7, 0] rfl)
    · rw [if_pos c41] at hf
      refine lv_aload_n hx hb dX5_task_29 rfl (lv_at hl 1 rfl) ?_
      refine va_get (D := D) (ci := 5) (v := .ref (ad 15 0 0)) (C := RX5) (T := TX5) (N := 34) hx hb hts in_X5_task_5 hown hK (ks_P1 hW (ks_v14 (i := 0) (j := 0) (hE 14 rfl)) (ks_c14 cy ad o 0 0 _)) 0 rfl rfl 1 (by decide) (hts (.fieldLink RX5 7 "SpinKernelModel" "cores" "[I") (by decide +kernel)) (fun _ h => h) rfl dX5_task_30 ?_
      refine lv_iload_n hx hb dX5_task_33 rfl (lv_at hl 2 rfl) ?_
      obtain ⟨hi42, hf⟩ := ks_guard hf
      refine ks_iald hx hb hK hW (ks_v15 (i := 0) (j := 0) (hE 15 rfl)) (ks_c15 cy ad o 0 0 _) hi42 dX5_task_34 ?_
      refine lv_if_lt (tgt := 42) hx hb dX5_task_35 (by decide) (fun c43 => ?_) (fun c43 => ?_)
      · rw [if_pos c43] at hf
        exact t_X5_task_42 C  hf hW hS (lv_sub hl [1, 2, 3, 4, 5, 6, 7, 0] rfl)
      · rw [if_neg c43] at hf
        exact t_X5_task_38 C  hf hW hS (lv_sub hl [1, 2, 3, 4, 5, 6, 7, 0] rfl)
set_option maxHeartbeats 4000000 in
set_option maxRecDepth 100000 in
theorem t_X5_task {p : Program} {l : Launch} {e : Env} {s : State} {m : MethodId} {args : Array Value} {below : List Frame} {meth : Method} {c : Code} {D : va_G} {cy : Nat → ClassId} {ad : ks_A} {En : Nat → Prop} {n0 : Nat → Prop} {σ0 : ks_S} {o : Int64} {N : Nat} {out : ks_S} (C : ks_M p s m args meth c D cy ad En (fun k => ks_g k = 1) n0 σ0 o wsX5_task cX5_task RX5 10 (none)) {σ : ks_S} {x1 : Int32} {x2 : Int32} {x3 : Int32} {x4 : Int32} {x5 : Int32} {x6 : Int32}  (hf : f_X5_task N σ x1 x2 x3 x4 x5 x6 = some out) {H : Heap} {locs : List Loc} {ls : Array Slot} (hW : ks_W D cy ad En σ o H) (hS : va_S (ks_F n0) s.heap H locs) (hl : lv_has ls 10 [(0, .ref (ad 14 0 0)), (1, .int x1), (2, .int x2), (3, .int x3), (4, .int x4), (5, .int x5), (6, .int x6)]) : W p l e (ks_Rm 1 0 0 23) s m args below meth c H locs 0 0 (MQ below (ks_Qv D cy ad En n0 o out) args s 0 0 (ks_F n0)) (F0 m 0 ls []) := by
  obtain ⟨hx, hb, hml, hr, hown, hts, hlocks, hG, hU0, hE⟩ := id C
  have hK := hU0.2.2
  unfold f_X5_task at hf
  refine lv_iload_n hx hb dX5_task_0 rfl (lv_at hl 1 rfl) ?_
  refine lv_iconst (v := 0) hx hb dX5_task_1 (by decide) ?_
  refine lv_bipush (v := 15) hx hb dX5_task_2 (by decide) ?_
  obtain ⟨⟨r3, s2⟩, hc1, hf⟩ := ks_bind hf
  try dsimp only at hf
  refine ks_calli (va_runS (As := [.int x1, .int 0, .int 15]) (rest := []) ⟨hx, hb, hml, hown, hts⟩ (m_X5_within l D cy ad En n0 hG hE o hc1) (va_cwS 3 hts gX5_task_X5_within rfl rfl rfl (by decide +kernel) ⟨(Nat.le_of_ble_eq_true rfl), (Nat.le_of_ble_eq_true rfl)⟩) ⟨ks_U.blind, fun U hU hWm => ⟨rfl, hU0.now hS hW hWm.alike hU⟩⟩ rfl rfl hl.1 rfl (lv_room (Nat.le_of_ble_eq_true rfl)) dX5_task_4 ⟨(Nat.le_of_ble_eq_true rfl), (Nat.le_of_ble_eq_true rfl)⟩) hS (fun H locs hW hS => ?_)
  refine lv_if_ne (tgt := 14) hx hb dX5_task_7 (by decide) (fun c4 => ?_) (fun c4 => ?_)
  · rw [if_neg c4] at hf
    refine lv_iconst (v := 0) hx hb dX5_task_14 (by decide) ?_
    exact t_X5_task_15 C  hf hW hS (lv_sub hl [0, 1, 2, 3, 4, 5, 6] rfl)
  · rw [if_pos c4] at hf
    refine lv_iconst (v := 1) hx hb dX5_task_10 (by decide) ?_
    refine lv_goto (tgt := 15) hx hb dX5_task_11 (by decide) ?_
    exact t_X5_task_15 C  hf hW hS (lv_sub hl [0, 1, 2, 3, 4, 5, 6] rfl)
set_option maxHeartbeats 4000000 in
set_option maxRecDepth 100000 in
theorem m_X5_task (l : Launch) (D : va_G) (cy : Nat → ClassId) (ad : ks_A) (En : Nat → Prop) (n0 : Nat → Prop) (hG : ks_G ad En n0) (hE : ∀ k, ks_g k = 1 → En k) (o : Int64) {N : Nat} {σ : ks_S} {x1 : Int32} {x2 : Int32} {x3 : Int32} {x4 : Int32} {x5 : Int32} {x6 : Int32}  {out : ks_S} (hf : f_X5_task N σ x1 x2 x3 x4 x5 x6 = some out) : Met l yX5_task wsX5_task (ks_Rm 1 0 0 23) (va_Pc [.ref (ad 14 0 0), .int x1, .int x2, .int x3, .int x4, .int x5, .int x6] (ks_U D cy ad En n0 σ o)) (ks_Qv D cy ad En n0 o out) 0 0 (ks_F n0) := by
  refine Met.ofW (cc := cX5_task) (maxL := 10) (ret := none) (by decide) rfl ?_
  intro p e s m args below meth c s₁ B hml hv
  obtain ⟨rfl, hU⟩ := hv
  have hl := lv_entry ([.ref (ad 14 0 0), .int x1, .int x2, .int x3, .int x4, .int x5, .int x6]) (n := 10) (Nat.le_of_ble_eq_true rfl)
  rw [lg_entry_eq]
  generalize (lg_sl ([.ref (ad 14 0 0), .int x1, .int x2, .int x3, .int x4, .int x5, .int x6]) ++ List.replicate (10 - (lg_sl ([.ref (ad 14 0 0), .int x1, .int x2, .int x3, .int x4, .int x5, .int x6])).length) Slot.unset).toArray = ls at hl ⊢
  exact t_X5_task ⟨B.exec, B.bytes, hml, B.returns, findClass_of_methodNamed B.named, atoms_spec (ws := wsX5_task) B.pre, B.notSynchronized, hG, hU, hE⟩  hf hU.2.1 va_S.rf hl

/-! SpinKernelModel.outerBefore(I)I -/
def f_X5_outerBefore_9 (N : Nat) : Nat → ks_S → Int32 → Int32 → Option (Int32 × ks_S)
  | 0, _, _, _ => none
  | n + 1, σ, x1, x2 => (if x2 < 0 then some (x2, σ) else (if ks_in ((((6 * x1)) + x2)) 96 = true then (if ((σ 24 0 0 ((((6 * x1)) + x2)).toNatClampNeg)) < 0 then some (x2, σ) else f_X5_outerBefore_9 N n σ x1 ((x2 + (-1)))) else none))
def f_X5_outerBefore (N : Nat) (σ : ks_S) (x1 : Int32) : Option (Int32 × ks_S) :=
  (if ks_in x1 16 = true then f_X5_outerBefore_9 N N σ x1 ((((σ 20 0 0 x1.toNatClampNeg)) - 1)) else none)
theorem in_X5_outerBefore_5 : ∀ w ∈ wsX50, w ∈ wsX5_outerBefore := by decide +kernel
set_option maxHeartbeats 4000000 in
set_option maxRecDepth 100000 in
theorem t_X5_outerBefore_9 {p : Program} {l : Launch} {e : Env} {s : State} {m : MethodId} {args : Array Value} {below : List Frame} {meth : Method} {c : Code} {D : va_G} {cy : Nat → ClassId} {ad : ks_A} {En : Nat → Prop} {n0 : Nat → Prop} {σ0 : ks_S} {o : Int64} {N : Nat} {out : (Int32 × ks_S)} (C : ks_M p s m args meth c D cy ad En (fun k => ks_g k = 1) n0 σ0 o wsX5_outerBefore cX5_outerBefore RX5 3 (some .int)) : ∀ (n : Nat) (σ : ks_S) (x1 : Int32) (x2 : Int32), f_X5_outerBefore_9 N n σ x1 x2 = some out → ∀ {H : Heap} {locs : List Loc} {ls : Array Slot}, ks_W D cy ad En σ o H → va_S (ks_F n0) s.heap H locs → lv_has ls 3 [(0, .ref (ad 14 0 0)), (1, .int x1), (2, .int x2)] → W p l e (ks_Rm 0 0 0 0) s m args below meth c H locs 0 0 (MQ below (ks_Qi D cy ad En n0 o out) args s 0 0 (ks_F n0)) (F0 m 9 ls []) := by
  obtain ⟨hx, hb, hml, hr, hown, hts, hlocks, hG, hU0, hE⟩ := id C
  have hK := hU0.2.2
  intro n
  induction n with
  | zero => intro σ x1 x2; intro  hf; exact absurd hf (by simp [f_X5_outerBefore_9])
  | succ n hk9 =>
    intro σ x1 x2  hf H locs ls hW hS hl
    rw [f_X5_outerBefore_9] at hf
    refine lv_iload_n hx hb dX5_outerBefore_9 rfl (lv_at hl 2 rfl) ?_
    refine lv_if_lt (tgt := 33) hx hb dX5_outerBefore_10 (by decide) (fun c2 => ?_) (fun c2 => ?_)
    · rw [if_pos c2] at hf
      refine lv_iload_n hx hb dX5_outerBefore_33 rfl (lv_at hl 2 rfl) ?_
      exact ks_iret C hf hW hS dX5_outerBefore_34
    · rw [if_neg c2] at hf
      refine lv_aload_n hx hb dX5_outerBefore_13 rfl (lv_at hl 0 rfl) ?_
      refine va_get (D := D) (ci := 5) (v := .ref (ad 24 0 0)) (C := RX5) (T := TX5) (N := 34) hx hb hts in_X5_outerBefore_5 hown hK (ks_P1 hW (ks_v14 (i := 0) (j := 0) (hE 14 rfl)) (ks_c14 cy ad o 0 0 _)) 0 rfl rfl 10 (by decide) (hts (.fieldLink RX5 37 "SpinKernelModel" "ins" "[I") (by decide +kernel)) (fun _ h => h) rfl dX5_outerBefore_14 ?_
      refine lv_bipush (v := 6) hx hb dX5_outerBefore_17 (by decide) ?_
      refine lv_iload_n hx hb dX5_outerBefore_19 rfl (lv_at hl 1 rfl) ?_
      refine lv_imul hx hb dX5_outerBefore_20 ?_
      refine lv_iload_n hx hb dX5_outerBefore_21 rfl (lv_at hl 2 rfl) ?_
      refine lv_iadd hx hb dX5_outerBefore_22 ?_
      obtain ⟨hi3, hf⟩ := ks_guard hf
      refine ks_iald hx hb hK hW (ks_v24 (i := 0) (j := 0) (hE 24 rfl)) (ks_c24 cy ad o 0 0 _) hi3 dX5_outerBefore_23 ?_
      refine lv_if_lt (tgt := 33) hx hb dX5_outerBefore_24 (by decide) (fun c4 => ?_) (fun c4 => ?_)
      · rw [if_pos c4] at hf
        refine lv_iload_n hx hb dX5_outerBefore_33 rfl (lv_at hl 2 rfl) ?_
        exact ks_iret C hf hW hS dX5_outerBefore_34
      · rw [if_neg c4] at hf
        refine lv_iinc (v := (x2 + (-1))) (lv' := [(2, .int (x2 + (-1))), (0, .ref (ad 14 0 0)), (1, .int x1)]) hx hb dX5_outerBefore_27 hl (k := 2) rfl rfl (by decide) rfl (fun ls hl => ?_)
        refine lv_goto (tgt := 9) hx hb dX5_outerBefore_30 (by decide) ?_
        exact hk9 _ _ _ hf hW hS (lv_sub hl [1, 2, 0] rfl)
set_option maxHeartbeats 4000000 in
set_option maxRecDepth 100000 in
theorem t_X5_outerBefore {p : Program} {l : Launch} {e : Env} {s : State} {m : MethodId} {args : Array Value} {below : List Frame} {meth : Method} {c : Code} {D : va_G} {cy : Nat → ClassId} {ad : ks_A} {En : Nat → Prop} {n0 : Nat → Prop} {σ0 : ks_S} {o : Int64} {N : Nat} {out : (Int32 × ks_S)} (C : ks_M p s m args meth c D cy ad En (fun k => ks_g k = 1) n0 σ0 o wsX5_outerBefore cX5_outerBefore RX5 3 (some .int)) {σ : ks_S} {x1 : Int32}  (hf : f_X5_outerBefore N σ x1 = some out) {H : Heap} {locs : List Loc} {ls : Array Slot} (hW : ks_W D cy ad En σ o H) (hS : va_S (ks_F n0) s.heap H locs) (hl : lv_has ls 3 [(0, .ref (ad 14 0 0)), (1, .int x1)]) : W p l e (ks_Rm 0 0 0 0) s m args below meth c H locs 0 0 (MQ below (ks_Qi D cy ad En n0 o out) args s 0 0 (ks_F n0)) (F0 m 0 ls []) := by
  obtain ⟨hx, hb, hml, hr, hown, hts, hlocks, hG, hU0, hE⟩ := id C
  have hK := hU0.2.2
  unfold f_X5_outerBefore at hf
  refine lv_aload_n hx hb dX5_outerBefore_0 rfl (lv_at hl 0 rfl) ?_
  refine va_get (D := D) (ci := 5) (v := .ref (ad 20 0 0)) (C := RX5) (T := TX5) (N := 34) hx hb hts in_X5_outerBefore_5 hown hK (ks_P1 hW (ks_v14 (i := 0) (j := 0) (hE 14 rfl)) (ks_c14 cy ad o 0 0 _)) 0 rfl rfl 6 (by decide) (hts (.fieldLink RX5 25 "SpinKernelModel" "counts" "[I") (by decide +kernel)) (fun _ h => h) rfl dX5_outerBefore_1 ?_
  refine lv_iload_n hx hb dX5_outerBefore_4 rfl (lv_at hl 1 rfl) ?_
  obtain ⟨hi1, hf⟩ := ks_guard hf
  refine ks_iald hx hb hK hW (ks_v20 (i := 0) (j := 0) (hE 20 rfl)) (ks_c20 cy ad o 0 0 _) hi1 dX5_outerBefore_5 ?_
  refine lv_iconst (v := 1) hx hb dX5_outerBefore_6 (by decide) ?_
  refine lv_isub hx hb dX5_outerBefore_7 ?_
  refine lv_istore_n (lv' := [(2, .int (((σ 20 0 0 x1.toNatClampNeg)) - 1)), (0, .ref (ad 14 0 0)), (1, .int x1)]) hx hb dX5_outerBefore_8 rfl hl (by decide) rfl (fun ls hl => ?_)
  exact t_X5_outerBefore_9 C _ _ _ _  hf hW hS (lv_sub hl [1, 2, 0] rfl)
set_option maxHeartbeats 4000000 in
set_option maxRecDepth 100000 in
theorem m_X5_outerBefore (l : Launch) (D : va_G) (cy : Nat → ClassId) (ad : ks_A) (En : Nat → Prop) (n0 : Nat → Prop) (hG : ks_G ad En n0) (hE : ∀ k, ks_g k = 1 → En k) (o : Int64) {N : Nat} {σ : ks_S} {x1 : Int32}  {out : (Int32 × ks_S)} (hf : f_X5_outerBefore N σ x1 = some out) : Met l yX5_outerBefore wsX5_outerBefore (ks_Rm 0 0 0 0) (va_Pc [.ref (ad 14 0 0), .int x1] (ks_U D cy ad En n0 σ o)) (ks_Qi D cy ad En n0 o out) 0 0 (ks_F n0) := by
  refine Met.ofW (cc := cX5_outerBefore) (maxL := 3) (ret := some .int) (by decide) rfl ?_
  intro p e s m args below meth c s₁ B hml hv
  obtain ⟨rfl, hU⟩ := hv
  have hl := lv_entry ([.ref (ad 14 0 0), .int x1]) (n := 3) (Nat.le_of_ble_eq_true rfl)
  rw [lg_entry_eq]
  generalize (lg_sl ([.ref (ad 14 0 0), .int x1]) ++ List.replicate (3 - (lg_sl ([.ref (ad 14 0 0), .int x1])).length) Slot.unset).toArray = ls at hl ⊢
  exact t_X5_outerBefore ⟨B.exec, B.bytes, hml, B.returns, findClass_of_methodNamed B.named, atoms_spec (ws := wsX5_outerBefore) B.pre, B.notSynchronized, hG, hU, hE⟩  hf hU.2.1 va_S.rf hl

/-! SpinKernelModel.mayBe(IIIII)Z -/
def f_X5_mayBe (N : Nat) (σ : ks_S) (x1 : Int32) (x2 : Int32) (x3 : Int32) (x4 : Int32) (x5 : Int32) : Option (Int32 × ks_S) :=
  ((f_X5_within σ x3 0 7).bind fun (r3, s2) => (if r3 = 0 then some (0, s2) else ((f_X5_within s2 x4 1 100).bind fun (r7, s6) => (if r7 = 0 then some (0, s6) else (if 0 ≤ x2 then (if x5 = ((-1)) then ((f_X5_outerBefore N s6 x1).bind fun (r22, s21) => (if ks_in x1 16 = true then (if ((s21 19 0 0 x1.toNatClampNeg)) < x2 then some (0, s21) else (if r22 < 0 then some (1, s21) else (if ks_in ((((6 * x1)) + r22)) 96 = true then (if x2 < ((s21 21 0 0 ((((6 * x1)) + r22)).toNatClampNeg)) then some (0, s21) else some (1, s21)) else none))) else none)) else ((f_X5_isRequest s6 x1 x5).bind fun (r13, s12) => (if r13 = 0 then some (0, s12) else (if ks_in ((((6 * x1)) + x5)) 96 = true then (if ((s12 24 0 0 ((((6 * x1)) + x5)).toNatClampNeg)) = ((-1)) then (if 100 < x2 then some (0, s12) else (if ks_in ((((6 * x1)) + x5)) 96 = true then (if ((s12 23 0 0 ((((6 * x1)) + x5)).toNatClampNeg)) < ((x2 + x4)) then some (0, s12) else some (1, s12)) else none)) else some (0, s12)) else none)))) else some (0, s6))))))
theorem in_X5_mayBe_5 : ∀ w ∈ wsX50, w ∈ wsX5_mayBe := by decide +kernel
set_option maxHeartbeats 4000000 in
set_option maxRecDepth 100000 in
theorem t_X5_mayBe {p : Program} {l : Launch} {e : Env} {s : State} {m : MethodId} {args : Array Value} {below : List Frame} {meth : Method} {c : Code} {D : va_G} {cy : Nat → ClassId} {ad : ks_A} {En : Nat → Prop} {n0 : Nat → Prop} {σ0 : ks_S} {o : Int64} {N : Nat} {out : (Int32 × ks_S)} (C : ks_M p s m args meth c D cy ad En (fun k => ks_g k = 1) n0 σ0 o wsX5_mayBe cX5_mayBe RX5 7 (some .boolean)) {σ : ks_S} {x1 : Int32} {x2 : Int32} {x3 : Int32} {x4 : Int32} {x5 : Int32}  (hf : f_X5_mayBe N σ x1 x2 x3 x4 x5 = some out) {H : Heap} {locs : List Loc} {ls : Array Slot} (hW : ks_W D cy ad En σ o H) (hS : va_S (ks_F n0) s.heap H locs) (hl : lv_has ls 7 [(0, .ref (ad 14 0 0)), (1, .int x1), (2, .int x2), (3, .int x3), (4, .int x4), (5, .int x5)]) : W p l e (ks_Rm 2 0 0 43) s m args below meth c H locs 0 0 (MQ below (ks_Qi D cy ad En n0 o out) args s 0 0 (ks_F n0)) (F0 m 0 ls []) := by
  obtain ⟨hx, hb, hml, hr, hown, hts, hlocks, hG, hU0, hE⟩ := id C
  have hK := hU0.2.2
  unfold f_X5_mayBe at hf
  refine lv_iload_n hx hb dX5_mayBe_0 rfl (lv_at hl 3 rfl) ?_
  refine lv_iconst (v := 0) hx hb dX5_mayBe_1 (by decide) ?_
  refine lv_bipush (v := 7) hx hb dX5_mayBe_2 (by decide) ?_
  obtain ⟨⟨r3, s2⟩, hc1, hf⟩ := ks_bind hf
  try dsimp only at hf
  refine ks_calli (va_runS (As := [.int x3, .int 0, .int 7]) (rest := []) ⟨hx, hb, hml, hown, hts⟩ (m_X5_within l D cy ad En n0 hG hE o hc1) (va_cwS 3 hts gX5_mayBe_X5_within rfl rfl rfl (by decide +kernel) ⟨(Nat.le_of_ble_eq_true rfl), (Nat.le_of_ble_eq_true rfl)⟩) ⟨ks_U.blind, fun U hU hWm => ⟨rfl, hU0.now hS hW hWm.alike hU⟩⟩ rfl rfl hl.1 rfl (lv_room (Nat.le_of_ble_eq_true rfl)) dX5_mayBe_4 ⟨(Nat.le_of_ble_eq_true rfl), (Nat.le_of_ble_eq_true rfl)⟩) hS (fun H locs hW hS => ?_)
  refine lv_if_eq (tgt := 25) hx hb dX5_mayBe_7 (by decide) (fun c4 => ?_) (fun c4 => ?_)
  · rw [if_pos c4] at hf
    refine lv_iconst (v := 0) hx hb dX5_mayBe_25 (by decide) ?_
    exact ks_zret C rfl hf hW hS dX5_mayBe_26
  · rw [if_neg c4] at hf
    refine lv_iload hx hb dX5_mayBe_10 (lv_at hl 4 rfl) ?_
    refine lv_iconst (v := 1) hx hb dX5_mayBe_12 (by decide) ?_
    refine lv_bipush (v := 100) hx hb dX5_mayBe_13 (by decide) ?_
    obtain ⟨⟨r7, s6⟩, hc5, hf⟩ := ks_bind hf
    try dsimp only at hf
    refine ks_calli (va_runS (As := [.int x4, .int 1, .int 100]) (rest := []) ⟨hx, hb, hml, hown, hts⟩ (m_X5_within l D cy ad En n0 hG hE o hc5) (va_cwS 3 hts gX5_mayBe_X5_within rfl rfl rfl (by decide +kernel) ⟨(Nat.le_of_ble_eq_true rfl), (Nat.le_of_ble_eq_true rfl)⟩) ⟨ks_U.blind, fun U hU hWm => ⟨rfl, hU0.now hS hW hWm.alike hU⟩⟩ rfl rfl hl.1 rfl (lv_room (Nat.le_of_ble_eq_true rfl)) dX5_mayBe_15 ⟨(Nat.le_of_ble_eq_true rfl), (Nat.le_of_ble_eq_true rfl)⟩) hS (fun H locs hW hS => ?_)
    refine lv_if_eq (tgt := 25) hx hb dX5_mayBe_18 (by decide) (fun c8 => ?_) (fun c8 => ?_)
    · rw [if_pos c8] at hf
      refine lv_iconst (v := 0) hx hb dX5_mayBe_25 (by decide) ?_
      exact ks_zret C rfl hf hW hS dX5_mayBe_26
    · rw [if_neg c8] at hf
      refine lv_iload_n hx hb dX5_mayBe_21 rfl (lv_at hl 2 rfl) ?_
      refine lv_if_ge (tgt := 27) hx hb dX5_mayBe_22 (by decide) (fun c9 => ?_) (fun c9 => ?_)
      · rw [if_pos c9] at hf
        refine lv_iload hx hb dX5_mayBe_27 (lv_at hl 5 rfl) ?_
        refine lv_iconst (v := (-1)) hx hb dX5_mayBe_29 (by decide) ?_
        refine lv_icmp_ne (tgt := 77) hx hb dX5_mayBe_30 (by decide) (fun c10 => ?_) (fun c10 => ?_)
        · rw [if_neg c10] at hf
          refine lv_aload_n hx hb dX5_mayBe_77 rfl (lv_at hl 0 rfl) ?_
          refine lv_iload_n hx hb dX5_mayBe_78 rfl (lv_at hl 1 rfl) ?_
          refine lv_iload hx hb dX5_mayBe_79 (lv_at hl 5 rfl) ?_
          obtain ⟨⟨r13, s12⟩, hc11, hf⟩ := ks_bind hf
          try dsimp only at hf
          refine ks_calli (va_runV (As := [.int x1, .int x5]) (rest := []) ⟨hx, hb, hml, hown, hts⟩ (m_X5_isRequest l D cy ad En n0 hG hE o hc11) (cwV 2 hts gX5_mayBe_X5_isRequest rfl rfl rfl (by decide +kernel) ⟨(Nat.le_of_ble_eq_true rfl), (Nat.le_of_ble_eq_true rfl)⟩) ⟨ks_U.blind, ks_recv hK hW (ks_v14 (i := 0) (j := 0) (hE 14 rfl)) (ks_c14 cy ad o 0 0 _) rfl, fun U hU hWm => ⟨rfl, hU0.now hS hW hWm.alike hU⟩⟩ rfl rfl hl.1 rfl (lv_room (Nat.le_of_ble_eq_true rfl)) dX5_mayBe_81 ⟨(Nat.le_of_ble_eq_true rfl), (Nat.le_of_ble_eq_true rfl)⟩) hS (fun H locs hW hS => ?_)
          refine lv_if_eq (tgt := 132) hx hb dX5_mayBe_84 (by decide) (fun c14 => ?_) (fun c14 => ?_)
          · rw [if_pos c14] at hf
            refine lv_iconst (v := 0) hx hb dX5_mayBe_132 (by decide) ?_
            exact ks_zret C rfl hf hW hS dX5_mayBe_133
          · rw [if_neg c14] at hf
            refine lv_aload_n hx hb dX5_mayBe_87 rfl (lv_at hl 0 rfl) ?_
            refine va_get (D := D) (ci := 5) (v := .ref (ad 24 0 0)) (C := RX5) (T := TX5) (N := 34) hx hb hts in_X5_mayBe_5 hown hK (ks_P1 hW (ks_v14 (i := 0) (j := 0) (hE 14 rfl)) (ks_c14 cy ad o 0 0 _)) 0 rfl rfl 10 (by decide) (hts (.fieldLink RX5 37 "SpinKernelModel" "ins" "[I") (by decide +kernel)) (fun _ h => h) rfl dX5_mayBe_88 ?_
            refine lv_bipush (v := 6) hx hb dX5_mayBe_91 (by decide) ?_
            refine lv_iload_n hx hb dX5_mayBe_93 rfl (lv_at hl 1 rfl) ?_
            refine lv_imul hx hb dX5_mayBe_94 ?_
            refine lv_iload hx hb dX5_mayBe_95 (lv_at hl 5 rfl) ?_
            refine lv_iadd hx hb dX5_mayBe_97 ?_
            obtain ⟨hi15, hf⟩ := ks_guard hf
            refine ks_iald hx hb hK hW (ks_v24 (i := 0) (j := 0) (hE 24 rfl)) (ks_c24 cy ad o 0 0 _) hi15 dX5_mayBe_98 ?_
            refine lv_iconst (v := (-1)) hx hb dX5_mayBe_99 (by decide) ?_
            refine lv_icmp_ne (tgt := 132) hx hb dX5_mayBe_100 (by decide) (fun c16 => ?_) (fun c16 => ?_)
            · rw [if_neg c16] at hf
              refine lv_iconst (v := 0) hx hb dX5_mayBe_132 (by decide) ?_
              exact ks_zret C rfl hf hW hS dX5_mayBe_133
            · rw [if_pos c16] at hf
              refine lv_iload_n hx hb dX5_mayBe_103 rfl (lv_at hl 2 rfl) ?_
              refine lv_bipush (v := 100) hx hb dX5_mayBe_104 (by decide) ?_
              refine lv_icmp_gt (tgt := 132) hx hb dX5_mayBe_106 (by decide) (fun c17 => ?_) (fun c17 => ?_)
              · rw [if_pos c17] at hf
                refine lv_iconst (v := 0) hx hb dX5_mayBe_132 (by decide) ?_
                exact ks_zret C rfl hf hW hS dX5_mayBe_133
              · rw [if_neg c17] at hf
                refine lv_iload_n hx hb dX5_mayBe_109 rfl (lv_at hl 2 rfl) ?_
                refine lv_iload hx hb dX5_mayBe_110 (lv_at hl 4 rfl) ?_
                refine lv_iadd hx hb dX5_mayBe_112 ?_
                refine lv_aload_n hx hb dX5_mayBe_113 rfl (lv_at hl 0 rfl) ?_
                refine va_get (D := D) (ci := 5) (v := .ref (ad 23 0 0)) (C := RX5) (T := TX5) (N := 34) hx hb hts in_X5_mayBe_5 hown hK (ks_P1 hW (ks_v14 (i := 0) (j := 0) (hE 14 rfl)) (ks_c14 cy ad o 0 0 _)) 0 rfl rfl 9 (by decide) (hts (.fieldLink RX5 34 "SpinKernelModel" "lengths" "[I") (by decide +kernel)) (fun _ h => h) rfl dX5_mayBe_114 ?_
                refine lv_bipush (v := 6) hx hb dX5_mayBe_117 (by decide) ?_
                refine lv_iload_n hx hb dX5_mayBe_119 rfl (lv_at hl 1 rfl) ?_
                refine lv_imul hx hb dX5_mayBe_120 ?_
                refine lv_iload hx hb dX5_mayBe_121 (lv_at hl 5 rfl) ?_
                refine lv_iadd hx hb dX5_mayBe_123 ?_
                obtain ⟨hi18, hf⟩ := ks_guard hf
                refine ks_iald hx hb hK hW (ks_v23 (i := 0) (j := 0) (hE 23 rfl)) (ks_c23 cy ad o 0 0 _) hi18 dX5_mayBe_124 ?_
                refine lv_icmp_gt (tgt := 132) hx hb dX5_mayBe_125 (by decide) (fun c19 => ?_) (fun c19 => ?_)
                · rw [if_pos c19] at hf
                  refine lv_iconst (v := 0) hx hb dX5_mayBe_132 (by decide) ?_
                  exact ks_zret C rfl hf hW hS dX5_mayBe_133
                · rw [if_neg c19] at hf
                  refine lv_iconst (v := 1) hx hb dX5_mayBe_128 (by decide) ?_
                  refine lv_goto (tgt := 133) hx hb dX5_mayBe_129 (by decide) ?_
                  exact ks_zret C rfl hf hW hS dX5_mayBe_133
        · rw [if_pos c10] at hf
          refine lv_aload_n hx hb dX5_mayBe_33 rfl (lv_at hl 0 rfl) ?_
          refine lv_iload_n hx hb dX5_mayBe_34 rfl (lv_at hl 1 rfl) ?_
          obtain ⟨⟨r22, s21⟩, hc20, hf⟩ := ks_bind hf
          try dsimp only at hf
          refine ks_calli (va_runV (As := [.int x1]) (rest := []) ⟨hx, hb, hml, hown, hts⟩ (m_X5_outerBefore l D cy ad En n0 hG hE o hc20) (cwV 1 hts gX5_mayBe_X5_outerBefore rfl rfl rfl (by decide +kernel) ⟨(Nat.le_of_ble_eq_true rfl), (Nat.le_of_ble_eq_true rfl)⟩) ⟨ks_U.blind, ks_recv hK hW (ks_v14 (i := 0) (j := 0) (hE 14 rfl)) (ks_c14 cy ad o 0 0 _) rfl, fun U hU hWm => ⟨rfl, hU0.now hS hW hWm.alike hU⟩⟩ rfl rfl hl.1 rfl (lv_room (Nat.le_of_ble_eq_true rfl)) dX5_mayBe_35 ⟨(Nat.le_of_ble_eq_true rfl), (Nat.le_of_ble_eq_true rfl)⟩) hS (fun H locs hW hS => ?_)
          refine lv_istore (lv' := [(6, .int r22), (0, .ref (ad 14 0 0)), (1, .int x1), (2, .int x2), (3, .int x3), (4, .int x4), (5, .int x5)]) hx hb dX5_mayBe_38 hl (by decide) rfl (fun ls hl => ?_)
          refine lv_iload_n hx hb dX5_mayBe_40 rfl (lv_at hl 3 rfl) ?_
          refine lv_aload_n hx hb dX5_mayBe_41 rfl (lv_at hl 1 rfl) ?_
          refine va_get (D := D) (ci := 5) (v := .ref (ad 19 0 0)) (C := RX5) (T := TX5) (N := 34) hx hb hts in_X5_mayBe_5 hown hK (ks_P1 hW (ks_v14 (i := 0) (j := 0) (hE 14 rfl)) (ks_c14 cy ad o 0 0 _)) 0 rfl rfl 5 (by decide) (hts (.fieldLink RX5 22 "SpinKernelModel" "works" "[I") (by decide +kernel)) (fun _ h => h) rfl dX5_mayBe_42 ?_
          refine lv_iload_n hx hb dX5_mayBe_45 rfl (lv_at hl 2 rfl) ?_
          obtain ⟨hi23, hf⟩ := ks_guard hf
          refine ks_iald hx hb hK hW (ks_v19 (i := 0) (j := 0) (hE 19 rfl)) (ks_c19 cy ad o 0 0 _) hi23 dX5_mayBe_46 ?_
          refine lv_icmp_gt (tgt := 75) hx hb dX5_mayBe_47 (by decide) (fun c24 => ?_) (fun c24 => ?_)
          · rw [if_pos c24] at hf
            refine lv_iconst (v := 0) hx hb dX5_mayBe_75 (by decide) ?_
            exact ks_zret C rfl hf hW hS dX5_mayBe_76
          · rw [if_neg c24] at hf
            refine lv_iload hx hb dX5_mayBe_50 (lv_at hl 0 rfl) ?_
            refine lv_if_lt (tgt := 71) hx hb dX5_mayBe_52 (by decide) (fun c25 => ?_) (fun c25 => ?_)
            · rw [if_pos c25] at hf
              refine lv_iconst (v := 1) hx hb dX5_mayBe_71 (by decide) ?_
              refine lv_goto (tgt := 76) hx hb dX5_mayBe_72 (by decide) ?_
              exact ks_zret C rfl hf hW hS dX5_mayBe_76
            · rw [if_neg c25] at hf
              refine lv_iload_n hx hb dX5_mayBe_55 rfl (lv_at hl 3 rfl) ?_
              refine lv_aload_n hx hb dX5_mayBe_56 rfl (lv_at hl 1 rfl) ?_
              refine va_get (D := D) (ci := 5) (v := .ref (ad 21 0 0)) (C := RX5) (T := TX5) (N := 34) hx hb hts in_X5_mayBe_5 hown hK (ks_P1 hW (ks_v14 (i := 0) (j := 0) (hE 14 rfl)) (ks_c14 cy ad o 0 0 _)) 0 rfl rfl 7 (by decide) (hts (.fieldLink RX5 28 "SpinKernelModel" "afters" "[I") (by decide +kernel)) (fun _ h => h) rfl dX5_mayBe_57 ?_
              refine lv_bipush (v := 6) hx hb dX5_mayBe_60 (by decide) ?_
              refine lv_iload_n hx hb dX5_mayBe_62 rfl (lv_at hl 2 rfl) ?_
              refine lv_imul hx hb dX5_mayBe_63 ?_
              refine lv_iload hx hb dX5_mayBe_64 (lv_at hl 0 rfl) ?_
              refine lv_iadd hx hb dX5_mayBe_66 ?_
              obtain ⟨hi26, hf⟩ := ks_guard hf
              refine ks_iald hx hb hK hW (ks_v21 (i := 0) (j := 0) (hE 21 rfl)) (ks_c21 cy ad o 0 0 _) hi26 dX5_mayBe_67 ?_
              refine lv_icmp_lt (tgt := 75) hx hb dX5_mayBe_68 (by decide) (fun c27 => ?_) (fun c27 => ?_)
              · rw [if_pos c27] at hf
                refine lv_iconst (v := 0) hx hb dX5_mayBe_75 (by decide) ?_
                exact ks_zret C rfl hf hW hS dX5_mayBe_76
              · rw [if_neg c27] at hf
                refine lv_iconst (v := 1) hx hb dX5_mayBe_71 (by decide) ?_
                refine lv_goto (tgt := 76) hx hb dX5_mayBe_72 (by decide) ?_
                exact ks_zret C rfl hf hW hS dX5_mayBe_76
      · rw [if_neg c9] at hf
        refine lv_iconst (v := 0) hx hb dX5_mayBe_25 (by decide) ?_
        exact ks_zret C rfl hf hW hS dX5_mayBe_26
set_option maxHeartbeats 4000000 in
set_option maxRecDepth 100000 in
theorem m_X5_mayBe (l : Launch) (D : va_G) (cy : Nat → ClassId) (ad : ks_A) (En : Nat → Prop) (n0 : Nat → Prop) (hG : ks_G ad En n0) (hE : ∀ k, ks_g k = 1 → En k) (o : Int64) {N : Nat} {σ : ks_S} {x1 : Int32} {x2 : Int32} {x3 : Int32} {x4 : Int32} {x5 : Int32}  {out : (Int32 × ks_S)} (hf : f_X5_mayBe N σ x1 x2 x3 x4 x5 = some out) : Met l yX5_mayBe wsX5_mayBe (ks_Rm 2 0 0 43) (va_Pc [.ref (ad 14 0 0), .int x1, .int x2, .int x3, .int x4, .int x5] (ks_U D cy ad En n0 σ o)) (ks_Qi D cy ad En n0 o out) 0 0 (ks_F n0) := by
  refine Met.ofW (cc := cX5_mayBe) (maxL := 7) (ret := some .boolean) (by decide) rfl ?_
  intro p e s m args below meth c s₁ B hml hv
  obtain ⟨rfl, hU⟩ := hv
  have hl := lv_entry ([.ref (ad 14 0 0), .int x1, .int x2, .int x3, .int x4, .int x5]) (n := 7) (Nat.le_of_ble_eq_true rfl)
  rw [lg_entry_eq]
  generalize (lg_sl ([.ref (ad 14 0 0), .int x1, .int x2, .int x3, .int x4, .int x5]) ++ List.replicate (7 - (lg_sl ([.ref (ad 14 0 0), .int x1, .int x2, .int x3, .int x4, .int x5])).length) Slot.unset).toArray = ls at hl ⊢
  exact t_X5_mayBe ⟨B.exec, B.bytes, hml, B.returns, findClass_of_methodNamed B.named, atoms_spec (ws := wsX5_mayBe) B.pre, B.notSynchronized, hG, hU, hE⟩  hf hU.2.1 va_S.rf hl

/-! SpinKernelModel.request(IIIII)I -/
def f_X5_request_79 (N : Nat) (σ : ks_S) (x1 : Int32) (x2 : Int32) (x3 : Int32) (x4 : Int32) (x5 : Int32) (xs0 : Int32) (xs1 : Int32) (xs2 : Int32) : Option (Int32 × ks_S) :=
  ((f_X5_refused σ xs2 xs1 xs0).bind fun (r9, s8) => (if r9 = 0 then (if ks_in x1 16 = true then (if ks_in ((((6 * x1)) + ((s8 20 0 0 x1.toNatClampNeg)))) 96 = true then (if ks_in ((((6 * x1)) + ((s8 20 0 0 x1.toNatClampNeg)))) 96 = true then (if ks_in ((((6 * x1)) + ((s8 20 0 0 x1.toNatClampNeg)))) 96 = true then (if ks_in ((((6 * x1)) + ((s8 20 0 0 x1.toNatClampNeg)))) 96 = true then (if ks_in ((((6 * x1)) + ((s8 20 0 0 x1.toNatClampNeg)))) 96 = true then (if ks_in x1 16 = true then (if ks_in x1 16 = true then (if ks_in x1 16 = true then some ((((((ks_up (ks_up (ks_up (ks_up (ks_up (ks_up s8 21 0 0 ((((6 * x1)) + ((s8 20 0 0 x1.toNatClampNeg)))).toNatClampNeg x2) 22 0 0 ((((6 * x1)) + ((s8 20 0 0 x1.toNatClampNeg)))).toNatClampNeg x3) 23 0 0 ((((6 * x1)) + ((s8 20 0 0 x1.toNatClampNeg)))).toNatClampNeg x4) 24 0 0 ((((6 * x1)) + ((s8 20 0 0 x1.toNatClampNeg)))).toNatClampNeg x5) 34 0 0 ((((6 * x1)) + ((s8 20 0 0 x1.toNatClampNeg)))).toNatClampNeg x4) 20 0 0 x1.toNatClampNeg ((((((ks_up (ks_up (ks_up (ks_up (ks_up s8 21 0 0 ((((6 * x1)) + ((s8 20 0 0 x1.toNatClampNeg)))).toNatClampNeg x2) 22 0 0 ((((6 * x1)) + ((s8 20 0 0 x1.toNatClampNeg)))).toNatClampNeg x3) 23 0 0 ((((6 * x1)) + ((s8 20 0 0 x1.toNatClampNeg)))).toNatClampNeg x4) 24 0 0 ((((6 * x1)) + ((s8 20 0 0 x1.toNatClampNeg)))).toNatClampNeg x5) 34 0 0 ((((6 * x1)) + ((s8 20 0 0 x1.toNatClampNeg)))).toNatClampNeg x4)) 20 0 0 x1.toNatClampNeg)) + 1)))) 20 0 0 x1.toNatClampNeg)) - 1), (ks_up (ks_up (ks_up (ks_up (ks_up (ks_up s8 21 0 0 ((((6 * x1)) + ((s8 20 0 0 x1.toNatClampNeg)))).toNatClampNeg x2) 22 0 0 ((((6 * x1)) + ((s8 20 0 0 x1.toNatClampNeg)))).toNatClampNeg x3) 23 0 0 ((((6 * x1)) + ((s8 20 0 0 x1.toNatClampNeg)))).toNatClampNeg x4) 24 0 0 ((((6 * x1)) + ((s8 20 0 0 x1.toNatClampNeg)))).toNatClampNeg x5) 34 0 0 ((((6 * x1)) + ((s8 20 0 0 x1.toNatClampNeg)))).toNatClampNeg x4) 20 0 0 x1.toNatClampNeg ((((((ks_up (ks_up (ks_up (ks_up (ks_up s8 21 0 0 ((((6 * x1)) + ((s8 20 0 0 x1.toNatClampNeg)))).toNatClampNeg x2) 22 0 0 ((((6 * x1)) + ((s8 20 0 0 x1.toNatClampNeg)))).toNatClampNeg x3) 23 0 0 ((((6 * x1)) + ((s8 20 0 0 x1.toNatClampNeg)))).toNatClampNeg x4) 24 0 0 ((((6 * x1)) + ((s8 20 0 0 x1.toNatClampNeg)))).toNatClampNeg x5) 34 0 0 ((((6 * x1)) + ((s8 20 0 0 x1.toNatClampNeg)))).toNatClampNeg x4)) 20 0 0 x1.toNatClampNeg)) + 1)))) else none) else none) else none) else none) else none) else none) else none) else none) else none) else some (0, s8)))
def f_X5_request_78 (N : Nat) (σ : ks_S) (x1 : Int32) (x2 : Int32) (x3 : Int32) (x4 : Int32) (x5 : Int32) (xs0 : Int32) (xs1 : Int32) : Option (Int32 × ks_S) :=
  f_X5_request_79 N σ x1 x2 x3 x4 x5 0 xs0 xs1
def f_X5_request_43 (N : Nat) (σ : ks_S) (x1 : Int32) (x2 : Int32) (x3 : Int32) (x4 : Int32) (x5 : Int32) (x6 : Int32) (xs0 : Int32) : Option (Int32 × ks_S) :=
  (if x6 = 0 then (if xs0 = 0 then ((f_X5_mayBe N σ x1 x2 x3 x4 x5).bind fun (r23, s22) => (if r23 = 0 then f_X5_request_79 N s22 x1 x2 x3 x4 x5 1 xs0 x6 else f_X5_request_78 N s22 x1 x2 x3 x4 x5 xs0 x6)) else f_X5_request_78 N σ x1 x2 x3 x4 x5 xs0 x6) else f_X5_request_78 N σ x1 x2 x3 x4 x5 xs0 x6)
def f_X5_request_42 (N : Nat) (σ : ks_S) (x1 : Int32) (x2 : Int32) (x3 : Int32) (x4 : Int32) (x5 : Int32) (x6 : Int32) : Option (Int32 × ks_S) :=
  f_X5_request_43 N σ x1 x2 x3 x4 x5 x6 0
def f_X5_request_38 (N : Nat) (σ : ks_S) (x1 : Int32) (x2 : Int32) (x3 : Int32) (x4 : Int32) (x5 : Int32) (x6 : Int32) : Option (Int32 × ks_S) :=
  f_X5_request_43 N σ x1 x2 x3 x4 x5 x6 1
def f_X5_request_13 (N : Nat) (σ : ks_S) (x1 : Int32) (x2 : Int32) (x3 : Int32) (x4 : Int32) (x5 : Int32) (xs0 : Int32) : Option (Int32 × ks_S) :=
  (if xs0 = 0 then (if ((σ 14 0 0 12)) = 0 then (if ks_in x1 16 = true then (if ((σ 20 0 0 x1.toNatClampNeg)) = 6 then f_X5_request_38 N σ x1 x2 x3 x4 x5 xs0 else f_X5_request_42 N σ x1 x2 x3 x4 x5 xs0) else none) else f_X5_request_38 N σ x1 x2 x3 x4 x5 xs0) else f_X5_request_42 N σ x1 x2 x3 x4 x5 xs0)
def f_X5_request (N : Nat) (σ : ks_S) (x1 : Int32) (x2 : Int32) (x3 : Int32) (x4 : Int32) (x5 : Int32) : Option (Int32 × ks_S) :=
  ((f_X5_isTask σ x1).bind fun (r3, s2) => (if r3 = 0 then f_X5_request_13 N s2 x1 x2 x3 x4 x5 1 else f_X5_request_13 N s2 x1 x2 x3 x4 x5 0))
theorem in_X5_request_5 : ∀ w ∈ wsX50, w ∈ wsX5_request := by decide +kernel
set_option maxHeartbeats 4000000 in
set_option maxRecDepth 100000 in
theorem t_X5_request_79 {p : Program} {l : Launch} {e : Env} {s : State} {m : MethodId} {args : Array Value} {below : List Frame} {meth : Method} {c : Code} {D : va_G} {cy : Nat → ClassId} {ad : ks_A} {En : Nat → Prop} {n0 : Nat → Prop} {σ0 : ks_S} {o : Int64} {N : Nat} {out : (Int32 × ks_S)} (C : ks_M p s m args meth c D cy ad En (fun k => ks_g k = 1) n0 σ0 o wsX5_request cX5_request RX5 9 (some .int)) {σ : ks_S} {x1 : Int32} {x2 : Int32} {x3 : Int32} {x4 : Int32} {x5 : Int32} {xs0 : Int32} {xs1 : Int32} {xs2 : Int32}  (hf : f_X5_request_79 N σ x1 x2 x3 x4 x5 xs0 xs1 xs2 = some out) {H : Heap} {locs : List Loc} {ls : Array Slot} (hW : ks_W D cy ad En σ o H) (hS : va_S (ks_F n0) s.heap H locs) (hl : lv_has ls 9 [(0, .ref (ad 14 0 0)), (1, .int x1), (2, .int x2), (3, .int x3), (4, .int x4), (5, .int x5)]) : W p l e (ks_Rm 3 0 0 69) s m args below meth c H locs 0 0 (MQ below (ks_Qi D cy ad En n0 o out) args s 0 0 (ks_F n0)) (F0 m 79 ls [.int xs0, .int xs1, .int xs2, .ref (ad 14 0 0)]) := by
  obtain ⟨hx, hb, hml, hr, hown, hts, hlocks, hG, hU0, hE⟩ := id C
  have hK := hU0.2.2
  unfold f_X5_request_79 at hf
  obtain ⟨⟨r9, s8⟩, hc7, hf⟩ := ks_bind hf
  try dsimp only at hf
  refine ks_calli (va_runV (As := [.int xs2, .int xs1, .int xs0]) (rest := []) ⟨hx, hb, hml, hown, hts⟩ (m_X5_refused l D cy ad En n0 hG hE o hc7) (cwV 3 hts gX5_request_X5_refused rfl rfl rfl (by decide +kernel) ⟨(Nat.le_of_ble_eq_true rfl), (Nat.le_of_ble_eq_true rfl)⟩) ⟨ks_U.blind, ks_recv hK hW (ks_v14 (i := 0) (j := 0) (hE 14 rfl)) (ks_c14 cy ad o 0 0 _) rfl, fun U hU hWm => ⟨rfl, hU0.now hS hW hWm.alike hU⟩⟩ rfl rfl hl.1 rfl (lv_room (Nat.le_of_ble_eq_true rfl)) dX5_request_79 ⟨(Nat.le_of_ble_eq_true rfl), (Nat.le_of_ble_eq_true rfl)⟩) hS (fun H locs hW hS => ?_)
  refine lv_if_eq (tgt := 87) hx hb dX5_request_82 (by decide) (fun c10 => ?_) (fun c10 => ?_)
  · rw [if_pos c10] at hf
    refine lv_bipush (v := 6) hx hb dX5_request_87 (by decide) ?_
    refine lv_iload_n hx hb dX5_request_89 rfl (lv_at hl 1 rfl) ?_
    refine lv_imul hx hb dX5_request_90 ?_
    refine lv_aload_n hx hb dX5_request_91 rfl (lv_at hl 0 rfl) ?_
    refine va_get (D := D) (ci := 5) (v := .ref (ad 20 0 0)) (C := RX5) (T := TX5) (N := 34) hx hb hts in_X5_request_5 hown hK (ks_P1 hW (ks_v14 (i := 0) (j := 0) (hE 14 rfl)) (ks_c14 cy ad o 0 0 _)) 0 rfl rfl 6 (by decide) (hts (.fieldLink RX5 25 "SpinKernelModel" "counts" "[I") (by decide +kernel)) (fun _ h => h) rfl dX5_request_92 ?_
    refine lv_iload_n hx hb dX5_request_95 rfl (lv_at hl 1 rfl) ?_
    obtain ⟨hi11, hf⟩ := ks_guard hf
    refine ks_iald hx hb hK hW (ks_v20 (i := 0) (j := 0) (hE 20 rfl)) (ks_c20 cy ad o 0 0 _) hi11 dX5_request_96 ?_
    refine lv_iadd hx hb dX5_request_97 ?_
    refine lv_istore (lv' := [(8, .int (((6 * x1)) + ((s8 20 0 0 x1.toNatClampNeg)))), (0, .ref (ad 14 0 0)), (1, .int x1), (2, .int x2), (3, .int x3), (4, .int x4), (5, .int x5)]) hx hb dX5_request_98 hl (by decide) rfl (fun ls hl => ?_)
    refine lv_aload_n hx hb dX5_request_100 rfl (lv_at hl 1 rfl) ?_
    refine va_get (D := D) (ci := 5) (v := .ref (ad 21 0 0)) (C := RX5) (T := TX5) (N := 34) hx hb hts in_X5_request_5 hown hK (ks_P1 hW (ks_v14 (i := 0) (j := 0) (hE 14 rfl)) (ks_c14 cy ad o 0 0 _)) 0 rfl rfl 7 (by decide) (hts (.fieldLink RX5 28 "SpinKernelModel" "afters" "[I") (by decide +kernel)) (fun _ h => h) rfl dX5_request_101 ?_
    refine lv_iload hx hb dX5_request_104 (lv_at hl 0 rfl) ?_
    refine lv_iload_n hx hb dX5_request_106 rfl (lv_at hl 3 rfl) ?_
    obtain ⟨hi12, hf⟩ := ks_guard hf
    refine ks_iast hx hb hK hG hW hS (ks_v21 (i := 0) (j := 0) (hE 21 rfl)) (fun c => ks_c21 cy ad o 0 0 c) hi12 dX5_request_107 (fun H locs hW hS => ?_)
    refine lv_aload_n hx hb dX5_request_108 rfl (lv_at hl 1 rfl) ?_
    refine va_get (D := D) (ci := 5) (v := .ref (ad 22 0 0)) (C := RX5) (T := TX5) (N := 34) hx hb hts in_X5_request_5 hown hK (ks_P1 hW (ks_v14 (i := 0) (j := 0) (hE 14 rfl)) (ks_c14 cy ad o 0 0 _)) 0 rfl rfl 8 (by decide) (hts (.fieldLink RX5 31 "SpinKernelModel" "locks" "[I") (by decide +kernel)) (fun _ h => h) rfl dX5_request_109 ?_
    refine lv_iload hx hb dX5_request_112 (lv_at hl 0 rfl) ?_
    refine lv_iload_n hx hb dX5_request_114 rfl (lv_at hl 4 rfl) ?_
    obtain ⟨hi13, hf⟩ := ks_guard hf
    refine ks_iast hx hb hK hG hW hS (ks_v22 (i := 0) (j := 0) (hE 22 rfl)) (fun c => ks_c22 cy ad o 0 0 c) hi13 dX5_request_115 (fun H locs hW hS => ?_)
    refine lv_aload_n hx hb dX5_request_116 rfl (lv_at hl 1 rfl) ?_
    refine va_get (D := D) (ci := 5) (v := .ref (ad 23 0 0)) (C := RX5) (T := TX5) (N := 34) hx hb hts in_X5_request_5 hown hK (ks_P1 hW (ks_v14 (i := 0) (j := 0) (hE 14 rfl)) (ks_c14 cy ad o 0 0 _)) 0 rfl rfl 9 (by decide) (hts (.fieldLink RX5 34 "SpinKernelModel" "lengths" "[I") (by decide +kernel)) (fun _ h => h) rfl dX5_request_117 ?_
    refine lv_iload hx hb dX5_request_120 (lv_at hl 0 rfl) ?_
    refine lv_iload hx hb dX5_request_122 (lv_at hl 5 rfl) ?_
    obtain ⟨hi14, hf⟩ := ks_guard hf
    refine ks_iast hx hb hK hG hW hS (ks_v23 (i := 0) (j := 0) (hE 23 rfl)) (fun c => ks_c23 cy ad o 0 0 c) hi14 dX5_request_124 (fun H locs hW hS => ?_)
    refine lv_aload_n hx hb dX5_request_125 rfl (lv_at hl 1 rfl) ?_
    refine va_get (D := D) (ci := 5) (v := .ref (ad 24 0 0)) (C := RX5) (T := TX5) (N := 34) hx hb hts in_X5_request_5 hown hK (ks_P1 hW (ks_v14 (i := 0) (j := 0) (hE 14 rfl)) (ks_c14 cy ad o 0 0 _)) 0 rfl rfl 10 (by decide) (hts (.fieldLink RX5 37 "SpinKernelModel" "ins" "[I") (by decide +kernel)) (fun _ h => h) rfl dX5_request_126 ?_
    refine lv_iload hx hb dX5_request_129 (lv_at hl 0 rfl) ?_
    refine lv_iload hx hb dX5_request_131 (lv_at hl 6 rfl) ?_
    obtain ⟨hi15, hf⟩ := ks_guard hf
    refine ks_iast hx hb hK hG hW hS (ks_v24 (i := 0) (j := 0) (hE 24 rfl)) (fun c => ks_c24 cy ad o 0 0 c) hi15 dX5_request_133 (fun H locs hW hS => ?_)
    refine lv_aload_n hx hb dX5_request_134 rfl (lv_at hl 1 rfl) ?_
    refine va_get (D := D) (ci := 5) (v := .ref (ad 34 0 0)) (C := RX5) (T := TX5) (N := 34) hx hb hts in_X5_request_5 hown hK (ks_P1 hW (ks_v14 (i := 0) (j := 0) (hE 14 rfl)) (ks_c14 cy ad o 0 0 _)) 0 rfl rfl 22 (by decide) (hts (.fieldLink RX5 68 "SpinKernelModel" "coming" "[I") (by decide +kernel)) (fun _ h => h) rfl dX5_request_135 ?_
    refine lv_iload hx hb dX5_request_138 (lv_at hl 0 rfl) ?_
    refine lv_iload hx hb dX5_request_140 (lv_at hl 5 rfl) ?_
    obtain ⟨hi16, hf⟩ := ks_guard hf
    refine ks_iast hx hb hK hG hW hS (ks_v34 (i := 0) (j := 0) (hE 34 rfl)) (fun c => ks_c34 cy ad o 0 0 c) hi16 dX5_request_142 (fun H locs hW hS => ?_)
    refine lv_aload_n hx hb dX5_request_143 rfl (lv_at hl 1 rfl) ?_
    refine va_get (D := D) (ci := 5) (v := .ref (ad 20 0 0)) (C := RX5) (T := TX5) (N := 34) hx hb hts in_X5_request_5 hown hK (ks_P1 hW (ks_v14 (i := 0) (j := 0) (hE 14 rfl)) (ks_c14 cy ad o 0 0 _)) 0 rfl rfl 6 (by decide) (hts (.fieldLink RX5 25 "SpinKernelModel" "counts" "[I") (by decide +kernel)) (fun _ h => h) rfl dX5_request_144 ?_
    refine lv_iload_n hx hb dX5_request_147 rfl (lv_at hl 2 rfl) ?_
    refine lv_dup2_11 hx hb dX5_request_148 rfl rfl ?_
    obtain ⟨hi17, hf⟩ := ks_guard hf
    refine ks_iald hx hb hK hW (ks_v20 (i := 0) (j := 0) (hE 20 rfl)) (ks_c20 cy ad o 0 0 _) hi17 dX5_request_149 ?_
    refine lv_iconst (v := 1) hx hb dX5_request_150 (by decide) ?_
    refine lv_iadd hx hb dX5_request_151 ?_
    obtain ⟨hi18, hf⟩ := ks_guard hf
    refine ks_iast hx hb hK hG hW hS (ks_v20 (i := 0) (j := 0) (hE 20 rfl)) (fun c => ks_c20 cy ad o 0 0 c) hi18 dX5_request_152 (fun H locs hW hS => ?_)
    refine lv_aload_n hx hb dX5_request_153 rfl (lv_at hl 1 rfl) ?_
    refine va_get (D := D) (ci := 5) (v := .ref (ad 20 0 0)) (C := RX5) (T := TX5) (N := 34) hx hb hts in_X5_request_5 hown hK (ks_P1 hW (ks_v14 (i := 0) (j := 0) (hE 14 rfl)) (ks_c14 cy ad o 0 0 _)) 0 rfl rfl 6 (by decide) (hts (.fieldLink RX5 25 "SpinKernelModel" "counts" "[I") (by decide +kernel)) (fun _ h => h) rfl dX5_request_154 ?_
    refine lv_iload_n hx hb dX5_request_157 rfl (lv_at hl 2 rfl) ?_
    obtain ⟨hi19, hf⟩ := ks_guard hf
    refine ks_iald hx hb hK hW (ks_v20 (i := 0) (j := 0) (hE 20 rfl)) (ks_c20 cy ad o 0 0 _) hi19 dX5_request_158 ?_
    refine lv_iconst (v := 1) hx hb dX5_request_159 (by decide) ?_
    refine lv_isub hx hb dX5_request_160 ?_
    exact ks_iret C hf hW hS dX5_request_161
  · rw [if_neg c10] at hf
    refine lv_iconst (v := 0) hx hb dX5_request_85 (by decide) ?_
    exact ks_iret C hf hW hS dX5_request_86
set_option maxHeartbeats 4000000 in
set_option maxRecDepth 100000 in
theorem t_X5_request_78 {p : Program} {l : Launch} {e : Env} {s : State} {m : MethodId} {args : Array Value} {below : List Frame} {meth : Method} {c : Code} {D : va_G} {cy : Nat → ClassId} {ad : ks_A} {En : Nat → Prop} {n0 : Nat → Prop} {σ0 : ks_S} {o : Int64} {N : Nat} {out : (Int32 × ks_S)} (C : ks_M p s m args meth c D cy ad En (fun k => ks_g k = 1) n0 σ0 o wsX5_request cX5_request RX5 9 (some .int)) {σ : ks_S} {x1 : Int32} {x2 : Int32} {x3 : Int32} {x4 : Int32} {x5 : Int32} {xs0 : Int32} {xs1 : Int32}  (hf : f_X5_request_78 N σ x1 x2 x3 x4 x5 xs0 xs1 = some out) {H : Heap} {locs : List Loc} {ls : Array Slot} (hW : ks_W D cy ad En σ o H) (hS : va_S (ks_F n0) s.heap H locs) (hl : lv_has ls 9 [(0, .ref (ad 14 0 0)), (1, .int x1), (2, .int x2), (3, .int x3), (4, .int x4), (5, .int x5)]) : W p l e (ks_Rm 3 0 0 69) s m args below meth c H locs 0 0 (MQ below (ks_Qi D cy ad En n0 o out) args s 0 0 (ks_F n0)) (F0 m 78 ls [.int xs0, .int xs1, .ref (ad 14 0 0)]) := by
  obtain ⟨hx, hb, hml, hr, hown, hts, hlocks, hG, hU0, hE⟩ := id C
  have hK := hU0.2.2
  unfold f_X5_request_78 at hf
  refine lv_iconst (v := 0) hx hb dX5_request_78 (by decide) ?_
  exact t_X5_request_79 C  hf hW hS (lv_sub hl [0, 1, 2, 3, 4, 5] rfl)
set_option maxHeartbeats 4000000 in
set_option maxRecDepth 100000 in
theorem t_X5_request_43 {p : Program} {l : Launch} {e : Env} {s : State} {m : MethodId} {args : Array Value} {below : List Frame} {meth : Method} {c : Code} {D : va_G} {cy : Nat → ClassId} {ad : ks_A} {En : Nat → Prop} {n0 : Nat → Prop} {σ0 : ks_S} {o : Int64} {N : Nat} {out : (Int32 × ks_S)} (C : ks_M p s m args meth c D cy ad En (fun k => ks_g k = 1) n0 σ0 o wsX5_request cX5_request RX5 9 (some .int)) {σ : ks_S} {x1 : Int32} {x2 : Int32} {x3 : Int32} {x4 : Int32} {x5 : Int32} {x6 : Int32} {xs0 : Int32}  (hf : f_X5_request_43 N σ x1 x2 x3 x4 x5 x6 xs0 = some out) {H : Heap} {locs : List Loc} {ls : Array Slot} (hW : ks_W D cy ad En σ o H) (hS : va_S (ks_F n0) s.heap H locs) (hl : lv_has ls 9 [(0, .ref (ad 14 0 0)), (1, .int x1), (2, .int x2), (3, .int x3), (4, .int x4), (5, .int x5), (6, .int x6)]) : W p l e (ks_Rm 3 0 0 69) s m args below meth c H locs 0 0 (MQ below (ks_Qi D cy ad En n0 o out) args s 0 0 (ks_F n0)) (F0 m 43 ls [.int xs0]) := by
  obtain ⟨hx, hb, hml, hr, hown, hts, hlocks, hG, hU0, hE⟩ := id C
  have hK := hU0.2.2
  unfold f_X5_request_43 at hf
  refine lv_istore (lv' := [(7, .int xs0), (0, .ref (ad 14 0 0)), (1, .int x1), (2, .int x2), (3, .int x3), (4, .int x4), (5, .int x5), (6, .int x6)]) hx hb dX5_request_43 hl (by decide) rfl (fun ls hl => ?_)
  refine lv_aload_n hx hb dX5_request_45 rfl (lv_at hl 1 rfl) ?_
  refine lv_iload hx hb dX5_request_46 (lv_at hl 7 rfl) ?_
  refine lv_iload hx hb dX5_request_48 (lv_at hl 0 rfl) ?_
  refine lv_iload hx hb dX5_request_50 (lv_at hl 7 rfl) ?_
  refine lv_if_ne (tgt := 78) hx hb dX5_request_52 (by decide) (fun c6 => ?_) (fun c6 => ?_)
  · rw [if_neg c6] at hf
    exact t_X5_request_78 C  hf hW hS (lv_sub hl [1, 2, 3, 4, 5, 6] rfl)
  · rw [if_pos c6] at hf
    refine lv_iload hx hb dX5_request_55 (lv_at hl 0 rfl) ?_
    refine lv_if_ne (tgt := 78) hx hb dX5_request_57 (by decide) (fun c20 => ?_) (fun c20 => ?_)
    · rw [if_neg c20] at hf
      exact t_X5_request_78 C  hf hW hS (lv_sub hl [1, 2, 3, 4, 5, 6] rfl)
    · rw [if_pos c20] at hf
      refine lv_aload_n hx hb dX5_request_60 rfl (lv_at hl 1 rfl) ?_
      refine lv_iload_n hx hb dX5_request_61 rfl (lv_at hl 2 rfl) ?_
      refine lv_iload_n hx hb dX5_request_62 rfl (lv_at hl 3 rfl) ?_
      refine lv_iload_n hx hb dX5_request_63 rfl (lv_at hl 4 rfl) ?_
      refine lv_iload hx hb dX5_request_64 (lv_at hl 5 rfl) ?_
      refine lv_iload hx hb dX5_request_66 (lv_at hl 6 rfl) ?_
      obtain ⟨⟨r23, s22⟩, hc21, hf⟩ := ks_bind hf
      try dsimp only at hf
      refine ks_calli (va_runV (As := [.int x1, .int x2, .int x3, .int x4, .int x5]) (rest := [.int xs0, .int x6, .ref (ad 14 0 0)]) ⟨hx, hb, hml, hown, hts⟩ (m_X5_mayBe l D cy ad En n0 hG hE o hc21) (cwV 5 hts gX5_request_X5_mayBe rfl rfl rfl (by decide +kernel) ⟨(Nat.le_of_ble_eq_true rfl), (Nat.le_of_ble_eq_true rfl)⟩) ⟨ks_U.blind, ks_recv hK hW (ks_v14 (i := 0) (j := 0) (hE 14 rfl)) (ks_c14 cy ad o 0 0 _) rfl, fun U hU hWm => ⟨rfl, hU0.now hS hW hWm.alike hU⟩⟩ rfl rfl hl.1 rfl (lv_room (Nat.le_of_ble_eq_true rfl)) dX5_request_68 ⟨(Nat.le_of_ble_eq_true rfl), (Nat.le_of_ble_eq_true rfl)⟩) hS (fun H locs hW hS => ?_)
      refine lv_if_ne (tgt := 78) hx hb dX5_request_71 (by decide) (fun c24 => ?_) (fun c24 => ?_)
      · rw [if_neg c24] at hf
        exact t_X5_request_78 C  hf hW hS (lv_sub hl [1, 2, 3, 4, 5, 6] rfl)
      · rw [if_pos c24] at hf
        refine lv_iconst (v := 1) hx hb dX5_request_74 (by decide) ?_
        refine lv_goto (tgt := 79) hx hb dX5_request_75 (by decide) ?_
        exact t_X5_request_79 C  hf hW hS (lv_sub hl [1, 2, 3, 4, 5, 6] rfl)
set_option maxHeartbeats 4000000 in
set_option maxRecDepth 100000 in
theorem t_X5_request_42 {p : Program} {l : Launch} {e : Env} {s : State} {m : MethodId} {args : Array Value} {below : List Frame} {meth : Method} {c : Code} {D : va_G} {cy : Nat → ClassId} {ad : ks_A} {En : Nat → Prop} {n0 : Nat → Prop} {σ0 : ks_S} {o : Int64} {N : Nat} {out : (Int32 × ks_S)} (C : ks_M p s m args meth c D cy ad En (fun k => ks_g k = 1) n0 σ0 o wsX5_request cX5_request RX5 9 (some .int)) {σ : ks_S} {x1 : Int32} {x2 : Int32} {x3 : Int32} {x4 : Int32} {x5 : Int32} {x6 : Int32}  (hf : f_X5_request_42 N σ x1 x2 x3 x4 x5 x6 = some out) {H : Heap} {locs : List Loc} {ls : Array Slot} (hW : ks_W D cy ad En σ o H) (hS : va_S (ks_F n0) s.heap H locs) (hl : lv_has ls 9 [(0, .ref (ad 14 0 0)), (1, .int x1), (2, .int x2), (3, .int x3), (4, .int x4), (5, .int x5), (6, .int x6)]) : W p l e (ks_Rm 3 0 0 69) s m args below meth c H locs 0 0 (MQ below (ks_Qi D cy ad En n0 o out) args s 0 0 (ks_F n0)) (F0 m 42 ls []) := by
  obtain ⟨hx, hb, hml, hr, hown, hts, hlocks, hG, hU0, hE⟩ := id C
  have hK := hU0.2.2
  unfold f_X5_request_42 at hf
  refine lv_iconst (v := 0) hx hb dX5_request_42 (by decide) ?_
  exact t_X5_request_43 C  hf hW hS (lv_sub hl [0, 1, 2, 3, 4, 5, 6] rfl)
set_option maxHeartbeats 4000000 in
set_option maxRecDepth 100000 in
theorem t_X5_request_38 {p : Program} {l : Launch} {e : Env} {s : State} {m : MethodId} {args : Array Value} {below : List Frame} {meth : Method} {c : Code} {D : va_G} {cy : Nat → ClassId} {ad : ks_A} {En : Nat → Prop} {n0 : Nat → Prop} {σ0 : ks_S} {o : Int64} {N : Nat} {out : (Int32 × ks_S)} (C : ks_M p s m args meth c D cy ad En (fun k => ks_g k = 1) n0 σ0 o wsX5_request cX5_request RX5 9 (some .int)) {σ : ks_S} {x1 : Int32} {x2 : Int32} {x3 : Int32} {x4 : Int32} {x5 : Int32} {x6 : Int32}  (hf : f_X5_request_38 N σ x1 x2 x3 x4 x5 x6 = some out) {H : Heap} {locs : List Loc} {ls : Array Slot} (hW : ks_W D cy ad En σ o H) (hS : va_S (ks_F n0) s.heap H locs) (hl : lv_has ls 9 [(0, .ref (ad 14 0 0)), (1, .int x1), (2, .int x2), (3, .int x3), (4, .int x4), (5, .int x5), (6, .int x6)]) : W p l e (ks_Rm 3 0 0 69) s m args below meth c H locs 0 0 (MQ below (ks_Qi D cy ad En n0 o out) args s 0 0 (ks_F n0)) (F0 m 38 ls []) := by
  obtain ⟨hx, hb, hml, hr, hown, hts, hlocks, hG, hU0, hE⟩ := id C
  have hK := hU0.2.2
  unfold f_X5_request_38 at hf
  refine lv_iconst (v := 1) hx hb dX5_request_38 (by decide) ?_
  refine lv_goto (tgt := 43) hx hb dX5_request_39 (by decide) ?_
  exact t_X5_request_43 C  hf hW hS (lv_sub hl [0, 1, 2, 3, 4, 5, 6] rfl)
set_option maxHeartbeats 4000000 in
set_option maxRecDepth 100000 in
theorem t_X5_request_13 {p : Program} {l : Launch} {e : Env} {s : State} {m : MethodId} {args : Array Value} {below : List Frame} {meth : Method} {c : Code} {D : va_G} {cy : Nat → ClassId} {ad : ks_A} {En : Nat → Prop} {n0 : Nat → Prop} {σ0 : ks_S} {o : Int64} {N : Nat} {out : (Int32 × ks_S)} (C : ks_M p s m args meth c D cy ad En (fun k => ks_g k = 1) n0 σ0 o wsX5_request cX5_request RX5 9 (some .int)) {σ : ks_S} {x1 : Int32} {x2 : Int32} {x3 : Int32} {x4 : Int32} {x5 : Int32} {xs0 : Int32}  (hf : f_X5_request_13 N σ x1 x2 x3 x4 x5 xs0 = some out) {H : Heap} {locs : List Loc} {ls : Array Slot} (hW : ks_W D cy ad En σ o H) (hS : va_S (ks_F n0) s.heap H locs) (hl : lv_has ls 9 [(0, .ref (ad 14 0 0)), (1, .int x1), (2, .int x2), (3, .int x3), (4, .int x4), (5, .int x5)]) : W p l e (ks_Rm 3 0 0 69) s m args below meth c H locs 0 0 (MQ below (ks_Qi D cy ad En n0 o out) args s 0 0 (ks_F n0)) (F0 m 13 ls [.int xs0]) := by
  obtain ⟨hx, hb, hml, hr, hown, hts, hlocks, hG, hU0, hE⟩ := id C
  have hK := hU0.2.2
  unfold f_X5_request_13 at hf
  refine lv_istore (lv' := [(6, .int xs0), (0, .ref (ad 14 0 0)), (1, .int x1), (2, .int x2), (3, .int x3), (4, .int x4), (5, .int x5)]) hx hb dX5_request_13 hl (by decide) rfl (fun ls hl => ?_)
  refine lv_iload hx hb dX5_request_15 (lv_at hl 0 rfl) ?_
  refine lv_if_ne (tgt := 42) hx hb dX5_request_17 (by decide) (fun c5 => ?_) (fun c5 => ?_)
  · rw [if_neg c5] at hf
    exact t_X5_request_42 C  hf hW hS (lv_sub hl [1, 2, 3, 4, 5, 6, 0] rfl)
  · rw [if_pos c5] at hf
    refine lv_aload_n hx hb dX5_request_20 rfl (lv_at hl 1 rfl) ?_
    refine va_get (D := D) (ci := 5) (v := .int (σ 14 0 0 12)) (C := RX5) (T := TX5) (N := 34) hx hb hts in_X5_request_5 hown hK (ks_P1 hW (ks_v14 (i := 0) (j := 0) (hE 14 rfl)) (ks_c14 cy ad o 0 0 _)) 0 rfl rfl 12 (by decide) (hts (.fieldLink RX5 116 "SpinKernelModel" "sealed" "Z") (by decide +kernel)) (fun _ h => h) rfl dX5_request_21 ?_
    refine lv_if_ne (tgt := 38) hx hb dX5_request_24 (by decide) (fun c25 => ?_) (fun c25 => ?_)
    · rw [if_neg c25] at hf
      exact t_X5_request_38 C  hf hW hS (lv_sub hl [1, 2, 3, 4, 5, 6, 0] rfl)
    · rw [if_pos c25] at hf
      refine lv_aload_n hx hb dX5_request_27 rfl (lv_at hl 1 rfl) ?_
      refine va_get (D := D) (ci := 5) (v := .ref (ad 20 0 0)) (C := RX5) (T := TX5) (N := 34) hx hb hts in_X5_request_5 hown hK (ks_P1 hW (ks_v14 (i := 0) (j := 0) (hE 14 rfl)) (ks_c14 cy ad o 0 0 _)) 0 rfl rfl 6 (by decide) (hts (.fieldLink RX5 25 "SpinKernelModel" "counts" "[I") (by decide +kernel)) (fun _ h => h) rfl dX5_request_28 ?_
      refine lv_iload_n hx hb dX5_request_31 rfl (lv_at hl 2 rfl) ?_
      obtain ⟨hi26, hf⟩ := ks_guard hf
      refine ks_iald hx hb hK hW (ks_v20 (i := 0) (j := 0) (hE 20 rfl)) (ks_c20 cy ad o 0 0 _) hi26 dX5_request_32 ?_
      refine lv_bipush (v := 6) hx hb dX5_request_33 (by decide) ?_
      refine lv_icmp_ne (tgt := 42) hx hb dX5_request_35 (by decide) (fun c27 => ?_) (fun c27 => ?_)
      · rw [if_neg c27] at hf
        exact t_X5_request_42 C  hf hW hS (lv_sub hl [1, 2, 3, 4, 5, 6, 0] rfl)
      · rw [if_pos c27] at hf
        exact t_X5_request_38 C  hf hW hS (lv_sub hl [1, 2, 3, 4, 5, 6, 0] rfl)
set_option maxHeartbeats 4000000 in
set_option maxRecDepth 100000 in
theorem t_X5_request {p : Program} {l : Launch} {e : Env} {s : State} {m : MethodId} {args : Array Value} {below : List Frame} {meth : Method} {c : Code} {D : va_G} {cy : Nat → ClassId} {ad : ks_A} {En : Nat → Prop} {n0 : Nat → Prop} {σ0 : ks_S} {o : Int64} {N : Nat} {out : (Int32 × ks_S)} (C : ks_M p s m args meth c D cy ad En (fun k => ks_g k = 1) n0 σ0 o wsX5_request cX5_request RX5 9 (some .int)) {σ : ks_S} {x1 : Int32} {x2 : Int32} {x3 : Int32} {x4 : Int32} {x5 : Int32}  (hf : f_X5_request N σ x1 x2 x3 x4 x5 = some out) {H : Heap} {locs : List Loc} {ls : Array Slot} (hW : ks_W D cy ad En σ o H) (hS : va_S (ks_F n0) s.heap H locs) (hl : lv_has ls 9 [(0, .ref (ad 14 0 0)), (1, .int x1), (2, .int x2), (3, .int x3), (4, .int x4), (5, .int x5)]) : W p l e (ks_Rm 3 0 0 69) s m args below meth c H locs 0 0 (MQ below (ks_Qi D cy ad En n0 o out) args s 0 0 (ks_F n0)) (F0 m 0 ls []) := by
  obtain ⟨hx, hb, hml, hr, hown, hts, hlocks, hG, hU0, hE⟩ := id C
  have hK := hU0.2.2
  unfold f_X5_request at hf
  refine lv_aload_n hx hb dX5_request_0 rfl (lv_at hl 0 rfl) ?_
  refine lv_iload_n hx hb dX5_request_1 rfl (lv_at hl 1 rfl) ?_
  obtain ⟨⟨r3, s2⟩, hc1, hf⟩ := ks_bind hf
  try dsimp only at hf
  refine ks_calli (va_runV (As := [.int x1]) (rest := []) ⟨hx, hb, hml, hown, hts⟩ (m_X5_isTask l D cy ad En n0 hG hE o hc1) (cwV 1 hts gX5_request_X5_isTask rfl rfl rfl (by decide +kernel) ⟨(Nat.le_of_ble_eq_true rfl), (Nat.le_of_ble_eq_true rfl)⟩) ⟨ks_U.blind, ks_recv hK hW (ks_v14 (i := 0) (j := 0) (hE 14 rfl)) (ks_c14 cy ad o 0 0 _) rfl, fun U hU hWm => ⟨rfl, hU0.now hS hW hWm.alike hU⟩⟩ rfl rfl hl.1 rfl (lv_room (Nat.le_of_ble_eq_true rfl)) dX5_request_2 ⟨(Nat.le_of_ble_eq_true rfl), (Nat.le_of_ble_eq_true rfl)⟩) hS (fun H locs hW hS => ?_)
  refine lv_if_ne (tgt := 12) hx hb dX5_request_5 (by decide) (fun c4 => ?_) (fun c4 => ?_)
  · rw [if_neg c4] at hf
    refine lv_iconst (v := 0) hx hb dX5_request_12 (by decide) ?_
    exact t_X5_request_13 C  hf hW hS (lv_sub hl [0, 1, 2, 3, 4, 5] rfl)
  · rw [if_pos c4] at hf
    refine lv_iconst (v := 1) hx hb dX5_request_8 (by decide) ?_
    refine lv_goto (tgt := 13) hx hb dX5_request_9 (by decide) ?_
    exact t_X5_request_13 C  hf hW hS (lv_sub hl [0, 1, 2, 3, 4, 5] rfl)
set_option maxHeartbeats 4000000 in
set_option maxRecDepth 100000 in
theorem m_X5_request (l : Launch) (D : va_G) (cy : Nat → ClassId) (ad : ks_A) (En : Nat → Prop) (n0 : Nat → Prop) (hG : ks_G ad En n0) (hE : ∀ k, ks_g k = 1 → En k) (o : Int64) {N : Nat} {σ : ks_S} {x1 : Int32} {x2 : Int32} {x3 : Int32} {x4 : Int32} {x5 : Int32}  {out : (Int32 × ks_S)} (hf : f_X5_request N σ x1 x2 x3 x4 x5 = some out) : Met l yX5_request wsX5_request (ks_Rm 3 0 0 69) (va_Pc [.ref (ad 14 0 0), .int x1, .int x2, .int x3, .int x4, .int x5] (ks_U D cy ad En n0 σ o)) (ks_Qi D cy ad En n0 o out) 0 0 (ks_F n0) := by
  refine Met.ofW (cc := cX5_request) (maxL := 9) (ret := some .int) (by decide) rfl ?_
  intro p e s m args below meth c s₁ B hml hv
  obtain ⟨rfl, hU⟩ := hv
  have hl := lv_entry ([.ref (ad 14 0 0), .int x1, .int x2, .int x3, .int x4, .int x5]) (n := 9) (Nat.le_of_ble_eq_true rfl)
  rw [lg_entry_eq]
  generalize (lg_sl ([.ref (ad 14 0 0), .int x1, .int x2, .int x3, .int x4, .int x5]) ++ List.replicate (9 - (lg_sl ([.ref (ad 14 0 0), .int x1, .int x2, .int x3, .int x4, .int x5])).length) Slot.unset).toArray = ls at hl ⊢
  exact t_X5_request ⟨B.exec, B.bytes, hml, B.returns, findClass_of_methodNamed B.named, atoms_spec (ws := wsX5_request) B.pre, B.notSynchronized, hG, hU, hE⟩  hf hU.2.1 va_S.rf hl

/-! SpinKernelModel.take(I)V -/
def f_X5_take_14 (σ : ks_S) (x1 : Int32) (xs0 : Int32) : Option ks_S :=
  ((f_X5_refused σ xs0 ((σ 14 0 0 12)) 0).bind fun (r7, s6) => (if r7 = 0 then (if ks_in x1 16 = true then (if ks_in x1 16 = true then some ((ks_up (ks_up s6 15 0 0 x1.toNatClampNeg ((-1))) 20 0 0 x1.toNatClampNeg 0)) else none) else none) else some s6))
def f_X5_take (σ : ks_S) (x1 : Int32) : Option ks_S :=
  ((f_X5_isTask σ x1).bind fun (r3, s2) => (if r3 = 0 then f_X5_take_14 s2 x1 1 else f_X5_take_14 s2 x1 0))
theorem in_X5_take_5 : ∀ w ∈ wsX50, w ∈ wsX5_take := by decide +kernel
set_option maxHeartbeats 4000000 in
set_option maxRecDepth 100000 in
theorem t_X5_take_14 {p : Program} {l : Launch} {e : Env} {s : State} {m : MethodId} {args : Array Value} {below : List Frame} {meth : Method} {c : Code} {D : va_G} {cy : Nat → ClassId} {ad : ks_A} {En : Nat → Prop} {n0 : Nat → Prop} {σ0 : ks_S} {o : Int64} {out : ks_S} (C : ks_M p s m args meth c D cy ad En (fun k => ks_g k = 1) n0 σ0 o wsX5_take cX5_take RX5 2 (none)) {σ : ks_S} {x1 : Int32} {xs0 : Int32}  (hf : f_X5_take_14 σ x1 xs0 = some out) {H : Heap} {locs : List Loc} {ls : Array Slot} (hW : ks_W D cy ad En σ o H) (hS : va_S (ks_F n0) s.heap H locs) (hl : lv_has ls 2 [(0, .ref (ad 14 0 0)), (1, .int x1)]) : W p l e (ks_Rm 1 0 0 23) s m args below meth c H locs 0 0 (MQ below (ks_Qv D cy ad En n0 o out) args s 0 0 (ks_F n0)) (F0 m 14 ls [.int xs0, .ref (ad 14 0 0)]) := by
  obtain ⟨hx, hb, hml, hr, hown, hts, hlocks, hG, hU0, hE⟩ := id C
  have hK := hU0.2.2
  unfold f_X5_take_14 at hf
  refine lv_aload_n hx hb dX5_take_14 rfl (lv_at hl 0 rfl) ?_
  refine va_get (D := D) (ci := 5) (v := .int (σ 14 0 0 12)) (C := RX5) (T := TX5) (N := 34) hx hb hts in_X5_take_5 hown hK (ks_P1 hW (ks_v14 (i := 0) (j := 0) (hE 14 rfl)) (ks_c14 cy ad o 0 0 _)) 0 rfl rfl 12 (by decide) (hts (.fieldLink RX5 116 "SpinKernelModel" "sealed" "Z") (by decide +kernel)) (fun _ h => h) rfl dX5_take_15 ?_
  refine lv_iconst (v := 0) hx hb dX5_take_18 (by decide) ?_
  obtain ⟨⟨r7, s6⟩, hc5, hf⟩ := ks_bind hf
  try dsimp only at hf
  refine ks_calli (va_runV (As := [.int xs0, .int (σ 14 0 0 12), .int 0]) (rest := []) ⟨hx, hb, hml, hown, hts⟩ (m_X5_refused l D cy ad En n0 hG hE o hc5) (cwV 3 hts gX5_take_X5_refused rfl rfl rfl (by decide +kernel) ⟨(Nat.le_of_ble_eq_true rfl), (Nat.le_of_ble_eq_true rfl)⟩) ⟨ks_U.blind, ks_recv hK hW (ks_v14 (i := 0) (j := 0) (hE 14 rfl)) (ks_c14 cy ad o 0 0 _) rfl, fun U hU hWm => ⟨rfl, hU0.now hS hW hWm.alike hU⟩⟩ rfl rfl hl.1 rfl (lv_room (Nat.le_of_ble_eq_true rfl)) dX5_take_19 ⟨(Nat.le_of_ble_eq_true rfl), (Nat.le_of_ble_eq_true rfl)⟩) hS (fun H locs hW hS => ?_)
  refine lv_if_ne (tgt := 39) hx hb dX5_take_22 (by decide) (fun c8 => ?_) (fun c8 => ?_)
  · rw [if_neg c8] at hf
    exact ks_vret C hf hW hS dX5_take_39
  · rw [if_pos c8] at hf
    refine lv_aload_n hx hb dX5_take_25 rfl (lv_at hl 0 rfl) ?_
    refine va_get (D := D) (ci := 5) (v := .ref (ad 15 0 0)) (C := RX5) (T := TX5) (N := 34) hx hb hts in_X5_take_5 hown hK (ks_P1 hW (ks_v14 (i := 0) (j := 0) (hE 14 rfl)) (ks_c14 cy ad o 0 0 _)) 0 rfl rfl 1 (by decide) (hts (.fieldLink RX5 7 "SpinKernelModel" "cores" "[I") (by decide +kernel)) (fun _ h => h) rfl dX5_take_26 ?_
    refine lv_iload_n hx hb dX5_take_29 rfl (lv_at hl 1 rfl) ?_
    refine lv_iconst (v := (-1)) hx hb dX5_take_30 (by decide) ?_
    obtain ⟨hi9, hf⟩ := ks_guard hf
    refine ks_iast hx hb hK hG hW hS (ks_v15 (i := 0) (j := 0) (hE 15 rfl)) (fun c => ks_c15 cy ad o 0 0 c) hi9 dX5_take_31 (fun H locs hW hS => ?_)
    refine lv_aload_n hx hb dX5_take_32 rfl (lv_at hl 0 rfl) ?_
    refine va_get (D := D) (ci := 5) (v := .ref (ad 20 0 0)) (C := RX5) (T := TX5) (N := 34) hx hb hts in_X5_take_5 hown hK (ks_P1 hW (ks_v14 (i := 0) (j := 0) (hE 14 rfl)) (ks_c14 cy ad o 0 0 _)) 0 rfl rfl 6 (by decide) (hts (.fieldLink RX5 25 "SpinKernelModel" "counts" "[I") (by decide +kernel)) (fun _ h => h) rfl dX5_take_33 ?_
    refine lv_iload_n hx hb dX5_take_36 rfl (lv_at hl 1 rfl) ?_
    refine lv_iconst (v := 0) hx hb dX5_take_37 (by decide) ?_
    obtain ⟨hi10, hf⟩ := ks_guard hf
    refine ks_iast hx hb hK hG hW hS (ks_v20 (i := 0) (j := 0) (hE 20 rfl)) (fun c => ks_c20 cy ad o 0 0 c) hi10 dX5_take_38 (fun H locs hW hS => ?_)
    exact ks_vret C hf hW hS dX5_take_39
set_option maxHeartbeats 4000000 in
set_option maxRecDepth 100000 in
theorem t_X5_take {p : Program} {l : Launch} {e : Env} {s : State} {m : MethodId} {args : Array Value} {below : List Frame} {meth : Method} {c : Code} {D : va_G} {cy : Nat → ClassId} {ad : ks_A} {En : Nat → Prop} {n0 : Nat → Prop} {σ0 : ks_S} {o : Int64} {out : ks_S} (C : ks_M p s m args meth c D cy ad En (fun k => ks_g k = 1) n0 σ0 o wsX5_take cX5_take RX5 2 (none)) {σ : ks_S} {x1 : Int32}  (hf : f_X5_take σ x1 = some out) {H : Heap} {locs : List Loc} {ls : Array Slot} (hW : ks_W D cy ad En σ o H) (hS : va_S (ks_F n0) s.heap H locs) (hl : lv_has ls 2 [(0, .ref (ad 14 0 0)), (1, .int x1)]) : W p l e (ks_Rm 1 0 0 23) s m args below meth c H locs 0 0 (MQ below (ks_Qv D cy ad En n0 o out) args s 0 0 (ks_F n0)) (F0 m 0 ls []) := by
  obtain ⟨hx, hb, hml, hr, hown, hts, hlocks, hG, hU0, hE⟩ := id C
  have hK := hU0.2.2
  unfold f_X5_take at hf
  refine lv_aload_n hx hb dX5_take_0 rfl (lv_at hl 0 rfl) ?_
  refine lv_aload_n hx hb dX5_take_1 rfl (lv_at hl 0 rfl) ?_
  refine lv_iload_n hx hb dX5_take_2 rfl (lv_at hl 1 rfl) ?_
  obtain ⟨⟨r3, s2⟩, hc1, hf⟩ := ks_bind hf
  try dsimp only at hf
  refine ks_calli (va_runV (As := [.int x1]) (rest := [.ref (ad 14 0 0)]) ⟨hx, hb, hml, hown, hts⟩ (m_X5_isTask l D cy ad En n0 hG hE o hc1) (cwV 1 hts gX5_take_X5_isTask rfl rfl rfl (by decide +kernel) ⟨(Nat.le_of_ble_eq_true rfl), (Nat.le_of_ble_eq_true rfl)⟩) ⟨ks_U.blind, ks_recv hK hW (ks_v14 (i := 0) (j := 0) (hE 14 rfl)) (ks_c14 cy ad o 0 0 _) rfl, fun U hU hWm => ⟨rfl, hU0.now hS hW hWm.alike hU⟩⟩ rfl rfl hl.1 rfl (lv_room (Nat.le_of_ble_eq_true rfl)) dX5_take_3 ⟨(Nat.le_of_ble_eq_true rfl), (Nat.le_of_ble_eq_true rfl)⟩) hS (fun H locs hW hS => ?_)
  refine lv_if_ne (tgt := 13) hx hb dX5_take_6 (by decide) (fun c4 => ?_) (fun c4 => ?_)
  · rw [if_neg c4] at hf
    refine lv_iconst (v := 0) hx hb dX5_take_13 (by decide) ?_
    exact t_X5_take_14 C  hf hW hS (lv_sub hl [0, 1] rfl)
  · rw [if_pos c4] at hf
    refine lv_iconst (v := 1) hx hb dX5_take_9 (by decide) ?_
    refine lv_goto (tgt := 14) hx hb dX5_take_10 (by decide) ?_
    exact t_X5_take_14 C  hf hW hS (lv_sub hl [0, 1] rfl)
set_option maxHeartbeats 4000000 in
set_option maxRecDepth 100000 in
theorem m_X5_take (l : Launch) (D : va_G) (cy : Nat → ClassId) (ad : ks_A) (En : Nat → Prop) (n0 : Nat → Prop) (hG : ks_G ad En n0) (hE : ∀ k, ks_g k = 1 → En k) (o : Int64) {σ : ks_S} {x1 : Int32}  {out : ks_S} (hf : f_X5_take σ x1 = some out) : Met l yX5_take wsX5_take (ks_Rm 1 0 0 23) (va_Pc [.ref (ad 14 0 0), .int x1] (ks_U D cy ad En n0 σ o)) (ks_Qv D cy ad En n0 o out) 0 0 (ks_F n0) := by
  refine Met.ofW (cc := cX5_take) (maxL := 2) (ret := none) (by decide) rfl ?_
  intro p e s m args below meth c s₁ B hml hv
  obtain ⟨rfl, hU⟩ := hv
  have hl := lv_entry ([.ref (ad 14 0 0), .int x1]) (n := 2) (Nat.le_of_ble_eq_true rfl)
  rw [lg_entry_eq]
  generalize (lg_sl ([.ref (ad 14 0 0), .int x1]) ++ List.replicate (2 - (lg_sl ([.ref (ad 14 0 0), .int x1])).length) Slot.unset).toArray = ls at hl ⊢
  exact t_X5_take ⟨B.exec, B.bytes, hml, B.returns, findClass_of_methodNamed B.named, atoms_spec (ws := wsX5_take) B.pre, B.notSynchronized, hG, hU, hE⟩  hf hU.2.1 va_S.rf hl
