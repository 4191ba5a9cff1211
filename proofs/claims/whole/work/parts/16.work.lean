/-! SpinKernel.isHeldFast(I)Z -/
def f_X4_isHeldFast (σ : ks_S) (x1 : Int32) : Option (Int32 × ks_S) :=
  (if ks_in x1 4 = true then (if ((σ 6 0 0 x1.toNatClampNeg)) = ((-1)) then some (0, σ) else (if ks_in ((σ 6 0 0 x1.toNatClampNeg)) 16 = true then (if ((σ 9 ((((σ 6 0 0 x1.toNatClampNeg)).toNatClampNeg)) 0 3)) = 1 then some (0, σ) else some (1, σ)) else none)) else none)
theorem in_X4_isHeldFast_0 : ∀ w ∈ wsX00, w ∈ wsX4_isHeldFast := by decide +kernel
theorem in_X4_isHeldFast_3 : ∀ w ∈ wsX30, w ∈ wsX4_isHeldFast := by decide +kernel
theorem in_X4_isHeldFast_4 : ∀ w ∈ wsX40, w ∈ wsX4_isHeldFast := by decide +kernel
set_option maxHeartbeats 4000000 in
set_option maxRecDepth 100000 in
theorem t_X4_isHeldFast {p : Program} {l : Launch} {e : Env} {s : State} {m : MethodId} {args : Array Value} {below : List Frame} {meth : Method} {c : Code} {D : va_G} {cy : Nat → ClassId} {ad : ks_A} {En : Nat → Prop} {n0 : Nat → Prop} {σ0 : ks_S} {o : Int64} {out : (Int32 × ks_S)} (C : ks_M p s m args meth c D cy ad En (fun k => ks_g k = 0) n0 σ0 o wsX4_isHeldFast cX4_isHeldFast RX4 3 (some .boolean)) {σ : ks_S} {x1 : Int32}  (hf : f_X4_isHeldFast σ x1 = some out) {H : Heap} {locs : List Loc} {ls : Array Slot} (hW : ks_W D cy ad En σ o H) (hS : va_S (ks_F n0) s.heap H locs) (hl : lv_has ls 3 [(0, .ref (ad 0 0 0)), (1, .int x1)]) : W p l e (ks_Rm 0 0 0 0) s m args below meth c H locs 0 0 (MQ below (ks_Qi D cy ad En n0 o out) args s 0 0 (ks_F n0)) (F0 m 0 ls []) := by
  obtain ⟨hx, hb, hml, hr, hown, hts, hlocks, hG, hU0, hE⟩ := id C
  have hK := hU0.2.2
  unfold f_X4_isHeldFast at hf
  refine lv_aload_n hx hb dX4_isHeldFast_0 rfl (lv_at hl 0 rfl) ?_
  refine va_get (D := D) (ci := 4) (v := .ref (ad 6 0 0)) (C := RX4) (T := TX4) (N := 8) hx hb hts in_X4_isHeldFast_4 hown hK (ks_P1 hW (ks_v0 (i := 0) (j := 0) (hE 0 rfl)) (ks_c0 cy ad o 0 0 _)) 0 rfl rfl 4 (by decide) (hts (.fieldLink RX4 30 "SpinKernel" "taskOfCore" "[I") (by decide +kernel)) (fun _ h => h) rfl dX4_isHeldFast_1 ?_
  refine lv_iload_n hx hb dX4_isHeldFast_4 rfl (lv_at hl 1 rfl) ?_
  obtain ⟨hi1, hf⟩ := ks_guard hf
  refine ks_iald hx hb hK hW (ks_v6 (i := 0) (j := 0) (hE 6 rfl)) (ks_c6 cy ad o 0 0 _) hi1 dX4_isHeldFast_5 ?_
  refine lv_istore_n (lv' := [(2, .int (σ 6 0 0 x1.toNatClampNeg)), (0, .ref (ad 0 0 0)), (1, .int x1)]) hx hb dX4_isHeldFast_6 rfl hl (by decide) rfl (fun ls hl => ?_)
  refine lv_iload_n hx hb dX4_isHeldFast_7 rfl (lv_at hl 0 rfl) ?_
  refine lv_iconst (v := (-1)) hx hb dX4_isHeldFast_8 (by decide) ?_
  refine lv_icmp_eq (tgt := 32) hx hb dX4_isHeldFast_9 (by decide) (fun c2 => ?_) (fun c2 => ?_)
  · rw [if_pos c2] at hf
    refine lv_iconst (v := 0) hx hb dX4_isHeldFast_32 (by decide) ?_
    exact ks_zret C rfl hf hW hS dX4_isHeldFast_33
  · rw [if_neg c2] at hf
    refine lv_aload_n hx hb dX4_isHeldFast_12 rfl (lv_at hl 1 rfl) ?_
    refine va_get (D := D) (ci := 4) (v := .ref (ad 1 0 0)) (C := RX4) (T := TX4) (N := 8) hx hb hts in_X4_isHeldFast_4 hown hK (ks_P1 hW (ks_v0 (i := 0) (j := 0) (hE 0 rfl)) (ks_c0 cy ad o 0 0 _)) 0 rfl rfl 0 (by decide) (hts (.fieldLink RX4 11 "SpinKernel" "tasks" "[LSpinKernel$Task;") (by decide +kernel)) (fun _ h => h) rfl dX4_isHeldFast_13 ?_
    refine lv_iload_n hx hb dX4_isHeldFast_16 rfl (lv_at hl 0 rfl) ?_
    obtain ⟨hi3, hf⟩ := ks_guard hf
    refine ks_aald hx hb hK hW (ks_v1 (i := 0) (j := 0) (hE 1 rfl)) 3 (ks_c1 cy ad o 0 0 _) rfl rfl hi3 dX4_isHeldFast_17 ?_
    refine va_get (D := D) (ci := 3) (v := .ref (ad 9 (((σ 6 0 0 x1.toNatClampNeg)).toNatClampNeg) 0)) (C := RX3) (T := TX3) (N := 10) hx hb hts in_X4_isHeldFast_3 hown hK (ks_P1 hW (ks_v8 (j := 0) (ks_in_lt hi3) (hE 8 rfl)) (ks_c8 cy ad o (((σ 6 0 0 x1.toNatClampNeg)).toNatClampNeg) 0 _)) 0 rfl rfl 9 (by decide) (hts (.fieldLink RX4 119 "SpinKernel$Task" "job" "LSpinKernel$Job;") (by decide +kernel)) (fun _ h => h) rfl dX4_isHeldFast_18 ?_
    refine va_get (D := D) (ci := 0) (v := .int (σ 9 ((((σ 6 0 0 x1.toNatClampNeg)).toNatClampNeg)) 0 3)) (C := RX0) (T := TX0) (N := 12) hx hb hts in_X4_isHeldFast_0 hown hK (ks_P1 hW (ks_v9 (j := 0) (ks_v8 (j := 0) (ks_in_lt hi3) (hE 8 rfl)).2.1 (hE 9 rfl)) (ks_c9 cy ad o (((σ 6 0 0 x1.toNatClampNeg)).toNatClampNeg) 0 _)) 0 rfl rfl 3 (by decide) (hts (.fieldLink RX4 258 "SpinKernel$Job" "state" "I") (by decide +kernel)) (fun _ h => h) rfl dX4_isHeldFast_21 ?_
    refine lv_iconst (v := 1) hx hb dX4_isHeldFast_24 (by decide) ?_
    refine lv_icmp_eq (tgt := 32) hx hb dX4_isHeldFast_25 (by decide) (fun c4 => ?_) (fun c4 => ?_)
    · rw [if_pos c4] at hf
      refine lv_iconst (v := 0) hx hb dX4_isHeldFast_32 (by decide) ?_
      exact ks_zret C rfl hf hW hS dX4_isHeldFast_33
    · rw [if_neg c4] at hf
      refine lv_iconst (v := 1) hx hb dX4_isHeldFast_28 (by decide) ?_
      refine lv_goto (tgt := 33) hx hb dX4_isHeldFast_29 (by decide) ?_
      exact ks_zret C rfl hf hW hS dX4_isHeldFast_33
set_option maxHeartbeats 4000000 in
set_option maxRecDepth 100000 in
theorem m_X4_isHeldFast (l : Launch) (D : va_G) (cy : Nat → ClassId) (ad : ks_A) (En : Nat → Prop) (n0 : Nat → Prop) (hG : ks_G ad En n0) (hE : ∀ k, ks_g k = 0 → En k) (o : Int64) {σ : ks_S} {x1 : Int32}  {out : (Int32 × ks_S)} (hf : f_X4_isHeldFast σ x1 = some out) : Met l yX4_isHeldFast wsX4_isHeldFast (ks_Rm 0 0 0 0) (va_Pc [.ref (ad 0 0 0), .int x1] (ks_U D cy ad En n0 σ o)) (ks_Qi D cy ad En n0 o out) 0 0 (ks_F n0) := by
  refine Met.ofW (cc := cX4_isHeldFast) (maxL := 3) (ret := some .boolean) (by decide) rfl ?_
  intro p e s m args below meth c s₁ B hml hv
  obtain ⟨rfl, hU⟩ := hv
  have hl := lv_entry ([.ref (ad 0 0 0), .int x1]) (n := 3) (Nat.le_of_ble_eq_true rfl)
  rw [lg_entry_eq]
  generalize (lg_sl ([.ref (ad 0 0 0), .int x1]) ++ List.replicate (3 - (lg_sl ([.ref (ad 0 0 0), .int x1])).length) Slot.unset).toArray = ls at hl ⊢
  exact t_X4_isHeldFast ⟨B.exec, B.bytes, hml, B.returns, findClass_of_methodNamed B.named, atoms_spec (ws := wsX4_isHeldFast) B.pre, B.notSynchronized, hG, hU, hE⟩  hf hU.2.1 va_S.rf hl

/-! SpinKernel.mostUrgentOn(I)I -/
def f_X4_mostUrgentOn_43 (N : Nat) (k4 : ks_S → Int32 → Int32 → Int32 → Option (Int32 × ks_S)) (σ : ks_S) (x1 : Int32) (x2 : Int32) (x3 : Int32) (xs0 : Int32) : Option (Int32 × ks_S) :=
  (if xs0 = 0 then k4 σ x1 x2 ((x3 + 1)) else (if x2 = ((-1)) then k4 σ x1 x3 ((x3 + 1)) else (if ks_in x3 16 = true then (if ks_in x2 16 = true then (if ((σ 8 ((x3.toNatClampNeg)) 0 2)) ≤ ((σ 8 ((x2.toNatClampNeg)) 0 2)) then k4 σ x1 x2 ((x3 + 1)) else k4 σ x1 x3 ((x3 + 1))) else none) else none)))
def f_X4_mostUrgentOn_42 (N : Nat) (k4 : ks_S → Int32 → Int32 → Int32 → Option (Int32 × ks_S)) (σ : ks_S) (x1 : Int32) (x2 : Int32) (x3 : Int32) : Option (Int32 × ks_S) :=
  f_X4_mostUrgentOn_43 N k4 σ x1 x2 x3 0
def f_X4_mostUrgentOn_4 (N : Nat) : Nat → ks_S → Int32 → Int32 → Int32 → Option (Int32 × ks_S)
  | 0, _, _, _, _ => none
  | n + 1, σ, x1, x2, x3 => (if 16 ≤ x3 then some (x2, σ) else (if ks_in x3 16 = true then ((f_X3_isOn σ ((x3.toNatClampNeg)) x1).bind fun (r5, s4) => (if r5 = 0 then f_X4_mostUrgentOn_42 N (f_X4_mostUrgentOn_4 N n) s4 x1 x2 x3 else (if ks_in x3 16 = true then (if ((s4 9 ((x3.toNatClampNeg)) 0 1)) = 0 then f_X4_mostUrgentOn_42 N (f_X4_mostUrgentOn_4 N n) s4 x1 x2 x3 else f_X4_mostUrgentOn_43 N (f_X4_mostUrgentOn_4 N n) s4 x1 x2 x3 1) else none))) else none))
def f_X4_mostUrgentOn (N : Nat) (σ : ks_S) (x1 : Int32) : Option (Int32 × ks_S) :=
  f_X4_mostUrgentOn_4 N N σ x1 ((-1)) 0
theorem in_X4_mostUrgentOn_0 : ∀ w ∈ wsX00, w ∈ wsX4_mostUrgentOn := by decide +kernel
theorem in_X4_mostUrgentOn_3 : ∀ w ∈ wsX30, w ∈ wsX4_mostUrgentOn := by decide +kernel
theorem in_X4_mostUrgentOn_4 : ∀ w ∈ wsX40, w ∈ wsX4_mostUrgentOn := by decide +kernel
set_option maxHeartbeats 4000000 in
set_option maxRecDepth 100000 in
theorem t_X4_mostUrgentOn_43 {p : Program} {l : Launch} {e : Env} {s : State} {m : MethodId} {args : Array Value} {below : List Frame} {meth : Method} {c : Code} {D : va_G} {cy : Nat → ClassId} {ad : ks_A} {En : Nat → Prop} {n0 : Nat → Prop} {σ0 : ks_S} {o : Int64} {N : Nat} {out : (Int32 × ks_S)} (C : ks_M p s m args meth c D cy ad En (fun k => ks_g k = 0) n0 σ0 o wsX4_mostUrgentOn cX4_mostUrgentOn RX4 5 (some .int)) {k4 : ks_S → Int32 → Int32 → Int32 → Option (Int32 × ks_S)} (hk4 : ∀ (σ : ks_S) (x1 : Int32) (x2 : Int32) (x3 : Int32), k4 σ x1 x2 x3 = some out → ∀ {H : Heap} {locs : List Loc} {ls : Array Slot}, ks_W D cy ad En σ o H → va_S (ks_F n0) s.heap H locs → lv_has ls 5 [(0, .ref (ad 0 0 0)), (1, .int x1), (2, .int x2), (3, .int x3)] → W p l e (ks_Rm 1 0 0 21) s m args below meth c H locs 0 0 (MQ below (ks_Qi D cy ad En n0 o out) args s 0 0 (ks_F n0)) (F0 m 4 ls [])) {σ : ks_S} {x1 : Int32} {x2 : Int32} {x3 : Int32} {xs0 : Int32}  (hf : f_X4_mostUrgentOn_43 N k4 σ x1 x2 x3 xs0 = some out) {H : Heap} {locs : List Loc} {ls : Array Slot} (hW : ks_W D cy ad En σ o H) (hS : va_S (ks_F n0) s.heap H locs) (hl : lv_has ls 5 [(0, .ref (ad 0 0 0)), (1, .int x1), (2, .int x2), (3, .int x3)]) : W p l e (ks_Rm 1 0 0 21) s m args below meth c H locs 0 0 (MQ below (ks_Qi D cy ad En n0 o out) args s 0 0 (ks_F n0)) (F0 m 43 ls [.int xs0]) := by
  obtain ⟨hx, hb, hml, hr, hown, hts, hlocks, hG, hU0, hE⟩ := id C
  have hK := hU0.2.2
  unfold f_X4_mostUrgentOn_43 at hf
  refine lv_istore (lv' := [(4, .int xs0), (0, .ref (ad 0 0 0)), (1, .int x1), (2, .int x2), (3, .int x3)]) hx hb dX4_mostUrgentOn_43 hl (by decide) rfl (fun ls hl => ?_)
  refine lv_iload hx hb dX4_mostUrgentOn_45 (lv_at hl 0 rfl) ?_
  refine lv_if_eq (tgt := 78) hx hb dX4_mostUrgentOn_47 (by decide) (fun c7 => ?_) (fun c7 => ?_)
  · rw [if_pos c7] at hf
    refine lv_iinc (v := (x3 + 1)) (lv' := [(3, .int (x3 + 1)), (4, .int xs0), (0, .ref (ad 0 0 0)), (1, .int x1), (2, .int x2)]) hx hb dX4_mostUrgentOn_78 hl (k := 4) rfl rfl (by decide) rfl (fun ls hl => ?_)
    refine lv_goto (tgt := 4) hx hb dX4_mostUrgentOn_81 (by decide) ?_
    exact hk4 _ _ _ _ hf hW hS (lv_sub hl [2, 3, 4, 0] rfl)
  · rw [if_neg c7] at hf
    refine lv_iload_n hx hb dX4_mostUrgentOn_50 rfl (lv_at hl 3 rfl) ?_
    refine lv_iconst (v := (-1)) hx hb dX4_mostUrgentOn_51 (by decide) ?_
    refine lv_icmp_eq (tgt := 76) hx hb dX4_mostUrgentOn_52 (by decide) (fun c8 => ?_) (fun c8 => ?_)
    · rw [if_pos c8] at hf
      refine lv_iload_n hx hb dX4_mostUrgentOn_76 rfl (lv_at hl 4 rfl) ?_
      refine lv_istore_n (lv' := [(2, .int x3), (4, .int xs0), (0, .ref (ad 0 0 0)), (1, .int x1), (3, .int x3)]) hx hb dX4_mostUrgentOn_77 rfl hl (by decide) rfl (fun ls hl => ?_)
      refine lv_iinc (v := (x3 + 1)) (lv' := [(3, .int (x3 + 1)), (2, .int x3), (4, .int xs0), (0, .ref (ad 0 0 0)), (1, .int x1)]) hx hb dX4_mostUrgentOn_78 hl (k := 4) rfl rfl (by decide) rfl (fun ls hl => ?_)
      refine lv_goto (tgt := 4) hx hb dX4_mostUrgentOn_81 (by decide) ?_
      exact hk4 _ _ _ _ hf hW hS (lv_sub hl [3, 4, 1, 0] rfl)
    · rw [if_neg c8] at hf
      refine lv_aload_n hx hb dX4_mostUrgentOn_55 rfl (lv_at hl 1 rfl) ?_
      refine va_get (D := D) (ci := 4) (v := .ref (ad 1 0 0)) (C := RX4) (T := TX4) (N := 8) hx hb hts in_X4_mostUrgentOn_4 hown hK (ks_P1 hW (ks_v0 (i := 0) (j := 0) (hE 0 rfl)) (ks_c0 cy ad o 0 0 _)) 0 rfl rfl 0 (by decide) (hts (.fieldLink RX4 11 "SpinKernel" "tasks" "[LSpinKernel$Task;") (by decide +kernel)) (fun _ h => h) rfl dX4_mostUrgentOn_56 ?_
      refine lv_iload_n hx hb dX4_mostUrgentOn_59 rfl (lv_at hl 4 rfl) ?_
      obtain ⟨hi9, hf⟩ := ks_guard hf
      refine ks_aald hx hb hK hW (ks_v1 (i := 0) (j := 0) (hE 1 rfl)) 3 (ks_c1 cy ad o 0 0 _) rfl rfl hi9 dX4_mostUrgentOn_60 ?_
      refine va_get (D := D) (ci := 3) (v := .int (σ 8 ((x3.toNatClampNeg)) 0 2)) (C := RX3) (T := TX3) (N := 10) hx hb hts in_X4_mostUrgentOn_3 hown hK (ks_P1 hW (ks_v8 (j := 0) (ks_in_lt hi9) (hE 8 rfl)) (ks_c8 cy ad o (x3.toNatClampNeg) 0 _)) 0 rfl rfl 2 (by decide) (hts (.fieldLink RX4 207 "SpinKernel$Task" "priority" "I") (by decide +kernel)) (fun _ h => h) rfl dX4_mostUrgentOn_61 ?_
      refine lv_aload_n hx hb dX4_mostUrgentOn_64 rfl (lv_at hl 1 rfl) ?_
      refine va_get (D := D) (ci := 4) (v := .ref (ad 1 0 0)) (C := RX4) (T := TX4) (N := 8) hx hb hts in_X4_mostUrgentOn_4 hown hK (ks_P1 hW (ks_v0 (i := 0) (j := 0) (hE 0 rfl)) (ks_c0 cy ad o 0 0 _)) 0 rfl rfl 0 (by decide) (hts (.fieldLink RX4 11 "SpinKernel" "tasks" "[LSpinKernel$Task;") (by decide +kernel)) (fun _ h => h) rfl dX4_mostUrgentOn_65 ?_
      refine lv_iload_n hx hb dX4_mostUrgentOn_68 rfl (lv_at hl 3 rfl) ?_
      obtain ⟨hi10, hf⟩ := ks_guard hf
      refine ks_aald hx hb hK hW (ks_v1 (i := 0) (j := 0) (hE 1 rfl)) 3 (ks_c1 cy ad o 0 0 _) rfl rfl hi10 dX4_mostUrgentOn_69 ?_
      refine va_get (D := D) (ci := 3) (v := .int (σ 8 ((x2.toNatClampNeg)) 0 2)) (C := RX3) (T := TX3) (N := 10) hx hb hts in_X4_mostUrgentOn_3 hown hK (ks_P1 hW (ks_v8 (j := 0) (ks_in_lt hi10) (hE 8 rfl)) (ks_c8 cy ad o (x2.toNatClampNeg) 0 _)) 0 rfl rfl 2 (by decide) (hts (.fieldLink RX4 207 "SpinKernel$Task" "priority" "I") (by decide +kernel)) (fun _ h => h) rfl dX4_mostUrgentOn_70 ?_
      refine lv_icmp_le (tgt := 78) hx hb dX4_mostUrgentOn_73 (by decide) (fun c11 => ?_) (fun c11 => ?_)
      · rw [if_pos c11] at hf
        refine lv_iinc (v := (x3 + 1)) (lv' := [(3, .int (x3 + 1)), (4, .int xs0), (0, .ref (ad 0 0 0)), (1, .int x1), (2, .int x2)]) hx hb dX4_mostUrgentOn_78 hl (k := 4) rfl rfl (by decide) rfl (fun ls hl => ?_)
        refine lv_goto (tgt := 4) hx hb dX4_mostUrgentOn_81 (by decide) ?_
        exact hk4 _ _ _ _ hf hW hS (lv_sub hl [2, 3, 4, 0] rfl)
      · rw [if_neg c11] at hf
        refine lv_iload_n hx hb dX4_mostUrgentOn_76 rfl (lv_at hl 4 rfl) ?_
        refine lv_istore_n (lv' := [(2, .int x3), (4, .int xs0), (0, .ref (ad 0 0 0)), (1, .int x1), (3, .int x3)]) hx hb dX4_mostUrgentOn_77 rfl hl (by decide) rfl (fun ls hl => ?_)
        refine lv_iinc (v := (x3 + 1)) (lv' := [(3, .int (x3 + 1)), (2, .int x3), (4, .int xs0), (0, .ref (ad 0 0 0)), (1, .int x1)]) hx hb dX4_mostUrgentOn_78 hl (k := 4) rfl rfl (by decide) rfl (fun ls hl => ?_)
        refine lv_goto (tgt := 4) hx hb dX4_mostUrgentOn_81 (by decide) ?_
        exact hk4 _ _ _ _ hf hW hS (lv_sub hl [3, 4, 1, 0] rfl)
set_option maxHeartbeats 4000000 in
set_option maxRecDepth 100000 in
theorem t_X4_mostUrgentOn_42 {p : Program} {l : Launch} {e : Env} {s : State} {m : MethodId} {args : Array Value} {below : List Frame} {meth : Method} {c : Code} {D : va_G} {cy : Nat → ClassId} {ad : ks_A} {En : Nat → Prop} {n0 : Nat → Prop} {σ0 : ks_S} {o : Int64} {N : Nat} {out : (Int32 × ks_S)} (C : ks_M p s m args meth c D cy ad En (fun k => ks_g k = 0) n0 σ0 o wsX4_mostUrgentOn cX4_mostUrgentOn RX4 5 (some .int)) {k4 : ks_S → Int32 → Int32 → Int32 → Option (Int32 × ks_S)} (hk4 : ∀ (σ : ks_S) (x1 : Int32) (x2 : Int32) (x3 : Int32), k4 σ x1 x2 x3 = some out → ∀ {H : Heap} {locs : List Loc} {ls : Array Slot}, ks_W D cy ad En σ o H → va_S (ks_F n0) s.heap H locs → lv_has ls 5 [(0, .ref (ad 0 0 0)), (1, .int x1), (2, .int x2), (3, .int x3)] → W p l e (ks_Rm 1 0 0 21) s m args below meth c H locs 0 0 (MQ below (ks_Qi D cy ad En n0 o out) args s 0 0 (ks_F n0)) (F0 m 4 ls [])) {σ : ks_S} {x1 : Int32} {x2 : Int32} {x3 : Int32}  (hf : f_X4_mostUrgentOn_42 N k4 σ x1 x2 x3 = some out) {H : Heap} {locs : List Loc} {ls : Array Slot} (hW : ks_W D cy ad En σ o H) (hS : va_S (ks_F n0) s.heap H locs) (hl : lv_has ls 5 [(0, .ref (ad 0 0 0)), (1, .int x1), (2, .int x2), (3, .int x3)]) : W p l e (ks_Rm 1 0 0 21) s m args below meth c H locs 0 0 (MQ below (ks_Qi D cy ad En n0 o out) args s 0 0 (ks_F n0)) (F0 m 42 ls []) := by
  obtain ⟨hx, hb, hml, hr, hown, hts, hlocks, hG, hU0, hE⟩ := id C
  have hK := hU0.2.2
  unfold f_X4_mostUrgentOn_42 at hf
  refine lv_iconst (v := 0) hx hb dX4_mostUrgentOn_42 (by decide) ?_
  exact t_X4_mostUrgentOn_43 C hk4  hf hW hS (lv_sub hl [0, 1, 2, 3] rfl)
set_option maxHeartbeats 4000000 in
set_option maxRecDepth 100000 in
theorem t_X4_mostUrgentOn_4 {p : Program} {l : Launch} {e : Env} {s : State} {m : MethodId} {args : Array Value} {below : List Frame} {meth : Method} {c : Code} {D : va_G} {cy : Nat → ClassId} {ad : ks_A} {En : Nat → Prop} {n0 : Nat → Prop} {σ0 : ks_S} {o : Int64} {N : Nat} {out : (Int32 × ks_S)} (C : ks_M p s m args meth c D cy ad En (fun k => ks_g k = 0) n0 σ0 o wsX4_mostUrgentOn cX4_mostUrgentOn RX4 5 (some .int)) : ∀ (n : Nat) (σ : ks_S) (x1 : Int32) (x2 : Int32) (x3 : Int32), f_X4_mostUrgentOn_4 N n σ x1 x2 x3 = some out → ∀ {H : Heap} {locs : List Loc} {ls : Array Slot}, ks_W D cy ad En σ o H → va_S (ks_F n0) s.heap H locs → lv_has ls 5 [(0, .ref (ad 0 0 0)), (1, .int x1), (2, .int x2), (3, .int x3)] → W p l e (ks_Rm 1 0 0 21) s m args below meth c H locs 0 0 (MQ below (ks_Qi D cy ad En n0 o out) args s 0 0 (ks_F n0)) (F0 m 4 ls []) := by
  obtain ⟨hx, hb, hml, hr, hown, hts, hlocks, hG, hU0, hE⟩ := id C
  have hK := hU0.2.2
  intro n
  induction n with
  | zero => intro σ x1 x2 x3; intro  hf; exact absurd hf (by simp [f_X4_mostUrgentOn_4])
  | succ n hk4 =>
    intro σ x1 x2 x3  hf H locs ls hW hS hl
    rw [f_X4_mostUrgentOn_4] at hf
    refine lv_iload_n hx hb dX4_mostUrgentOn_4 rfl (lv_at hl 3 rfl) ?_
    refine lv_bipush (v := 16) hx hb dX4_mostUrgentOn_5 (by decide) ?_
    refine lv_icmp_ge (tgt := 84) hx hb dX4_mostUrgentOn_7 (by decide) (fun c1 => ?_) (fun c1 => ?_)
    · rw [if_pos c1] at hf
      refine lv_iload_n hx hb dX4_mostUrgentOn_84 rfl (lv_at hl 2 rfl) ?_
      exact ks_iret C hf hW hS dX4_mostUrgentOn_85
    · rw [if_neg c1] at hf
      refine lv_aload_n hx hb dX4_mostUrgentOn_10 rfl (lv_at hl 0 rfl) ?_
      refine va_get (D := D) (ci := 4) (v := .ref (ad 1 0 0)) (C := RX4) (T := TX4) (N := 8) hx hb hts in_X4_mostUrgentOn_4 hown hK (ks_P1 hW (ks_v0 (i := 0) (j := 0) (hE 0 rfl)) (ks_c0 cy ad o 0 0 _)) 0 rfl rfl 0 (by decide) (hts (.fieldLink RX4 11 "SpinKernel" "tasks" "[LSpinKernel$Task;") (by decide +kernel)) (fun _ h => h) rfl dX4_mostUrgentOn_11 ?_
      refine lv_iload_n hx hb dX4_mostUrgentOn_14 rfl (lv_at hl 3 rfl) ?_
      obtain ⟨hi2, hf⟩ := ks_guard hf
      refine ks_aald hx hb hK hW (ks_v1 (i := 0) (j := 0) (hE 1 rfl)) 3 (ks_c1 cy ad o 0 0 _) rfl rfl hi2 dX4_mostUrgentOn_15 ?_
      refine lv_iload_n hx hb dX4_mostUrgentOn_16 rfl (lv_at hl 1 rfl) ?_
      obtain ⟨⟨r5, s4⟩, hc3, hf⟩ := ks_bind hf
      try dsimp only at hf
      refine ks_calli (va_runV (As := [.int x1]) (rest := []) ⟨hx, hb, hml, hown, hts⟩ (m_X3_isOn l D cy ad En n0 hG hE o (ks_v8 (j := 0) (ks_in_lt hi2) (hE 8 rfl)) hc3) (cwV 1 hts gX4_mostUrgentOn_X3_isOn rfl rfl rfl (by decide +kernel) ⟨(Nat.le_of_ble_eq_true rfl), (Nat.le_of_ble_eq_true rfl)⟩) ⟨ks_U.blind, ks_recv hK hW (ks_v8 (j := 0) (ks_in_lt hi2) (hE 8 rfl)) (ks_c8 cy ad o (x3.toNatClampNeg) 0 _) rfl, fun U hU hWm => ⟨rfl, hU0.now hS hW hWm.alike hU⟩⟩ rfl rfl hl.1 rfl (lv_room (Nat.le_of_ble_eq_true rfl)) dX4_mostUrgentOn_17 ⟨(Nat.le_of_ble_eq_true rfl), (Nat.le_of_ble_eq_true rfl)⟩) hS (fun H locs hW hS => ?_)
      refine lv_if_eq (tgt := 42) hx hb dX4_mostUrgentOn_20 (by decide) (fun c6 => ?_) (fun c6 => ?_)
      · rw [if_pos c6] at hf
        exact t_X4_mostUrgentOn_42 C hk4  hf hW hS (lv_sub hl [0, 1, 2, 3] rfl)
      · rw [if_neg c6] at hf
        refine lv_aload_n hx hb dX4_mostUrgentOn_23 rfl (lv_at hl 0 rfl) ?_
        refine va_get (D := D) (ci := 4) (v := .ref (ad 1 0 0)) (C := RX4) (T := TX4) (N := 8) hx hb hts in_X4_mostUrgentOn_4 hown hK (ks_P1 hW (ks_v0 (i := 0) (j := 0) (hE 0 rfl)) (ks_c0 cy ad o 0 0 _)) 0 rfl rfl 0 (by decide) (hts (.fieldLink RX4 11 "SpinKernel" "tasks" "[LSpinKernel$Task;") (by decide +kernel)) (fun _ h => h) rfl dX4_mostUrgentOn_24 ?_
        refine lv_iload_n hx hb dX4_mostUrgentOn_27 rfl (lv_at hl 3 rfl) ?_
        obtain ⟨hi12, hf⟩ := ks_guard hf
        refine ks_aald hx hb hK hW (ks_v1 (i := 0) (j := 0) (hE 1 rfl)) 3 (ks_c1 cy ad o 0 0 _) rfl rfl hi12 dX4_mostUrgentOn_28 ?_
        refine va_get (D := D) (ci := 3) (v := .ref (ad 9 (x3.toNatClampNeg) 0)) (C := RX3) (T := TX3) (N := 10) hx hb hts in_X4_mostUrgentOn_3 hown hK (ks_P1 hW (ks_v8 (j := 0) (ks_in_lt hi12) (hE 8 rfl)) (ks_c8 cy ad o (x3.toNatClampNeg) 0 _)) 0 rfl rfl 9 (by decide) (hts (.fieldLink RX4 119 "SpinKernel$Task" "job" "LSpinKernel$Job;") (by decide +kernel)) (fun _ h => h) rfl dX4_mostUrgentOn_29 ?_
        refine va_get (D := D) (ci := 0) (v := .int (s4 9 ((x3.toNatClampNeg)) 0 1)) (C := RX0) (T := TX0) (N := 12) hx hb hts in_X4_mostUrgentOn_0 hown hK (ks_P1 hW (ks_v9 (j := 0) (ks_v8 (j := 0) (ks_in_lt hi12) (hE 8 rfl)).2.1 (hE 9 rfl)) (ks_c9 cy ad o (x3.toNatClampNeg) 0 _)) 0 rfl rfl 1 (by decide) (hts (.fieldLink RX4 187 "SpinKernel$Job" "isOpen" "Z") (by decide +kernel)) (fun _ h => h) rfl dX4_mostUrgentOn_32 ?_
        refine lv_if_eq (tgt := 42) hx hb dX4_mostUrgentOn_35 (by decide) (fun c13 => ?_) (fun c13 => ?_)
        · rw [if_pos c13] at hf
          exact t_X4_mostUrgentOn_42 C hk4  hf hW hS (lv_sub hl [0, 1, 2, 3] rfl)
        · rw [if_neg c13] at hf
          refine lv_iconst (v := 1) hx hb dX4_mostUrgentOn_38 (by decide) ?_
          refine lv_goto (tgt := 43) hx hb dX4_mostUrgentOn_39 (by decide) ?_
          exact t_X4_mostUrgentOn_43 C hk4  hf hW hS (lv_sub hl [0, 1, 2, 3] rfl)
set_option maxHeartbeats 4000000 in
set_option maxRecDepth 100000 in
theorem t_X4_mostUrgentOn {p : Program} {l : Launch} {e : Env} {s : State} {m : MethodId} {args : Array Value} {below : List Frame} {meth : Method} {c : Code} {D : va_G} {cy : Nat → ClassId} {ad : ks_A} {En : Nat → Prop} {n0 : Nat → Prop} {σ0 : ks_S} {o : Int64} {N : Nat} {out : (Int32 × ks_S)} (C : ks_M p s m args meth c D cy ad En (fun k => ks_g k = 0) n0 σ0 o wsX4_mostUrgentOn cX4_mostUrgentOn RX4 5 (some .int)) {σ : ks_S} {x1 : Int32}  (hf : f_X4_mostUrgentOn N σ x1 = some out) {H : Heap} {locs : List Loc} {ls : Array Slot} (hW : ks_W D cy ad En σ o H) (hS : va_S (ks_F n0) s.heap H locs) (hl : lv_has ls 5 [(0, .ref (ad 0 0 0)), (1, .int x1)]) : W p l e (ks_Rm 1 0 0 21) s m args below meth c H locs 0 0 (MQ below (ks_Qi D cy ad En n0 o out) args s 0 0 (ks_F n0)) (F0 m 0 ls []) := by
  obtain ⟨hx, hb, hml, hr, hown, hts, hlocks, hG, hU0, hE⟩ := id C
  have hK := hU0.2.2
  unfold f_X4_mostUrgentOn at hf
  refine lv_iconst (v := (-1)) hx hb dX4_mostUrgentOn_0 (by decide) ?_
  refine lv_istore_n (lv' := [(2, .int (-1)), (0, .ref (ad 0 0 0)), (1, .int x1)]) hx hb dX4_mostUrgentOn_1 rfl hl (by decide) rfl (fun ls hl => ?_)
  refine lv_iconst (v := 0) hx hb dX4_mostUrgentOn_2 (by decide) ?_
  refine lv_istore_n (lv' := [(3, .int 0), (2, .int (-1)), (0, .ref (ad 0 0 0)), (1, .int x1)]) hx hb dX4_mostUrgentOn_3 rfl hl (by decide) rfl (fun ls hl => ?_)
  exact t_X4_mostUrgentOn_4 C _ _ _ _ _  hf hW hS (lv_sub hl [2, 3, 1, 0] rfl)
set_option maxHeartbeats 4000000 in
set_option maxRecDepth 100000 in
theorem m_X4_mostUrgentOn (l : Launch) (D : va_G) (cy : Nat → ClassId) (ad : ks_A) (En : Nat → Prop) (n0 : Nat → Prop) (hG : ks_G ad En n0) (hE : ∀ k, ks_g k = 0 → En k) (o : Int64) {N : Nat} {σ : ks_S} {x1 : Int32}  {out : (Int32 × ks_S)} (hf : f_X4_mostUrgentOn N σ x1 = some out) : Met l yX4_mostUrgentOn wsX4_mostUrgentOn (ks_Rm 1 0 0 21) (va_Pc [.ref (ad 0 0 0), .int x1] (ks_U D cy ad En n0 σ o)) (ks_Qi D cy ad En n0 o out) 0 0 (ks_F n0) := by
  refine Met.ofW (cc := cX4_mostUrgentOn) (maxL := 5) (ret := some .int) (by decide) rfl ?_
  intro p e s m args below meth c s₁ B hml hv
  obtain ⟨rfl, hU⟩ := hv
  have hl := lv_entry ([.ref (ad 0 0 0), .int x1]) (n := 5) (Nat.le_of_ble_eq_true rfl)
  rw [lg_entry_eq]
  generalize (lg_sl ([.ref (ad 0 0 0), .int x1]) ++ List.replicate (5 - (lg_sl ([.ref (ad 0 0 0), .int x1])).length) Slot.unset).toArray = ls at hl ⊢
  exact t_X4_mostUrgentOn ⟨B.exec, B.bytes, hml, B.returns, findClass_of_methodNamed B.named, atoms_spec (ws := wsX4_mostUrgentOn) B.pre, B.notSynchronized, hG, hU, hE⟩  hf hU.2.1 va_S.rf hl

/-! SpinKernel.askIfDue(I)V -/
def f_X4_askIfDue (σ : ks_S) (x1 : Int32) : Option ks_S :=
  (if ks_in x1 4 = true then (if ((σ 6 0 0 x1.toNatClampNeg)) = ((-1)) then some σ else (if ks_in ((σ 6 0 0 x1.toNatClampNeg)) 16 = true then ((f_X3_hasToAsk σ ((((σ 6 0 0 x1.toNatClampNeg)).toNatClampNeg))).bind fun (r6, s5) => (if r6 = 0 then some s5 else (if ks_in ((σ 6 0 0 x1.toNatClampNeg)) 16 = true then ((f_X3_startSpinning s5 ((((σ 6 0 0 x1.toNatClampNeg)).toNatClampNeg))).bind fun s10 => (if ks_in ((σ 6 0 0 x1.toNatClampNeg)) 16 = true then ((f_X3_nextRequest s10 ((((σ 6 0 0 x1.toNatClampNeg)).toNatClampNeg))).bind fun ((r15, r15j), s14) => ((f_X4_rowOf s14 ((s14 11 r15 r15j 1))).bind fun ((r19, r19j), s18) => ((f_X2_join s18 r19 x1).bind fun s22 => some s22))) else none)) else none))) else none)) else none)
theorem in_X4_askIfDue_1 : ∀ w ∈ wsX10, w ∈ wsX4_askIfDue := by decide +kernel
theorem in_X4_askIfDue_4 : ∀ w ∈ wsX40, w ∈ wsX4_askIfDue := by decide +kernel
set_option maxHeartbeats 4000000 in
set_option maxRecDepth 100000 in
theorem t_X4_askIfDue {p : Program} {l : Launch} {e : Env} {s : State} {m : MethodId} {args : Array Value} {below : List Frame} {meth : Method} {c : Code} {D : va_G} {cy : Nat → ClassId} {ad : ks_A} {En : Nat → Prop} {n0 : Nat → Prop} {σ0 : ks_S} {o : Int64} {out : ks_S} (C : ks_M p s m args meth c D cy ad En (fun k => ks_g k = 0) n0 σ0 o wsX4_askIfDue cX4_askIfDue RX4 3 (none)) {σ : ks_S} {x1 : Int32}  (hf : f_X4_askIfDue σ x1 = some out) {H : Heap} {locs : List Loc} {ls : Array Slot} (hW : ks_W D cy ad En σ o H) (hS : va_S (ks_F n0) s.heap H locs) (hl : lv_has ls 3 [(0, .ref (ad 0 0 0)), (1, .int x1)]) : W p l e (ks_Rm 3 0 0 54) s m args below meth c H locs 0 0 (MQ below (ks_Qv D cy ad En n0 o out) args s 0 0 (ks_F n0)) (F0 m 0 ls []) := by
  obtain ⟨hx, hb, hml, hr, hown, hts, hlocks, hG, hU0, hE⟩ := id C
  have hK := hU0.2.2
  unfold f_X4_askIfDue at hf
  refine lv_aload_n hx hb dX4_askIfDue_0 rfl (lv_at hl 0 rfl) ?_
  refine va_get (D := D) (ci := 4) (v := .ref (ad 6 0 0)) (C := RX4) (T := TX4) (N := 8) hx hb hts in_X4_askIfDue_4 hown hK (ks_P1 hW (ks_v0 (i := 0) (j := 0) (hE 0 rfl)) (ks_c0 cy ad o 0 0 _)) 0 rfl rfl 4 (by decide) (hts (.fieldLink RX4 30 "SpinKernel" "taskOfCore" "[I") (by decide +kernel)) (fun _ h => h) rfl dX4_askIfDue_1 ?_
  refine lv_iload_n hx hb dX4_askIfDue_4 rfl (lv_at hl 1 rfl) ?_
  obtain ⟨hi1, hf⟩ := ks_guard hf
  refine ks_iald hx hb hK hW (ks_v6 (i := 0) (j := 0) (hE 6 rfl)) (ks_c6 cy ad o 0 0 _) hi1 dX4_askIfDue_5 ?_
  refine lv_istore_n (lv' := [(2, .int (σ 6 0 0 x1.toNatClampNeg)), (0, .ref (ad 0 0 0)), (1, .int x1)]) hx hb dX4_askIfDue_6 rfl hl (by decide) rfl (fun ls hl => ?_)
  refine lv_iload_n hx hb dX4_askIfDue_7 rfl (lv_at hl 0 rfl) ?_
  refine lv_iconst (v := (-1)) hx hb dX4_askIfDue_8 (by decide) ?_
  refine lv_icmp_eq (tgt := 53) hx hb dX4_askIfDue_9 (by decide) (fun c2 => ?_) (fun c2 => ?_)
  · rw [if_pos c2] at hf
    exact ks_vret C hf hW hS dX4_askIfDue_53
  · rw [if_neg c2] at hf
    refine lv_aload_n hx hb dX4_askIfDue_12 rfl (lv_at hl 1 rfl) ?_
    refine va_get (D := D) (ci := 4) (v := .ref (ad 1 0 0)) (C := RX4) (T := TX4) (N := 8) hx hb hts in_X4_askIfDue_4 hown hK (ks_P1 hW (ks_v0 (i := 0) (j := 0) (hE 0 rfl)) (ks_c0 cy ad o 0 0 _)) 0 rfl rfl 0 (by decide) (hts (.fieldLink RX4 11 "SpinKernel" "tasks" "[LSpinKernel$Task;") (by decide +kernel)) (fun _ h => h) rfl dX4_askIfDue_13 ?_
    refine lv_iload_n hx hb dX4_askIfDue_16 rfl (lv_at hl 0 rfl) ?_
    obtain ⟨hi3, hf⟩ := ks_guard hf
    refine ks_aald hx hb hK hW (ks_v1 (i := 0) (j := 0) (hE 1 rfl)) 3 (ks_c1 cy ad o 0 0 _) rfl rfl hi3 dX4_askIfDue_17 ?_
    obtain ⟨⟨r6, s5⟩, hc4, hf⟩ := ks_bind hf
    try dsimp only at hf
    refine ks_calli (va_runV (As := []) (rest := []) ⟨hx, hb, hml, hown, hts⟩ (m_X3_hasToAsk l D cy ad En n0 hG hE o (ks_v8 (j := 0) (ks_in_lt hi3) (hE 8 rfl)) hc4) (cwV 0 hts gX4_askIfDue_X3_hasToAsk rfl rfl rfl (by decide +kernel) ⟨(Nat.le_of_ble_eq_true rfl), (Nat.le_of_ble_eq_true rfl)⟩) ⟨ks_U.blind, ks_recv hK hW (ks_v8 (j := 0) (ks_in_lt hi3) (hE 8 rfl)) (ks_c8 cy ad o (((σ 6 0 0 x1.toNatClampNeg)).toNatClampNeg) 0 _) rfl, fun U hU hWm => ⟨rfl, hU0.now hS hW hWm.alike hU⟩⟩ rfl rfl hl.1 rfl (lv_room (Nat.le_of_ble_eq_true rfl)) dX4_askIfDue_18 ⟨(Nat.le_of_ble_eq_true rfl), (Nat.le_of_ble_eq_true rfl)⟩) hS (fun H locs hW hS => ?_)
    refine lv_if_eq (tgt := 53) hx hb dX4_askIfDue_21 (by decide) (fun c7 => ?_) (fun c7 => ?_)
    · rw [if_pos c7] at hf
      exact ks_vret C hf hW hS dX4_askIfDue_53
    · rw [if_neg c7] at hf
      refine lv_aload_n hx hb dX4_askIfDue_24 rfl (lv_at hl 1 rfl) ?_
      refine va_get (D := D) (ci := 4) (v := .ref (ad 1 0 0)) (C := RX4) (T := TX4) (N := 8) hx hb hts in_X4_askIfDue_4 hown hK (ks_P1 hW (ks_v0 (i := 0) (j := 0) (hE 0 rfl)) (ks_c0 cy ad o 0 0 _)) 0 rfl rfl 0 (by decide) (hts (.fieldLink RX4 11 "SpinKernel" "tasks" "[LSpinKernel$Task;") (by decide +kernel)) (fun _ h => h) rfl dX4_askIfDue_25 ?_
      refine lv_iload_n hx hb dX4_askIfDue_28 rfl (lv_at hl 0 rfl) ?_
      obtain ⟨hi8, hf⟩ := ks_guard hf
      refine ks_aald hx hb hK hW (ks_v1 (i := 0) (j := 0) (hE 1 rfl)) 3 (ks_c1 cy ad o 0 0 _) rfl rfl hi8 dX4_askIfDue_29 ?_
      obtain ⟨s10, hc9, hf⟩ := ks_bind hf
      try dsimp only at hf
      refine ks_callv (va_runV (As := []) (rest := []) ⟨hx, hb, hml, hown, hts⟩ (m_X3_startSpinning l D cy ad En n0 hG hE o (ks_v8 (j := 0) (ks_in_lt hi8) (hE 8 rfl)) hc9) (cwV 0 hts gX4_askIfDue_X3_startSpinning rfl rfl rfl (by decide +kernel) ⟨(Nat.le_of_ble_eq_true rfl), (Nat.le_of_ble_eq_true rfl)⟩) ⟨ks_U.blind, ks_recv hK hW (ks_v8 (j := 0) (ks_in_lt hi8) (hE 8 rfl)) (ks_c8 cy ad o (((σ 6 0 0 x1.toNatClampNeg)).toNatClampNeg) 0 _) rfl, fun U hU hWm => ⟨rfl, hU0.now hS hW hWm.alike hU⟩⟩ rfl rfl hl.1 rfl (lv_room (Nat.le_of_ble_eq_true rfl)) dX4_askIfDue_30 ⟨(Nat.le_of_ble_eq_true rfl), (Nat.le_of_ble_eq_true rfl)⟩) hS (fun H locs hW hS => ?_)
      refine lv_aload_n hx hb dX4_askIfDue_33 rfl (lv_at hl 1 rfl) ?_
      refine lv_aload_n hx hb dX4_askIfDue_34 rfl (lv_at hl 1 rfl) ?_
      refine va_get (D := D) (ci := 4) (v := .ref (ad 1 0 0)) (C := RX4) (T := TX4) (N := 8) hx hb hts in_X4_askIfDue_4 hown hK (ks_P1 hW (ks_v0 (i := 0) (j := 0) (hE 0 rfl)) (ks_c0 cy ad o 0 0 _)) 0 rfl rfl 0 (by decide) (hts (.fieldLink RX4 11 "SpinKernel" "tasks" "[LSpinKernel$Task;") (by decide +kernel)) (fun _ h => h) rfl dX4_askIfDue_35 ?_
      refine lv_iload_n hx hb dX4_askIfDue_38 rfl (lv_at hl 0 rfl) ?_
      obtain ⟨hi12, hf⟩ := ks_guard hf
      refine ks_aald hx hb hK hW (ks_v1 (i := 0) (j := 0) (hE 1 rfl)) 3 (ks_c1 cy ad o 0 0 _) rfl rfl hi12 dX4_askIfDue_39 ?_
      obtain ⟨⟨⟨r15, r15j⟩, s14⟩, hc13, hf⟩ := ks_bind hf
      try dsimp only at hf
      refine ks_callr (va_runV (As := []) (rest := [.ref (ad 0 0 0)]) ⟨hx, hb, hml, hown, hts⟩ (m_X3_nextRequest l D cy ad En n0 hG hE o (ks_v8 (j := 0) (ks_in_lt hi12) (hE 8 rfl)) hc13) (cwV 0 hts gX4_askIfDue_X3_nextRequest rfl rfl rfl (by decide +kernel) ⟨(Nat.le_of_ble_eq_true rfl), (Nat.le_of_ble_eq_true rfl)⟩) ⟨ks_U.blind, ks_recv hK hW (ks_v8 (j := 0) (ks_in_lt hi12) (hE 8 rfl)) (ks_c8 cy ad o (((σ 6 0 0 x1.toNatClampNeg)).toNatClampNeg) 0 _) rfl, fun U hU hWm => ⟨rfl, hU0.now hS hW hWm.alike hU⟩⟩ rfl rfl hl.1 rfl (lv_room (Nat.le_of_ble_eq_true rfl)) dX4_askIfDue_40 ⟨(Nat.le_of_ble_eq_true rfl), (Nat.le_of_ble_eq_true rfl)⟩) hS (fun H locs hv16 hW hS => ?_)
      refine va_get (D := D) (ci := 1) (v := .int (s14 11 r15 r15j 1)) (C := RX1) (T := TX1) (N := 8) hx hb hts in_X4_askIfDue_1 hown hK (ks_P1 hW hv16 (ks_c11 cy ad o r15 r15j _)) 0 rfl rfl 1 (by decide) (hts (.fieldLink RX4 220 "SpinKernel$Request" "lock" "I") (by decide +kernel)) (fun _ h => h) rfl dX4_askIfDue_43 ?_
      obtain ⟨⟨⟨r19, r19j⟩, s18⟩, hc17, hf⟩ := ks_bind hf
      try dsimp only at hf
      refine ks_callr (va_runV (As := [.int (s14 11 r15 r15j 1)]) (rest := []) ⟨hx, hb, hml, hown, hts⟩ (m_X4_rowOf l D cy ad En n0 hG hE o hc17) (cwV 1 hts gX4_askIfDue_X4_rowOf rfl rfl rfl (by decide +kernel) ⟨(Nat.le_of_ble_eq_true rfl), (Nat.le_of_ble_eq_true rfl)⟩) ⟨ks_U.blind, ks_recv hK hW (ks_v0 (i := 0) (j := 0) (hE 0 rfl)) (ks_c0 cy ad o 0 0 _) rfl, fun U hU hWm => ⟨rfl, hU0.now hS hW hWm.alike hU⟩⟩ rfl rfl hl.1 rfl (lv_room (Nat.le_of_ble_eq_true rfl)) dX4_askIfDue_46 ⟨(Nat.le_of_ble_eq_true rfl), (Nat.le_of_ble_eq_true rfl)⟩) hS (fun H locs hv20 hW hS => ?_)
      obtain rfl : r19j = 0 := ks_j0 hv20 rfl
      refine lv_iload_n hx hb dX4_askIfDue_49 rfl (lv_at hl 2 rfl) ?_
      obtain ⟨s22, hc21, hf⟩ := ks_bind hf
      try dsimp only at hf
      refine ks_callv (va_runV (As := [.int x1]) (rest := []) ⟨hx, hb, hml, hown, hts⟩ (m_X2_join l D cy ad En n0 hG hE o hv20 hc21) (cwV 1 hts gX4_askIfDue_X2_join rfl rfl rfl (by decide +kernel) ⟨(Nat.le_of_ble_eq_true rfl), (Nat.le_of_ble_eq_true rfl)⟩) ⟨ks_U.blind, ks_recv hK hW hv20 (ks_c12 cy ad o r19 0 _) rfl, fun U hU hWm => ⟨rfl, hU0.now hS hW hWm.alike hU⟩⟩ rfl rfl hl.1 rfl (lv_room (Nat.le_of_ble_eq_true rfl)) dX4_askIfDue_50 ⟨(Nat.le_of_ble_eq_true rfl), (Nat.le_of_ble_eq_true rfl)⟩) hS (fun H locs hW hS => ?_)
      exact ks_vret C hf hW hS dX4_askIfDue_53
set_option maxHeartbeats 4000000 in
set_option maxRecDepth 100000 in
theorem m_X4_askIfDue (l : Launch) (D : va_G) (cy : Nat → ClassId) (ad : ks_A) (En : Nat → Prop) (n0 : Nat → Prop) (hG : ks_G ad En n0) (hE : ∀ k, ks_g k = 0 → En k) (o : Int64) {σ : ks_S} {x1 : Int32}  {out : ks_S} (hf : f_X4_askIfDue σ x1 = some out) : Met l yX4_askIfDue wsX4_askIfDue (ks_Rm 3 0 0 54) (va_Pc [.ref (ad 0 0 0), .int x1] (ks_U D cy ad En n0 σ o)) (ks_Qv D cy ad En n0 o out) 0 0 (ks_F n0) := by
  refine Met.ofW (cc := cX4_askIfDue) (maxL := 3) (ret := none) (by decide) rfl ?_
  intro p e s m args below meth c s₁ B hml hv
  obtain ⟨rfl, hU⟩ := hv
  have hl := lv_entry ([.ref (ad 0 0 0), .int x1]) (n := 3) (Nat.le_of_ble_eq_true rfl)
  rw [lg_entry_eq]
  generalize (lg_sl ([.ref (ad 0 0 0), .int x1]) ++ List.replicate (3 - (lg_sl ([.ref (ad 0 0 0), .int x1])).length) Slot.unset).toArray = ls at hl ⊢
  exact t_X4_askIfDue ⟨B.exec, B.bytes, hml, B.returns, findClass_of_methodNamed B.named, atoms_spec (ws := wsX4_askIfDue) B.pre, B.notSynchronized, hG, hU, hE⟩  hf hU.2.1 va_S.rf hl

/-! SpinKernel.takeJobs()V -/
def f_X4_takeJobs_2 (N : Nat) : Nat → ks_S → Int32 → Option ks_S
  | 0, _, _ => none
  | n + 1, σ, x1 => (if 4 ≤ x1 then some σ else ((f_X4_isHeldFast σ x1).bind fun (r4, s3) => (if r4 = 0 then ((f_X4_mostUrgentOn N s3 x1).bind fun (r8, s7) => (if ks_in x1 4 = true then ((f_X4_askIfDue ((ks_up s7 6 0 0 x1.toNatClampNeg r8)) x1).bind fun s11 => f_X4_takeJobs_2 N n s11 ((x1 + 1))) else none)) else f_X4_takeJobs_2 N n s3 ((x1 + 1)))))
def f_X4_takeJobs (N : Nat) (σ : ks_S)  : Option ks_S :=
  f_X4_takeJobs_2 N N σ 0
theorem in_X4_takeJobs_4 : ∀ w ∈ wsX40, w ∈ wsX4_takeJobs := by decide +kernel
set_option maxHeartbeats 4000000 in
set_option maxRecDepth 100000 in
theorem t_X4_takeJobs_2 {p : Program} {l : Launch} {e : Env} {s : State} {m : MethodId} {args : Array Value} {below : List Frame} {meth : Method} {c : Code} {D : va_G} {cy : Nat → ClassId} {ad : ks_A} {En : Nat → Prop} {n0 : Nat → Prop} {σ0 : ks_S} {o : Int64} {N : Nat} {out : ks_S} (C : ks_M p s m args meth c D cy ad En (fun k => ks_g k = 0) n0 σ0 o wsX4_takeJobs cX4_takeJobs RX4 2 (none)) : ∀ (n : Nat) (σ : ks_S) (x1 : Int32), f_X4_takeJobs_2 N n σ x1 = some out → ∀ {H : Heap} {locs : List Loc} {ls : Array Slot}, ks_W D cy ad En σ o H → va_S (ks_F n0) s.heap H locs → lv_has ls 2 [(0, .ref (ad 0 0 0)), (1, .int x1)] → W p l e (ks_Rm 4 0 0 76) s m args below meth c H locs 0 0 (MQ below (ks_Qv D cy ad En n0 o out) args s 0 0 (ks_F n0)) (F0 m 2 ls []) := by
  obtain ⟨hx, hb, hml, hr, hown, hts, hlocks, hG, hU0, hE⟩ := id C
  have hK := hU0.2.2
  intro n
  induction n with
  | zero => intro σ x1; intro  hf; exact absurd hf (by simp [f_X4_takeJobs_2])
  | succ n hk2 =>
    intro σ x1  hf H locs ls hW hS hl
    rw [f_X4_takeJobs_2] at hf
    refine lv_iload_n hx hb dX4_takeJobs_2 rfl (lv_at hl 1 rfl) ?_
    refine lv_iconst (v := 4) hx hb dX4_takeJobs_3 (by decide) ?_
    refine lv_icmp_ge (tgt := 37) hx hb dX4_takeJobs_4 (by decide) (fun c1 => ?_) (fun c1 => ?_)
    · rw [if_pos c1] at hf
      exact ks_vret C hf hW hS dX4_takeJobs_37
    · rw [if_neg c1] at hf
      refine lv_aload_n hx hb dX4_takeJobs_7 rfl (lv_at hl 0 rfl) ?_
      refine lv_iload_n hx hb dX4_takeJobs_8 rfl (lv_at hl 1 rfl) ?_
      obtain ⟨⟨r4, s3⟩, hc2, hf⟩ := ks_bind hf
      try dsimp only at hf
      refine ks_calli (va_runV (As := [.int x1]) (rest := []) ⟨hx, hb, hml, hown, hts⟩ (m_X4_isHeldFast l D cy ad En n0 hG hE o hc2) (cwV 1 hts gX4_takeJobs_X4_isHeldFast rfl rfl rfl (by decide +kernel) ⟨(Nat.le_of_ble_eq_true rfl), (Nat.le_of_ble_eq_true rfl)⟩) ⟨ks_U.blind, ks_recv hK hW (ks_v0 (i := 0) (j := 0) (hE 0 rfl)) (ks_c0 cy ad o 0 0 _) rfl, fun U hU hWm => ⟨rfl, hU0.now hS hW hWm.alike hU⟩⟩ rfl rfl hl.1 rfl (lv_room (Nat.le_of_ble_eq_true rfl)) dX4_takeJobs_9 ⟨(Nat.le_of_ble_eq_true rfl), (Nat.le_of_ble_eq_true rfl)⟩) hS (fun H locs hW hS => ?_)
      refine lv_if_ne (tgt := 31) hx hb dX4_takeJobs_12 (by decide) (fun c5 => ?_) (fun c5 => ?_)
      · rw [if_neg c5] at hf
        refine lv_iinc (v := (x1 + 1)) (lv' := [(1, .int (x1 + 1)), (0, .ref (ad 0 0 0))]) hx hb dX4_takeJobs_31 hl (k := 1) rfl rfl (by decide) rfl (fun ls hl => ?_)
        refine lv_goto (tgt := 2) hx hb dX4_takeJobs_34 (by decide) ?_
        exact hk2 _ _ hf hW hS (lv_sub hl [1, 0] rfl)
      · rw [if_pos c5] at hf
        refine lv_aload_n hx hb dX4_takeJobs_15 rfl (lv_at hl 0 rfl) ?_
        refine va_get (D := D) (ci := 4) (v := .ref (ad 6 0 0)) (C := RX4) (T := TX4) (N := 8) hx hb hts in_X4_takeJobs_4 hown hK (ks_P1 hW (ks_v0 (i := 0) (j := 0) (hE 0 rfl)) (ks_c0 cy ad o 0 0 _)) 0 rfl rfl 4 (by decide) (hts (.fieldLink RX4 30 "SpinKernel" "taskOfCore" "[I") (by decide +kernel)) (fun _ h => h) rfl dX4_takeJobs_16 ?_
        refine lv_iload_n hx hb dX4_takeJobs_19 rfl (lv_at hl 1 rfl) ?_
        refine lv_aload_n hx hb dX4_takeJobs_20 rfl (lv_at hl 0 rfl) ?_
        refine lv_iload_n hx hb dX4_takeJobs_21 rfl (lv_at hl 1 rfl) ?_
        obtain ⟨⟨r8, s7⟩, hc6, hf⟩ := ks_bind hf
        try dsimp only at hf
        refine ks_calli (va_runV (As := [.int x1]) (rest := [.int x1, .ref (ad 6 0 0)]) ⟨hx, hb, hml, hown, hts⟩ (m_X4_mostUrgentOn l D cy ad En n0 hG hE o hc6) (cwV 1 hts gX4_takeJobs_X4_mostUrgentOn rfl rfl rfl (by decide +kernel) ⟨(Nat.le_of_ble_eq_true rfl), (Nat.le_of_ble_eq_true rfl)⟩) ⟨ks_U.blind, ks_recv hK hW (ks_v0 (i := 0) (j := 0) (hE 0 rfl)) (ks_c0 cy ad o 0 0 _) rfl, fun U hU hWm => ⟨rfl, hU0.now hS hW hWm.alike hU⟩⟩ rfl rfl hl.1 rfl (lv_room (Nat.le_of_ble_eq_true rfl)) dX4_takeJobs_22 ⟨(Nat.le_of_ble_eq_true rfl), (Nat.le_of_ble_eq_true rfl)⟩) hS (fun H locs hW hS => ?_)
        obtain ⟨hi9, hf⟩ := ks_guard hf
        refine ks_iast hx hb hK hG hW hS (ks_v6 (i := 0) (j := 0) (hE 6 rfl)) (fun c => ks_c6 cy ad o 0 0 c) hi9 dX4_takeJobs_25 (fun H locs hW hS => ?_)
        refine lv_aload_n hx hb dX4_takeJobs_26 rfl (lv_at hl 0 rfl) ?_
        refine lv_iload_n hx hb dX4_takeJobs_27 rfl (lv_at hl 1 rfl) ?_
        obtain ⟨s11, hc10, hf⟩ := ks_bind hf
        try dsimp only at hf
        refine ks_callv (va_runV (As := [.int x1]) (rest := []) ⟨hx, hb, hml, hown, hts⟩ (m_X4_askIfDue l D cy ad En n0 hG hE o hc10) (cwV 1 hts gX4_takeJobs_X4_askIfDue rfl rfl rfl (by decide +kernel) ⟨(Nat.le_of_ble_eq_true rfl), (Nat.le_of_ble_eq_true rfl)⟩) ⟨ks_U.blind, ks_recv hK hW (ks_v0 (i := 0) (j := 0) (hE 0 rfl)) (ks_c0 cy ad o 0 0 _) rfl, fun U hU hWm => ⟨rfl, hU0.now hS hW hWm.alike hU⟩⟩ rfl rfl hl.1 rfl (lv_room (Nat.le_of_ble_eq_true rfl)) dX4_takeJobs_28 ⟨(Nat.le_of_ble_eq_true rfl), (Nat.le_of_ble_eq_true rfl)⟩) hS (fun H locs hW hS => ?_)
        refine lv_iinc (v := (x1 + 1)) (lv' := [(1, .int (x1 + 1)), (0, .ref (ad 0 0 0))]) hx hb dX4_takeJobs_31 hl (k := 1) rfl rfl (by decide) rfl (fun ls hl => ?_)
        refine lv_goto (tgt := 2) hx hb dX4_takeJobs_34 (by decide) ?_
        exact hk2 _ _ hf hW hS (lv_sub hl [1, 0] rfl)
set_option maxHeartbeats 4000000 in
set_option maxRecDepth 100000 in
theorem t_X4_takeJobs {p : Program} {l : Launch} {e : Env} {s : State} {m : MethodId} {args : Array Value} {below : List Frame} {meth : Method} {c : Code} {D : va_G} {cy : Nat → ClassId} {ad : ks_A} {En : Nat → Prop} {n0 : Nat → Prop} {σ0 : ks_S} {o : Int64} {N : Nat} {out : ks_S} (C : ks_M p s m args meth c D cy ad En (fun k => ks_g k = 0) n0 σ0 o wsX4_takeJobs cX4_takeJobs RX4 2 (none)) {σ : ks_S}   (hf : f_X4_takeJobs N σ  = some out) {H : Heap} {locs : List Loc} {ls : Array Slot} (hW : ks_W D cy ad En σ o H) (hS : va_S (ks_F n0) s.heap H locs) (hl : lv_has ls 2 [(0, .ref (ad 0 0 0))]) : W p l e (ks_Rm 4 0 0 76) s m args below meth c H locs 0 0 (MQ below (ks_Qv D cy ad En n0 o out) args s 0 0 (ks_F n0)) (F0 m 0 ls []) := by
  obtain ⟨hx, hb, hml, hr, hown, hts, hlocks, hG, hU0, hE⟩ := id C
  have hK := hU0.2.2
  unfold f_X4_takeJobs at hf
  refine lv_iconst (v := 0) hx hb dX4_takeJobs_0 (by decide) ?_
  refine lv_istore_n (lv' := [(1, .int 0), (0, .ref (ad 0 0 0))]) hx hb dX4_takeJobs_1 rfl hl (by decide) rfl (fun ls hl => ?_)
  exact t_X4_takeJobs_2 C _ _ _  hf hW hS (lv_sub hl [1, 0] rfl)
set_option maxHeartbeats 4000000 in
set_option maxRecDepth 100000 in
theorem m_X4_takeJobs (l : Launch) (D : va_G) (cy : Nat → ClassId) (ad : ks_A) (En : Nat → Prop) (n0 : Nat → Prop) (hG : ks_G ad En n0) (hE : ∀ k, ks_g k = 0 → En k) (o : Int64) {N : Nat} {σ : ks_S}   {out : ks_S} (hf : f_X4_takeJobs N σ  = some out) : Met l yX4_takeJobs wsX4_takeJobs (ks_Rm 4 0 0 76) (va_Pc [.ref (ad 0 0 0)] (ks_U D cy ad En n0 σ o)) (ks_Qv D cy ad En n0 o out) 0 0 (ks_F n0) := by
  refine Met.ofW (cc := cX4_takeJobs) (maxL := 2) (ret := none) (by decide) rfl ?_
  intro p e s m args below meth c s₁ B hml hv
  obtain ⟨rfl, hU⟩ := hv
  have hl := lv_entry ([.ref (ad 0 0 0)]) (n := 2) (Nat.le_of_ble_eq_true rfl)
  rw [lg_entry_eq]
  generalize (lg_sl ([.ref (ad 0 0 0)]) ++ List.replicate (2 - (lg_sl ([.ref (ad 0 0 0)])).length) Slot.unset).toArray = ls at hl ⊢
  exact t_X4_takeJobs ⟨B.exec, B.bytes, hml, B.returns, findClass_of_methodNamed B.named, atoms_spec (ws := wsX4_takeJobs) B.pre, B.notSynchronized, hG, hU, hE⟩  hf hU.2.1 va_S.rf hl

/-! SpinKernel.letFirstsHold()V -/
def f_X4_letFirstsHold_45 (N : Nat) (k10 : ks_S → Int32 → Int32 → Option ks_S) (σ : ks_S) (x2 : Int32) (x3 : Int32) (xs0 : Int32) : Option ks_S :=
  (if xs0 = ((-1)) then k10 σ x2 ((x3 + 1)) else (if ks_in xs0 16 = true then (if ((σ 9 ((xs0.toNatClampNeg)) 0 3)) = 2 then (if ks_in xs0 16 = true then ((f_X3_startHolding σ ((xs0.toNatClampNeg))).bind fun s13 => k10 s13 x2 ((x3 + 1))) else none) else k10 σ x2 ((x3 + 1))) else none))
def f_X4_letFirstsHold_10 (N : Nat) : Nat → ks_S → Int32 → Int32 → Option ks_S
  | 0, _, _, _ => none
  | n + 1, σ, x2, x3 => (if x2 ≤ x3 then some σ else (if ks_in x3 8 = true then ((f_X2_coreAt σ ((x3.toNatClampNeg)) 0).bind fun (r5, s4) => (if r5 = ((-1)) then f_X4_letFirstsHold_45 N (f_X4_letFirstsHold_10 N n) s4 x2 x3 ((-1)) else (if ks_in r5 4 = true then f_X4_letFirstsHold_45 N (f_X4_letFirstsHold_10 N n) s4 x2 x3 ((s4 6 0 0 r5.toNatClampNeg)) else none))) else none))
def f_X4_letFirstsHold (N : Nat) (σ : ks_S)  : Option ks_S :=
  f_X4_letFirstsHold_10 N N σ 8 0
theorem in_X4_letFirstsHold_0 : ∀ w ∈ wsX00, w ∈ wsX4_letFirstsHold := by decide +kernel
theorem in_X4_letFirstsHold_3 : ∀ w ∈ wsX30, w ∈ wsX4_letFirstsHold := by decide +kernel
theorem in_X4_letFirstsHold_4 : ∀ w ∈ wsX40, w ∈ wsX4_letFirstsHold := by decide +kernel
set_option maxHeartbeats 4000000 in
set_option maxRecDepth 100000 in
theorem t_X4_letFirstsHold_45 {p : Program} {l : Launch} {e : Env} {s : State} {m : MethodId} {args : Array Value} {below : List Frame} {meth : Method} {c : Code} {D : va_G} {cy : Nat → ClassId} {ad : ks_A} {En : Nat → Prop} {n0 : Nat → Prop} {σ0 : ks_S} {o : Int64} {N : Nat} {out : ks_S} (C : ks_M p s m args meth c D cy ad En (fun k => ks_g k = 0) n0 σ0 o wsX4_letFirstsHold cX4_letFirstsHold RX4 7 (none)) {k10 : ks_S → Int32 → Int32 → Option ks_S} (hk10 : ∀ (σ : ks_S) (x2 : Int32) (x3 : Int32), k10 σ x2 x3 = some out → ∀ {H : Heap} {locs : List Loc} {ls : Array Slot}, ks_W D cy ad En σ o H → va_S (ks_F n0) s.heap H locs → lv_has ls 7 [(0, .ref (ad 0 0 0)), (1, .ref (ad 2 0 0)), (2, .int x2), (3, .int x3)] → W p l e (ks_Rm 3 0 0 54) s m args below meth c H locs 0 0 (MQ below (ks_Qv D cy ad En n0 o out) args s 0 0 (ks_F n0)) (F0 m 10 ls [])) {σ : ks_S} {x2 : Int32} {x3 : Int32} {xs0 : Int32}  (hf : f_X4_letFirstsHold_45 N k10 σ x2 x3 xs0 = some out) {H : Heap} {locs : List Loc} {ls : Array Slot} (hW : ks_W D cy ad En σ o H) (hS : va_S (ks_F n0) s.heap H locs) (hl : lv_has ls 7 [(0, .ref (ad 0 0 0)), (1, .ref (ad 2 0 0)), (2, .int x2), (3, .int x3)]) : W p l e (ks_Rm 3 0 0 54) s m args below meth c H locs 0 0 (MQ below (ks_Qv D cy ad En n0 o out) args s 0 0 (ks_F n0)) (F0 m 45 ls [.int xs0]) := by
  obtain ⟨hx, hb, hml, hr, hown, hts, hlocks, hG, hU0, hE⟩ := id C
  have hK := hU0.2.2
  unfold f_X4_letFirstsHold_45 at hf
  refine lv_istore (lv' := [(6, .int xs0), (0, .ref (ad 0 0 0)), (1, .ref (ad 2 0 0)), (2, .int x2), (3, .int x3)]) hx hb dX4_letFirstsHold_45 hl (by decide) rfl (fun ls hl => ?_)
  refine lv_iload hx hb dX4_letFirstsHold_47 (lv_at hl 0 rfl) ?_
  refine lv_iconst (v := (-1)) hx hb dX4_letFirstsHold_49 (by decide) ?_
  refine lv_icmp_eq (tgt := 80) hx hb dX4_letFirstsHold_50 (by decide) (fun c8 => ?_) (fun c8 => ?_)
  · rw [if_pos c8] at hf
    refine lv_iinc (v := (x3 + 1)) (lv' := [(3, .int (x3 + 1)), (6, .int xs0), (0, .ref (ad 0 0 0)), (1, .ref (ad 2 0 0)), (2, .int x2)]) hx hb dX4_letFirstsHold_80 hl (k := 4) rfl rfl (by decide) rfl (fun ls hl => ?_)
    refine lv_goto (tgt := 10) hx hb dX4_letFirstsHold_83 (by decide) ?_
    exact hk10 _ _ _ hf hW hS (lv_sub hl [2, 3, 4, 0] rfl)
  · rw [if_neg c8] at hf
    refine lv_aload_n hx hb dX4_letFirstsHold_53 rfl (lv_at hl 1 rfl) ?_
    refine va_get (D := D) (ci := 4) (v := .ref (ad 1 0 0)) (C := RX4) (T := TX4) (N := 8) hx hb hts in_X4_letFirstsHold_4 hown hK (ks_P1 hW (ks_v0 (i := 0) (j := 0) (hE 0 rfl)) (ks_c0 cy ad o 0 0 _)) 0 rfl rfl 0 (by decide) (hts (.fieldLink RX4 11 "SpinKernel" "tasks" "[LSpinKernel$Task;") (by decide +kernel)) (fun _ h => h) rfl dX4_letFirstsHold_54 ?_
    refine lv_iload hx hb dX4_letFirstsHold_57 (lv_at hl 0 rfl) ?_
    obtain ⟨hi9, hf⟩ := ks_guard hf
    refine ks_aald hx hb hK hW (ks_v1 (i := 0) (j := 0) (hE 1 rfl)) 3 (ks_c1 cy ad o 0 0 _) rfl rfl hi9 dX4_letFirstsHold_59 ?_
    refine va_get (D := D) (ci := 3) (v := .ref (ad 9 (xs0.toNatClampNeg) 0)) (C := RX3) (T := TX3) (N := 10) hx hb hts in_X4_letFirstsHold_3 hown hK (ks_P1 hW (ks_v8 (j := 0) (ks_in_lt hi9) (hE 8 rfl)) (ks_c8 cy ad o (xs0.toNatClampNeg) 0 _)) 0 rfl rfl 9 (by decide) (hts (.fieldLink RX4 119 "SpinKernel$Task" "job" "LSpinKernel$Job;") (by decide +kernel)) (fun _ h => h) rfl dX4_letFirstsHold_60 ?_
    refine va_get (D := D) (ci := 0) (v := .int (σ 9 ((xs0.toNatClampNeg)) 0 3)) (C := RX0) (T := TX0) (N := 12) hx hb hts in_X4_letFirstsHold_0 hown hK (ks_P1 hW (ks_v9 (j := 0) (ks_v8 (j := 0) (ks_in_lt hi9) (hE 8 rfl)).2.1 (hE 9 rfl)) (ks_c9 cy ad o (xs0.toNatClampNeg) 0 _)) 0 rfl rfl 3 (by decide) (hts (.fieldLink RX4 258 "SpinKernel$Job" "state" "I") (by decide +kernel)) (fun _ h => h) rfl dX4_letFirstsHold_63 ?_
    refine lv_iconst (v := 2) hx hb dX4_letFirstsHold_66 (by decide) ?_
    refine lv_icmp_ne (tgt := 80) hx hb dX4_letFirstsHold_67 (by decide) (fun c10 => ?_) (fun c10 => ?_)
    · rw [if_neg c10] at hf
      refine lv_iinc (v := (x3 + 1)) (lv' := [(3, .int (x3 + 1)), (6, .int xs0), (0, .ref (ad 0 0 0)), (1, .ref (ad 2 0 0)), (2, .int x2)]) hx hb dX4_letFirstsHold_80 hl (k := 4) rfl rfl (by decide) rfl (fun ls hl => ?_)
      refine lv_goto (tgt := 10) hx hb dX4_letFirstsHold_83 (by decide) ?_
      exact hk10 _ _ _ hf hW hS (lv_sub hl [2, 3, 4, 0] rfl)
    · rw [if_pos c10] at hf
      refine lv_aload_n hx hb dX4_letFirstsHold_70 rfl (lv_at hl 1 rfl) ?_
      refine va_get (D := D) (ci := 4) (v := .ref (ad 1 0 0)) (C := RX4) (T := TX4) (N := 8) hx hb hts in_X4_letFirstsHold_4 hown hK (ks_P1 hW (ks_v0 (i := 0) (j := 0) (hE 0 rfl)) (ks_c0 cy ad o 0 0 _)) 0 rfl rfl 0 (by decide) (hts (.fieldLink RX4 11 "SpinKernel" "tasks" "[LSpinKernel$Task;") (by decide +kernel)) (fun _ h => h) rfl dX4_letFirstsHold_71 ?_
      refine lv_iload hx hb dX4_letFirstsHold_74 (lv_at hl 0 rfl) ?_
      obtain ⟨hi11, hf⟩ := ks_guard hf
      refine ks_aald hx hb hK hW (ks_v1 (i := 0) (j := 0) (hE 1 rfl)) 3 (ks_c1 cy ad o 0 0 _) rfl rfl hi11 dX4_letFirstsHold_76 ?_
      obtain ⟨s13, hc12, hf⟩ := ks_bind hf
      try dsimp only at hf
      refine ks_callv (va_runV (As := []) (rest := []) ⟨hx, hb, hml, hown, hts⟩ (m_X3_startHolding l D cy ad En n0 hG hE o (ks_v8 (j := 0) (ks_in_lt hi11) (hE 8 rfl)) hc12) (cwV 0 hts gX4_letFirstsHold_X3_startHolding rfl rfl rfl (by decide +kernel) ⟨(Nat.le_of_ble_eq_true rfl), (Nat.le_of_ble_eq_true rfl)⟩) ⟨ks_U.blind, ks_recv hK hW (ks_v8 (j := 0) (ks_in_lt hi11) (hE 8 rfl)) (ks_c8 cy ad o (xs0.toNatClampNeg) 0 _) rfl, fun U hU hWm => ⟨rfl, hU0.now hS hW hWm.alike hU⟩⟩ rfl rfl hl.1 rfl (lv_room (Nat.le_of_ble_eq_true rfl)) dX4_letFirstsHold_77 ⟨(Nat.le_of_ble_eq_true rfl), (Nat.le_of_ble_eq_true rfl)⟩) hS (fun H locs hW hS => ?_)
      refine lv_iinc (v := (x3 + 1)) (lv' := [(3, .int (x3 + 1)), (6, .int xs0), (0, .ref (ad 0 0 0)), (1, .ref (ad 2 0 0)), (2, .int x2)]) hx hb dX4_letFirstsHold_80 hl (k := 4) rfl rfl (by decide) rfl (fun ls hl => ?_)
      refine lv_goto (tgt := 10) hx hb dX4_letFirstsHold_83 (by decide) ?_
      exact hk10 _ _ _ hf hW hS (lv_sub hl [2, 3, 4, 0] rfl)
set_option maxHeartbeats 4000000 in
set_option maxRecDepth 100000 in
theorem t_X4_letFirstsHold_10 {p : Program} {l : Launch} {e : Env} {s : State} {m : MethodId} {args : Array Value} {below : List Frame} {meth : Method} {c : Code} {D : va_G} {cy : Nat → ClassId} {ad : ks_A} {En : Nat → Prop} {n0 : Nat → Prop} {σ0 : ks_S} {o : Int64} {N : Nat} {out : ks_S} (C : ks_M p s m args meth c D cy ad En (fun k => ks_g k = 0) n0 σ0 o wsX4_letFirstsHold cX4_letFirstsHold RX4 7 (none)) : ∀ (n : Nat) (σ : ks_S) (x2 : Int32) (x3 : Int32), f_X4_letFirstsHold_10 N n σ x2 x3 = some out → ∀ {H : Heap} {locs : List Loc} {ls : Array Slot}, ks_W D cy ad En σ o H → va_S (ks_F n0) s.heap H locs → lv_has ls 7 [(0, .ref (ad 0 0 0)), (1, .ref (ad 2 0 0)), (2, .int x2), (3, .int x3)] → W p l e (ks_Rm 3 0 0 54) s m args below meth c H locs 0 0 (MQ below (ks_Qv D cy ad En n0 o out) args s 0 0 (ks_F n0)) (F0 m 10 ls []) := by
  obtain ⟨hx, hb, hml, hr, hown, hts, hlocks, hG, hU0, hE⟩ := id C
  have hK := hU0.2.2
  intro n
  induction n with
  | zero => intro σ x2 x3; intro  hf; exact absurd hf (by simp [f_X4_letFirstsHold_10])
  | succ n hk10 =>
    intro σ x2 x3  hf H locs ls hW hS hl
    rw [f_X4_letFirstsHold_10] at hf
    refine lv_iload_n hx hb dX4_letFirstsHold_10 rfl (lv_at hl 3 rfl) ?_
    refine lv_iload_n hx hb dX4_letFirstsHold_11 rfl (lv_at hl 2 rfl) ?_
    refine lv_icmp_ge (tgt := 86) hx hb dX4_letFirstsHold_12 (by decide) (fun c1 => ?_) (fun c1 => ?_)
    · rw [if_pos c1] at hf
      exact ks_vret C hf hW hS dX4_letFirstsHold_86
    · rw [if_neg c1] at hf
      refine lv_aload_n hx hb dX4_letFirstsHold_15 rfl (lv_at hl 1 rfl) ?_
      refine lv_iload_n hx hb dX4_letFirstsHold_16 rfl (lv_at hl 3 rfl) ?_
      obtain ⟨hi2, hf⟩ := ks_guard hf
      refine ks_aald hx hb hK hW (ks_v2 (i := 0) (j := 0) (hE 2 rfl)) 4 (ks_c2 cy ad o 0 0 _) rfl rfl hi2 dX4_letFirstsHold_17 ?_
      refine lv_astore (lv' := [(4, .ref (ad 12 (x3.toNatClampNeg) 0)), (0, .ref (ad 0 0 0)), (1, .ref (ad 2 0 0)), (2, .int x2), (3, .int x3)]) hx hb dX4_letFirstsHold_18 hl (by decide) rfl (fun ls hl => ?_)
      refine lv_aload hx hb dX4_letFirstsHold_20 (lv_at hl 0 rfl) ?_
      refine lv_iconst (v := 0) hx hb dX4_letFirstsHold_22 (by decide) ?_
      obtain ⟨⟨r5, s4⟩, hc3, hf⟩ := ks_bind hf
      try dsimp only at hf
      refine ks_calli (va_runV (As := [.int 0]) (rest := []) ⟨hx, hb, hml, hown, hts⟩ (m_X2_coreAt l D cy ad En n0 hG hE o (ks_v12 (j := 0) (ks_in_lt hi2) (hE 12 rfl)) hc3) (cwV 1 hts gX4_letFirstsHold_X2_coreAt rfl rfl rfl (by decide +kernel) ⟨(Nat.le_of_ble_eq_true rfl), (Nat.le_of_ble_eq_true rfl)⟩) ⟨ks_U.blind, ks_recv hK hW (ks_v12 (j := 0) (ks_in_lt hi2) (hE 12 rfl)) (ks_c12 cy ad o (x3.toNatClampNeg) 0 _) rfl, fun U hU hWm => ⟨rfl, hU0.now hS hW hWm.alike hU⟩⟩ rfl rfl hl.1 rfl (lv_room (Nat.le_of_ble_eq_true rfl)) dX4_letFirstsHold_23 ⟨(Nat.le_of_ble_eq_true rfl), (Nat.le_of_ble_eq_true rfl)⟩) hS (fun H locs hW hS => ?_)
      refine lv_istore (lv' := [(5, .int r5), (4, .ref (ad 12 (x3.toNatClampNeg) 0)), (0, .ref (ad 0 0 0)), (1, .ref (ad 2 0 0)), (2, .int x2), (3, .int x3)]) hx hb dX4_letFirstsHold_26 hl (by decide) rfl (fun ls hl => ?_)
      refine lv_iload hx hb dX4_letFirstsHold_28 (lv_at hl 0 rfl) ?_
      refine lv_iconst (v := (-1)) hx hb dX4_letFirstsHold_30 (by decide) ?_
      refine lv_icmp_ne (tgt := 38) hx hb dX4_letFirstsHold_31 (by decide) (fun c6 => ?_) (fun c6 => ?_)
      · rw [if_neg c6] at hf
        refine lv_aload_n hx hb dX4_letFirstsHold_38 rfl (lv_at hl 2 rfl) ?_
        refine va_get (D := D) (ci := 4) (v := .ref (ad 6 0 0)) (C := RX4) (T := TX4) (N := 8) hx hb hts in_X4_letFirstsHold_4 hown hK (ks_P1 hW (ks_v0 (i := 0) (j := 0) (hE 0 rfl)) (ks_c0 cy ad o 0 0 _)) 0 rfl rfl 4 (by decide) (hts (.fieldLink RX4 30 "SpinKernel" "taskOfCore" "[I") (by decide +kernel)) (fun _ h => h) rfl dX4_letFirstsHold_39 ?_
        refine lv_iload hx hb dX4_letFirstsHold_42 (lv_at hl 0 rfl) ?_
        obtain ⟨hi7, hf⟩ := ks_guard hf
        refine ks_iald hx hb hK hW (ks_v6 (i := 0) (j := 0) (hE 6 rfl)) (ks_c6 cy ad o 0 0 _) hi7 dX4_letFirstsHold_44 ?_
        exact t_X4_letFirstsHold_45 C hk10  hf hW hS (lv_sub hl [2, 3, 4, 5] rfl)
      · rw [if_pos c6] at hf
        refine lv_iconst (v := (-1)) hx hb dX4_letFirstsHold_34 (by decide) ?_
        refine lv_goto (tgt := 45) hx hb dX4_letFirstsHold_35 (by decide) ?_
        exact t_X4_letFirstsHold_45 C hk10  hf hW hS (lv_sub hl [2, 3, 4, 5] rfl)
set_option maxHeartbeats 4000000 in
set_option maxRecDepth 100000 in
theorem t_X4_letFirstsHold {p : Program} {l : Launch} {e : Env} {s : State} {m : MethodId} {args : Array Value} {below : List Frame} {meth : Method} {c : Code} {D : va_G} {cy : Nat → ClassId} {ad : ks_A} {En : Nat → Prop} {n0 : Nat → Prop} {σ0 : ks_S} {o : Int64} {N : Nat} {out : ks_S} (C : ks_M p s m args meth c D cy ad En (fun k => ks_g k = 0) n0 σ0 o wsX4_letFirstsHold cX4_letFirstsHold RX4 7 (none)) {σ : ks_S}   (hf : f_X4_letFirstsHold N σ  = some out) {H : Heap} {locs : List Loc} {ls : Array Slot} (hW : ks_W D cy ad En σ o H) (hS : va_S (ks_F n0) s.heap H locs) (hl : lv_has ls 7 [(0, .ref (ad 0 0 0))]) : W p l e (ks_Rm 3 0 0 54) s m args below meth c H locs 0 0 (MQ below (ks_Qv D cy ad En n0 o out) args s 0 0 (ks_F n0)) (F0 m 0 ls []) := by
  obtain ⟨hx, hb, hml, hr, hown, hts, hlocks, hG, hU0, hE⟩ := id C
  have hK := hU0.2.2
  unfold f_X4_letFirstsHold at hf
  refine lv_aload_n hx hb dX4_letFirstsHold_0 rfl (lv_at hl 0 rfl) ?_
  refine va_get (D := D) (ci := 4) (v := .ref (ad 2 0 0)) (C := RX4) (T := TX4) (N := 8) hx hb hts in_X4_letFirstsHold_4 hown hK (ks_P1 hW (ks_v0 (i := 0) (j := 0) (hE 0 rfl)) (ks_c0 cy ad o 0 0 _)) 0 rfl rfl 1 (by decide) (hts (.fieldLink RX4 17 "SpinKernel" "rows" "[LSpinKernel$Row;") (by decide +kernel)) (fun _ h => h) rfl dX4_letFirstsHold_1 ?_
  refine lv_astore_n (lv' := [(1, .ref (ad 2 0 0)), (0, .ref (ad 0 0 0))]) hx hb dX4_letFirstsHold_4 rfl hl (by decide) rfl (fun ls hl => ?_)
  refine lv_aload_n hx hb dX4_letFirstsHold_5 rfl (lv_at hl 0 rfl) ?_
  refine ks_alen hx hb hK hW (ks_v2 (i := 0) (j := 0) (hE 2 rfl)) 4 (ks_c2 cy ad o 0 0 _) rfl (v := 8) rfl dX4_letFirstsHold_6 ?_
  refine lv_istore_n (lv' := [(2, .int 8), (1, .ref (ad 2 0 0)), (0, .ref (ad 0 0 0))]) hx hb dX4_letFirstsHold_7 rfl hl (by decide) rfl (fun ls hl => ?_)
  refine lv_iconst (v := 0) hx hb dX4_letFirstsHold_8 (by decide) ?_
  refine lv_istore_n (lv' := [(3, .int 0), (2, .int 8), (1, .ref (ad 2 0 0)), (0, .ref (ad 0 0 0))]) hx hb dX4_letFirstsHold_9 rfl hl (by decide) rfl (fun ls hl => ?_)
  exact t_X4_letFirstsHold_10 C _ _ _ _  hf hW hS (lv_sub hl [3, 2, 1, 0] rfl)
set_option maxHeartbeats 4000000 in
set_option maxRecDepth 100000 in
theorem m_X4_letFirstsHold (l : Launch) (D : va_G) (cy : Nat → ClassId) (ad : ks_A) (En : Nat → Prop) (n0 : Nat → Prop) (hG : ks_G ad En n0) (hE : ∀ k, ks_g k = 0 → En k) (o : Int64) {N : Nat} {σ : ks_S}   {out : ks_S} (hf : f_X4_letFirstsHold N σ  = some out) : Met l yX4_letFirstsHold wsX4_letFirstsHold (ks_Rm 3 0 0 54) (va_Pc [.ref (ad 0 0 0)] (ks_U D cy ad En n0 σ o)) (ks_Qv D cy ad En n0 o out) 0 0 (ks_F n0) := by
  refine Met.ofW (cc := cX4_letFirstsHold) (maxL := 7) (ret := none) (by decide) rfl ?_
  intro p e s m args below meth c s₁ B hml hv
  obtain ⟨rfl, hU⟩ := hv
  have hl := lv_entry ([.ref (ad 0 0 0)]) (n := 7) (Nat.le_of_ble_eq_true rfl)
  rw [lg_entry_eq]
  generalize (lg_sl ([.ref (ad 0 0 0)]) ++ List.replicate (7 - (lg_sl ([.ref (ad 0 0 0)])).length) Slot.unset).toArray = ls at hl ⊢
  exact t_X4_letFirstsHold ⟨B.exec, B.bytes, hml, B.returns, findClass_of_methodNamed B.named, atoms_spec (ws := wsX4_letFirstsHold) B.pre, B.notSynchronized, hG, hU, hE⟩  hf hU.2.1 va_S.rf hl

/-! SpinKernel.ticksAlike()I -/
def f_X4_ticksAlike_5 (N : Nat) : Nat → ks_S → Int32 → Int32 → Option (Int32 × ks_S)
  | 0, _, _, _ => none
  | n + 1, σ, x1, x2 => (if 4 ≤ x2 then some (x1, σ) else (if ks_in x2 4 = true then (if ((σ 6 0 0 x2.toNatClampNeg)) = ((-1)) then f_X4_ticksAlike_5 N n σ x1 ((x2 + 1)) else (if ks_in ((σ 6 0 0 x2.toNatClampNeg)) 16 = true then (if ((σ 9 ((((σ 6 0 0 x2.toNatClampNeg)).toNatClampNeg)) 0 3)) = 2 then f_X4_ticksAlike_5 N n σ x1 ((x2 + 1)) else (if ks_in ((σ 6 0 0 x2.toNatClampNeg)) 16 = true then ((f_X3_ticksToChange σ ((((σ 6 0 0 x2.toNatClampNeg)).toNatClampNeg))).bind fun (r9, s8) => f_X4_ticksAlike_5 N n s8 ((if r9 < x1 then r9 else x1)) ((x2 + 1))) else none)) else none)) else none))
def f_X4_ticksAlike (N : Nat) (σ : ks_S)  : Option (Int32 × ks_S) :=
  f_X4_ticksAlike_5 N N σ 100000 0
theorem in_X4_ticksAlike_0 : ∀ w ∈ wsX00, w ∈ wsX4_ticksAlike := by decide +kernel
theorem in_X4_ticksAlike_3 : ∀ w ∈ wsX30, w ∈ wsX4_ticksAlike := by decide +kernel
theorem in_X4_ticksAlike_4 : ∀ w ∈ wsX40, w ∈ wsX4_ticksAlike := by decide +kernel
set_option maxHeartbeats 4000000 in
set_option maxRecDepth 100000 in
theorem t_X4_ticksAlike_5 {p : Program} {l : Launch} {e : Env} {s : State} {m : MethodId} {args : Array Value} {below : List Frame} {meth : Method} {c : Code} {D : va_G} {cy : Nat → ClassId} {ad : ks_A} {En : Nat → Prop} {n0 : Nat → Prop} {σ0 : ks_S} {o : Int64} {N : Nat} {out : (Int32 × ks_S)} (C : ks_M p s m args meth c D cy ad En (fun k => ks_g k = 0) n0 σ0 o wsX4_ticksAlike cX4_ticksAlike RX4 4 (some .int)) : ∀ (n : Nat) (σ : ks_S) (x1 : Int32) (x2 : Int32), f_X4_ticksAlike_5 N n σ x1 x2 = some out → ∀ {H : Heap} {locs : List Loc} {ls : Array Slot}, ks_W D cy ad En σ o H → va_S (ks_F n0) s.heap H locs → lv_has ls 4 [(0, .ref (ad 0 0 0)), (1, .int x1), (2, .int x2)] → W p l e (ks_Rm 3 0 0 55) s m args below meth c H locs 0 0 (MQ below (ks_Qi D cy ad En n0 o out) args s 0 0 (ks_F n0)) (F0 m 5 ls []) := by
  obtain ⟨hx, hb, hml, hr, hown, hts, hlocks, hG, hU0, hE⟩ := id C
  have hK := hU0.2.2
  intro n
  induction n with
  | zero => intro σ x1 x2; intro  hf; exact absurd hf (by simp [f_X4_ticksAlike_5])
  | succ n hk5 =>
    intro σ x1 x2  hf H locs ls hW hS hl
    rw [f_X4_ticksAlike_5] at hf
    refine lv_iload_n hx hb dX4_ticksAlike_5 rfl (lv_at hl 2 rfl) ?_
    refine lv_iconst (v := 4) hx hb dX4_ticksAlike_6 (by decide) ?_
    refine lv_icmp_ge (tgt := 58) hx hb dX4_ticksAlike_7 (by decide) (fun c1 => ?_) (fun c1 => ?_)
    · rw [if_pos c1] at hf
      refine lv_iload_n hx hb dX4_ticksAlike_58 rfl (lv_at hl 1 rfl) ?_
      exact ks_iret C hf hW hS dX4_ticksAlike_59
    · rw [if_neg c1] at hf
      refine lv_aload_n hx hb dX4_ticksAlike_10 rfl (lv_at hl 0 rfl) ?_
      refine va_get (D := D) (ci := 4) (v := .ref (ad 6 0 0)) (C := RX4) (T := TX4) (N := 8) hx hb hts in_X4_ticksAlike_4 hown hK (ks_P1 hW (ks_v0 (i := 0) (j := 0) (hE 0 rfl)) (ks_c0 cy ad o 0 0 _)) 0 rfl rfl 4 (by decide) (hts (.fieldLink RX4 30 "SpinKernel" "taskOfCore" "[I") (by decide +kernel)) (fun _ h => h) rfl dX4_ticksAlike_11 ?_
      refine lv_iload_n hx hb dX4_ticksAlike_14 rfl (lv_at hl 2 rfl) ?_
      obtain ⟨hi2, hf⟩ := ks_guard hf
      refine ks_iald hx hb hK hW (ks_v6 (i := 0) (j := 0) (hE 6 rfl)) (ks_c6 cy ad o 0 0 _) hi2 dX4_ticksAlike_15 ?_
      refine lv_istore_n (lv' := [(3, .int (σ 6 0 0 x2.toNatClampNeg)), (0, .ref (ad 0 0 0)), (1, .int x1), (2, .int x2)]) hx hb dX4_ticksAlike_16 rfl hl (by decide) rfl (fun ls hl => ?_)
      refine lv_iload_n hx hb dX4_ticksAlike_17 rfl (lv_at hl 0 rfl) ?_
      refine lv_iconst (v := (-1)) hx hb dX4_ticksAlike_18 (by decide) ?_
      refine lv_icmp_eq (tgt := 52) hx hb dX4_ticksAlike_19 (by decide) (fun c3 => ?_) (fun c3 => ?_)
      · rw [if_pos c3] at hf
        refine lv_iinc (v := (x2 + 1)) (lv' := [(2, .int (x2 + 1)), (3, .int (σ 6 0 0 x2.toNatClampNeg)), (0, .ref (ad 0 0 0)), (1, .int x1)]) hx hb dX4_ticksAlike_52 hl (k := 3) rfl rfl (by decide) rfl (fun ls hl => ?_)
        refine lv_goto (tgt := 5) hx hb dX4_ticksAlike_55 (by decide) ?_
        exact hk5 _ _ _ hf hW hS (lv_sub hl [2, 3, 0] rfl)
      · rw [if_neg c3] at hf
        refine lv_aload_n hx hb dX4_ticksAlike_22 rfl (lv_at hl 1 rfl) ?_
        refine va_get (D := D) (ci := 4) (v := .ref (ad 1 0 0)) (C := RX4) (T := TX4) (N := 8) hx hb hts in_X4_ticksAlike_4 hown hK (ks_P1 hW (ks_v0 (i := 0) (j := 0) (hE 0 rfl)) (ks_c0 cy ad o 0 0 _)) 0 rfl rfl 0 (by decide) (hts (.fieldLink RX4 11 "SpinKernel" "tasks" "[LSpinKernel$Task;") (by decide +kernel)) (fun _ h => h) rfl dX4_ticksAlike_23 ?_
        refine lv_iload_n hx hb dX4_ticksAlike_26 rfl (lv_at hl 0 rfl) ?_
        obtain ⟨hi4, hf⟩ := ks_guard hf
        refine ks_aald hx hb hK hW (ks_v1 (i := 0) (j := 0) (hE 1 rfl)) 3 (ks_c1 cy ad o 0 0 _) rfl rfl hi4 dX4_ticksAlike_27 ?_
        refine va_get (D := D) (ci := 3) (v := .ref (ad 9 (((σ 6 0 0 x2.toNatClampNeg)).toNatClampNeg) 0)) (C := RX3) (T := TX3) (N := 10) hx hb hts in_X4_ticksAlike_3 hown hK (ks_P1 hW (ks_v8 (j := 0) (ks_in_lt hi4) (hE 8 rfl)) (ks_c8 cy ad o (((σ 6 0 0 x2.toNatClampNeg)).toNatClampNeg) 0 _)) 0 rfl rfl 9 (by decide) (hts (.fieldLink RX4 119 "SpinKernel$Task" "job" "LSpinKernel$Job;") (by decide +kernel)) (fun _ h => h) rfl dX4_ticksAlike_28 ?_
        refine va_get (D := D) (ci := 0) (v := .int (σ 9 ((((σ 6 0 0 x2.toNatClampNeg)).toNatClampNeg)) 0 3)) (C := RX0) (T := TX0) (N := 12) hx hb hts in_X4_ticksAlike_0 hown hK (ks_P1 hW (ks_v9 (j := 0) (ks_v8 (j := 0) (ks_in_lt hi4) (hE 8 rfl)).2.1 (hE 9 rfl)) (ks_c9 cy ad o (((σ 6 0 0 x2.toNatClampNeg)).toNatClampNeg) 0 _)) 0 rfl rfl 3 (by decide) (hts (.fieldLink RX4 258 "SpinKernel$Job" "state" "I") (by decide +kernel)) (fun _ h => h) rfl dX4_ticksAlike_31 ?_
        refine lv_iconst (v := 2) hx hb dX4_ticksAlike_34 (by decide) ?_
        refine lv_icmp_eq (tgt := 52) hx hb dX4_ticksAlike_35 (by decide) (fun c5 => ?_) (fun c5 => ?_)
        · rw [if_pos c5] at hf
          refine lv_iinc (v := (x2 + 1)) (lv' := [(2, .int (x2 + 1)), (3, .int (σ 6 0 0 x2.toNatClampNeg)), (0, .ref (ad 0 0 0)), (1, .int x1)]) hx hb dX4_ticksAlike_52 hl (k := 3) rfl rfl (by decide) rfl (fun ls hl => ?_)
          refine lv_goto (tgt := 5) hx hb dX4_ticksAlike_55 (by decide) ?_
          exact hk5 _ _ _ hf hW hS (lv_sub hl [2, 3, 0] rfl)
        · rw [if_neg c5] at hf
          refine lv_iload_n hx hb dX4_ticksAlike_38 rfl (lv_at hl 2 rfl) ?_
          refine lv_aload_n hx hb dX4_ticksAlike_39 rfl (lv_at hl 1 rfl) ?_
          refine va_get (D := D) (ci := 4) (v := .ref (ad 1 0 0)) (C := RX4) (T := TX4) (N := 8) hx hb hts in_X4_ticksAlike_4 hown hK (ks_P1 hW (ks_v0 (i := 0) (j := 0) (hE 0 rfl)) (ks_c0 cy ad o 0 0 _)) 0 rfl rfl 0 (by decide) (hts (.fieldLink RX4 11 "SpinKernel" "tasks" "[LSpinKernel$Task;") (by decide +kernel)) (fun _ h => h) rfl dX4_ticksAlike_40 ?_
          refine lv_iload_n hx hb dX4_ticksAlike_43 rfl (lv_at hl 0 rfl) ?_
          obtain ⟨hi6, hf⟩ := ks_guard hf
          refine ks_aald hx hb hK hW (ks_v1 (i := 0) (j := 0) (hE 1 rfl)) 3 (ks_c1 cy ad o 0 0 _) rfl rfl hi6 dX4_ticksAlike_44 ?_
          obtain ⟨⟨r9, s8⟩, hc7, hf⟩ := ks_bind hf
          try dsimp only at hf
          refine ks_calli (va_runV (As := []) (rest := [.int x1]) ⟨hx, hb, hml, hown, hts⟩ (m_X3_ticksToChange l D cy ad En n0 hG hE o (ks_v8 (j := 0) (ks_in_lt hi6) (hE 8 rfl)) hc7) (cwV 0 hts gX4_ticksAlike_X3_ticksToChange rfl rfl rfl (by decide +kernel) ⟨(Nat.le_of_ble_eq_true rfl), (Nat.le_of_ble_eq_true rfl)⟩) ⟨ks_U.blind, ks_recv hK hW (ks_v8 (j := 0) (ks_in_lt hi6) (hE 8 rfl)) (ks_c8 cy ad o (((σ 6 0 0 x2.toNatClampNeg)).toNatClampNeg) 0 _) rfl, fun U hU hWm => ⟨rfl, hU0.now hS hW hWm.alike hU⟩⟩ rfl rfl hl.1 rfl (lv_room (Nat.le_of_ble_eq_true rfl)) dX4_ticksAlike_45 ⟨(Nat.le_of_ble_eq_true rfl), (Nat.le_of_ble_eq_true rfl)⟩) hS (fun H locs hW hS => ?_)
          refine va_mmin hx hb (hml.trans hl.1.symm) hown (hts (.methodLink RX4 158 Lib.Math.min.name) (by decide +kernel)) (hts (.static Lib.Math.min.name) (by decide +kernel)) (hts (.initialized "java/lang/Math") (by decide +kernel)) (hts (.code Lib.Math.min.name Lib.Math.min.code 2 (some .int)) (by decide +kernel)) (Nat.le_of_ble_eq_true rfl) (Nat.le_of_ble_eq_true rfl) (Nat.le_of_ble_eq_true rfl) (Nat.le_of_ble_eq_true rfl) dX4_ticksAlike_48 ?_
          refine lv_istore_n (lv' := [(1, .int (if r9 < x1 then r9 else x1)), (3, .int (σ 6 0 0 x2.toNatClampNeg)), (0, .ref (ad 0 0 0)), (2, .int x2)]) hx hb dX4_ticksAlike_51 rfl hl (by decide) rfl (fun ls hl => ?_)
          refine lv_iinc (v := (x2 + 1)) (lv' := [(2, .int (x2 + 1)), (1, .int (if r9 < x1 then r9 else x1)), (3, .int (σ 6 0 0 x2.toNatClampNeg)), (0, .ref (ad 0 0 0))]) hx hb dX4_ticksAlike_52 hl (k := 3) rfl rfl (by decide) rfl (fun ls hl => ?_)
          refine lv_goto (tgt := 5) hx hb dX4_ticksAlike_55 (by decide) ?_
          exact hk5 _ _ _ hf hW hS (lv_sub hl [3, 1, 0] rfl)
set_option maxHeartbeats 4000000 in
set_option maxRecDepth 100000 in
theorem t_X4_ticksAlike {p : Program} {l : Launch} {e : Env} {s : State} {m : MethodId} {args : Array Value} {below : List Frame} {meth : Method} {c : Code} {D : va_G} {cy : Nat → ClassId} {ad : ks_A} {En : Nat → Prop} {n0 : Nat → Prop} {σ0 : ks_S} {o : Int64} {N : Nat} {out : (Int32 × ks_S)} (C : ks_M p s m args meth c D cy ad En (fun k => ks_g k = 0) n0 σ0 o wsX4_ticksAlike cX4_ticksAlike RX4 4 (some .int)) {σ : ks_S}   (hf : f_X4_ticksAlike N σ  = some out) {H : Heap} {locs : List Loc} {ls : Array Slot} (hW : ks_W D cy ad En σ o H) (hS : va_S (ks_F n0) s.heap H locs) (hl : lv_has ls 4 [(0, .ref (ad 0 0 0))]) : W p l e (ks_Rm 3 0 0 55) s m args below meth c H locs 0 0 (MQ below (ks_Qi D cy ad En n0 o out) args s 0 0 (ks_F n0)) (F0 m 0 ls []) := by
  obtain ⟨hx, hb, hml, hr, hown, hts, hlocks, hG, hU0, hE⟩ := id C
  have hK := hU0.2.2
  unfold f_X4_ticksAlike at hf
  refine lv_ldc (v := 100000) hx hb hown (hts (.constant RX4 147 (100000)) (by decide +kernel)) dX4_ticksAlike_0 ?_
  refine lv_istore_n (lv' := [(1, .int 100000), (0, .ref (ad 0 0 0))]) hx hb dX4_ticksAlike_2 rfl hl (by decide) rfl (fun ls hl => ?_)
  refine lv_iconst (v := 0) hx hb dX4_ticksAlike_3 (by decide) ?_
  refine lv_istore_n (lv' := [(2, .int 0), (1, .int 100000), (0, .ref (ad 0 0 0))]) hx hb dX4_ticksAlike_4 rfl hl (by decide) rfl (fun ls hl => ?_)
  exact t_X4_ticksAlike_5 C _ _ _ _  hf hW hS (lv_sub hl [2, 1, 0] rfl)
set_option maxHeartbeats 4000000 in
set_option maxRecDepth 100000 in
theorem m_X4_ticksAlike (l : Launch) (D : va_G) (cy : Nat → ClassId) (ad : ks_A) (En : Nat → Prop) (n0 : Nat → Prop) (hG : ks_G ad En n0) (hE : ∀ k, ks_g k = 0 → En k) (o : Int64) {N : Nat} {σ : ks_S}   {out : (Int32 × ks_S)} (hf : f_X4_ticksAlike N σ  = some out) : Met l yX4_ticksAlike wsX4_ticksAlike (ks_Rm 3 0 0 55) (va_Pc [.ref (ad 0 0 0)] (ks_U D cy ad En n0 σ o)) (ks_Qi D cy ad En n0 o out) 0 0 (ks_F n0) := by
  refine Met.ofW (cc := cX4_ticksAlike) (maxL := 4) (ret := some .int) (by decide) rfl ?_
  intro p e s m args below meth c s₁ B hml hv
  obtain ⟨rfl, hU⟩ := hv
  have hl := lv_entry ([.ref (ad 0 0 0)]) (n := 4) (Nat.le_of_ble_eq_true rfl)
  rw [lg_entry_eq]
  generalize (lg_sl ([.ref (ad 0 0 0)]) ++ List.replicate (4 - (lg_sl ([.ref (ad 0 0 0)])).length) Slot.unset).toArray = ls at hl ⊢
  exact t_X4_ticksAlike ⟨B.exec, B.bytes, hml, B.returns, findClass_of_methodNamed B.named, atoms_spec (ws := wsX4_ticksAlike) B.pre, B.notSynchronized, hG, hU, hE⟩  hf hU.2.1 va_S.rf hl

/-! SpinKernel.holdFor(LSpinKernel$Task;I)V -/
def f_X4_holdFor (N : Nat) (σ : ks_S) (a1 : Nat) (x2 : Int32) : Option ks_S :=
  (if 0 < ((((ks_up σ 9 a1 0 6 ((((σ 9 a1 0 6)) - x2)))) 9 a1 0 6)) then some ((ks_up σ 9 a1 0 6 ((((σ 9 a1 0 6)) - x2)))) else ((f_X3_nextRequest ((ks_up σ 9 a1 0 6 ((((σ 9 a1 0 6)) - x2)))) a1).bind fun ((r4, r4j), s3) => ((f_X4_rowOf s3 ((s3 11 r4 r4j 1))).bind fun ((r8, r8j), s7) => ((f_X2_dropFirst N s7 r8).bind fun s11 => ((f_X3_leaveSection N s11 a1).bind fun s14 => some s14)))))
theorem in_X4_holdFor_0 : ∀ w ∈ wsX00, w ∈ wsX4_holdFor := by decide +kernel
theorem in_X4_holdFor_1 : ∀ w ∈ wsX10, w ∈ wsX4_holdFor := by decide +kernel
theorem in_X4_holdFor_3 : ∀ w ∈ wsX30, w ∈ wsX4_holdFor := by decide +kernel
set_option maxHeartbeats 4000000 in
set_option maxRecDepth 100000 in
theorem t_X4_holdFor {p : Program} {l : Launch} {e : Env} {s : State} {m : MethodId} {args : Array Value} {below : List Frame} {meth : Method} {c : Code} {D : va_G} {cy : Nat → ClassId} {ad : ks_A} {En : Nat → Prop} {n0 : Nat → Prop} {σ0 : ks_S} {o : Int64} {N : Nat} {out : ks_S} (C : ks_M p s m args meth c D cy ad En (fun k => ks_g k = 0) n0 σ0 o wsX4_holdFor cX4_holdFor RX4 3 (none)) {σ : ks_S} {a1 : Nat} {x2 : Int32} (v1 : ks_v En 8 a1 0) (hf : f_X4_holdFor N σ a1 x2 = some out) {H : Heap} {locs : List Loc} {ls : Array Slot} (hW : ks_W D cy ad En σ o H) (hS : va_S (ks_F n0) s.heap H locs) (hl : lv_has ls 3 [(0, .ref (ad 0 0 0)), (1, .ref (ad 8 a1 0)), (2, .int x2)]) : W p l e (ks_Rm 3 0 0 62) s m args below meth c H locs 0 0 (MQ below (ks_Qv D cy ad En n0 o out) args s 0 0 (ks_F n0)) (F0 m 0 ls []) := by
  obtain ⟨hx, hb, hml, hr, hown, hts, hlocks, hG, hU0, hE⟩ := id C
  have hK := hU0.2.2
  unfold f_X4_holdFor at hf
  refine lv_aload_n hx hb dX4_holdFor_0 rfl (lv_at hl 1 rfl) ?_
  refine va_get (D := D) (ci := 3) (v := .ref (ad 9 a1 0)) (C := RX3) (T := TX3) (N := 10) hx hb hts in_X4_holdFor_3 hown hK (ks_P1 hW v1 (ks_c8 cy ad o a1 0 _)) 0 rfl rfl 9 (by decide) (hts (.fieldLink RX4 119 "SpinKernel$Task" "job" "LSpinKernel$Job;") (by decide +kernel)) (fun _ h => h) rfl dX4_holdFor_1 ?_
  refine lv_dup hx hb dX4_holdFor_4 rfl ?_
  refine va_get (D := D) (ci := 0) (v := .int (σ 9 a1 0 6)) (C := RX0) (T := TX0) (N := 12) hx hb hts in_X4_holdFor_0 hown hK (ks_P1 hW (ks_v9 (j := 0) v1.2.1 (hE 9 rfl)) (ks_c9 cy ad o a1 0 _)) 0 rfl rfl 6 (by decide) (hts (.fieldLink RX4 300 "SpinKernel$Job" "sectionLeft" "I") (by decide +kernel)) (fun _ h => h) rfl dX4_holdFor_5 ?_
  refine lv_iload_n hx hb dX4_holdFor_8 rfl (lv_at hl 2 rfl) ?_
  refine lv_isub hx hb dX4_holdFor_9 ?_
  refine ks_put (D := D) (ci := 0) (C := RX0) (T := TX0) (N := 12) hx hb hts in_X4_holdFor_0 tyX0 tyX0_ok nmX0 hown hK hG hW hS (ks_v9 (j := 0) v1.2.1 (hE 9 rfl)) 6 (v := (((σ 9 a1 0 6)) - x2)) (ks_c9 cy ad o a1 0 _) (ks_c9s6 cy ad o a1 0 _ _) rfl (by decide) (hts (.fieldLink RX4 300 "SpinKernel$Job" "sectionLeft" "I") (by decide +kernel)) rfl (ty := .int) (by decide +kernel) rfl rfl (Nat.le_of_ble_eq_true rfl) dX4_holdFor_10 (fun H locs hW hS => ?_)
  refine lv_aload_n hx hb dX4_holdFor_13 rfl (lv_at hl 1 rfl) ?_
  refine va_get (D := D) (ci := 3) (v := .ref (ad 9 a1 0)) (C := RX3) (T := TX3) (N := 10) hx hb hts in_X4_holdFor_3 hown hK (ks_P1 hW v1 (ks_c8 cy ad o a1 0 _)) 0 rfl rfl 9 (by decide) (hts (.fieldLink RX4 119 "SpinKernel$Task" "job" "LSpinKernel$Job;") (by decide +kernel)) (fun _ h => h) rfl dX4_holdFor_14 ?_
  refine va_get (D := D) (ci := 0) (v := .int (((ks_up σ 9 a1 0 6 ((((σ 9 a1 0 6)) - x2)))) 9 a1 0 6)) (C := RX0) (T := TX0) (N := 12) hx hb hts in_X4_holdFor_0 hown hK (ks_P1 hW (ks_v9 (j := 0) v1.2.1 (hE 9 rfl)) (ks_c9 cy ad o a1 0 _)) 0 rfl rfl 6 (by decide) (hts (.fieldLink RX4 300 "SpinKernel$Job" "sectionLeft" "I") (by decide +kernel)) (fun _ h => h) rfl dX4_holdFor_17 ?_
  refine lv_if_gt (tgt := 41) hx hb dX4_holdFor_20 (by decide) (fun c1 => ?_) (fun c1 => ?_)
  · rw [if_pos c1] at hf
    exact ks_vret C hf hW hS dX4_holdFor_41
  · rw [if_neg c1] at hf
    refine lv_aload_n hx hb dX4_holdFor_23 rfl (lv_at hl 0 rfl) ?_
    refine lv_aload_n hx hb dX4_holdFor_24 rfl (lv_at hl 1 rfl) ?_
    obtain ⟨⟨⟨r4, r4j⟩, s3⟩, hc2, hf⟩ := ks_bind hf
    try dsimp only at hf
    refine ks_callr (va_runV (As := []) (rest := [.ref (ad 0 0 0)]) ⟨hx, hb, hml, hown, hts⟩ (m_X3_nextRequest l D cy ad En n0 hG hE o v1 hc2) (cwV 0 hts gX4_holdFor_X3_nextRequest rfl rfl rfl (by decide +kernel) ⟨(Nat.le_of_ble_eq_true rfl), (Nat.le_of_ble_eq_true rfl)⟩) ⟨ks_U.blind, ks_recv hK hW v1 (ks_c8 cy ad o a1 0 _) rfl, fun U hU hWm => ⟨rfl, hU0.now hS hW hWm.alike hU⟩⟩ rfl rfl hl.1 rfl (lv_room (Nat.le_of_ble_eq_true rfl)) dX4_holdFor_25 ⟨(Nat.le_of_ble_eq_true rfl), (Nat.le_of_ble_eq_true rfl)⟩) hS (fun H locs hv5 hW hS => ?_)
    refine va_get (D := D) (ci := 1) (v := .int (s3 11 r4 r4j 1)) (C := RX1) (T := TX1) (N := 8) hx hb hts in_X4_holdFor_1 hown hK (ks_P1 hW hv5 (ks_c11 cy ad o r4 r4j _)) 0 rfl rfl 1 (by decide) (hts (.fieldLink RX4 220 "SpinKernel$Request" "lock" "I") (by decide +kernel)) (fun _ h => h) rfl dX4_holdFor_28 ?_
    obtain ⟨⟨⟨r8, r8j⟩, s7⟩, hc6, hf⟩ := ks_bind hf
    try dsimp only at hf
    refine ks_callr (va_runV (As := [.int (s3 11 r4 r4j 1)]) (rest := []) ⟨hx, hb, hml, hown, hts⟩ (m_X4_rowOf l D cy ad En n0 hG hE o hc6) (cwV 1 hts gX4_holdFor_X4_rowOf rfl rfl rfl (by decide +kernel) ⟨(Nat.le_of_ble_eq_true rfl), (Nat.le_of_ble_eq_true rfl)⟩) ⟨ks_U.blind, ks_recv hK hW (ks_v0 (i := 0) (j := 0) (hE 0 rfl)) (ks_c0 cy ad o 0 0 _) rfl, fun U hU hWm => ⟨rfl, hU0.now hS hW hWm.alike hU⟩⟩ rfl rfl hl.1 rfl (lv_room (Nat.le_of_ble_eq_true rfl)) dX4_holdFor_31 ⟨(Nat.le_of_ble_eq_true rfl), (Nat.le_of_ble_eq_true rfl)⟩) hS (fun H locs hv9 hW hS => ?_)
    obtain rfl : r8j = 0 := ks_j0 hv9 rfl
    obtain ⟨s11, hc10, hf⟩ := ks_bind hf
    try dsimp only at hf
    refine ks_callv (va_runV (As := []) (rest := []) ⟨hx, hb, hml, hown, hts⟩ (m_X2_dropFirst l D cy ad En n0 hG hE o hv9 hc10) (cwV 0 hts gX4_holdFor_X2_dropFirst rfl rfl rfl (by decide +kernel) ⟨(Nat.le_of_ble_eq_true rfl), (Nat.le_of_ble_eq_true rfl)⟩) ⟨ks_U.blind, ks_recv hK hW hv9 (ks_c12 cy ad o r8 0 _) rfl, fun U hU hWm => ⟨rfl, hU0.now hS hW hWm.alike hU⟩⟩ rfl rfl hl.1 rfl (lv_room (Nat.le_of_ble_eq_true rfl)) dX4_holdFor_34 ⟨(Nat.le_of_ble_eq_true rfl), (Nat.le_of_ble_eq_true rfl)⟩) hS (fun H locs hW hS => ?_)
    refine lv_aload_n hx hb dX4_holdFor_37 rfl (lv_at hl 1 rfl) ?_
    obtain ⟨s14, hc13, hf⟩ := ks_bind hf
    try dsimp only at hf
    refine ks_callv (va_runV (As := []) (rest := []) ⟨hx, hb, hml, hown, hts⟩ (m_X3_leaveSection l D cy ad En n0 hG hE o v1 hc13) (cwV 0 hts gX4_holdFor_X3_leaveSection rfl rfl rfl (by decide +kernel) ⟨(Nat.le_of_ble_eq_true rfl), (Nat.le_of_ble_eq_true rfl)⟩) ⟨ks_U.blind, ks_recv hK hW v1 (ks_c8 cy ad o a1 0 _) rfl, fun U hU hWm => ⟨rfl, hU0.now hS hW hWm.alike hU⟩⟩ rfl rfl hl.1 rfl (lv_room (Nat.le_of_ble_eq_true rfl)) dX4_holdFor_38 ⟨(Nat.le_of_ble_eq_true rfl), (Nat.le_of_ble_eq_true rfl)⟩) hS (fun H locs hW hS => ?_)
    exact ks_vret C hf hW hS dX4_holdFor_41
set_option maxHeartbeats 4000000 in
set_option maxRecDepth 100000 in
theorem m_X4_holdFor (l : Launch) (D : va_G) (cy : Nat → ClassId) (ad : ks_A) (En : Nat → Prop) (n0 : Nat → Prop) (hG : ks_G ad En n0) (hE : ∀ k, ks_g k = 0 → En k) (o : Int64) {N : Nat} {σ : ks_S} {a1 : Nat} {x2 : Int32} (v1 : ks_v En 8 a1 0) {out : ks_S} (hf : f_X4_holdFor N σ a1 x2 = some out) : Met l yX4_holdFor wsX4_holdFor (ks_Rm 3 0 0 62) (va_Pc [.ref (ad 0 0 0), .ref (ad 8 a1 0), .int x2] (ks_U D cy ad En n0 σ o)) (ks_Qv D cy ad En n0 o out) 0 0 (ks_F n0) := by
  refine Met.ofW (cc := cX4_holdFor) (maxL := 3) (ret := none) (by decide) rfl ?_
  intro p e s m args below meth c s₁ B hml hv
  obtain ⟨rfl, hU⟩ := hv
  have hl := lv_entry ([.ref (ad 0 0 0), .ref (ad 8 a1 0), .int x2]) (n := 3) (Nat.le_of_ble_eq_true rfl)
  rw [lg_entry_eq]
  generalize (lg_sl ([.ref (ad 0 0 0), .ref (ad 8 a1 0), .int x2]) ++ List.replicate (3 - (lg_sl ([.ref (ad 0 0 0), .ref (ad 8 a1 0), .int x2])).length) Slot.unset).toArray = ls at hl ⊢
  exact t_X4_holdFor ⟨B.exec, B.bytes, hml, B.returns, findClass_of_methodNamed B.named, atoms_spec (ws := wsX4_holdFor) B.pre, B.notSynchronized, hG, hU, hE⟩ v1 hf hU.2.1 va_S.rf hl

/-! SpinKernel.workOnJob(LSpinKernel$Task;I)Z -/
def f_X4_workOnJob (N : Nat) (σ : ks_S) (a1 : Nat) (x2 : Int32) : Option (Int32 × ks_S) :=
  (if ((σ 9 a1 0 3)) = 2 then ((f_X3_spinFor σ a1 x2).bind fun s21 => some (0, s21)) else (if ((σ 9 a1 0 3)) = 1 then ((f_X3_isAllDone ((ks_up σ 9 a1 0 4 ((((σ 9 a1 0 4)) + x2)))) a1).bind fun (r15, s14) => (if r15 = 0 then some (0, s14) else ((f_X3_endJob s14 a1 ((s14 0 0 0 7))).bind fun s18 => some (1, s18)))) else ((f_X4_holdFor N σ a1 x2).bind fun s4 => ((f_X3_isAllDone s4 a1).bind fun (r8, s7) => (if r8 = 0 then some (0, s7) else ((f_X3_endJob s7 a1 ((s7 0 0 0 7))).bind fun s11 => some (1, s11)))))))
theorem in_X4_workOnJob_0 : ∀ w ∈ wsX00, w ∈ wsX4_workOnJob := by decide +kernel
theorem in_X4_workOnJob_3 : ∀ w ∈ wsX30, w ∈ wsX4_workOnJob := by decide +kernel
theorem in_X4_workOnJob_4 : ∀ w ∈ wsX40, w ∈ wsX4_workOnJob := by decide +kernel
set_option maxHeartbeats 4000000 in
set_option maxRecDepth 100000 in
theorem t_X4_workOnJob {p : Program} {l : Launch} {e : Env} {s : State} {m : MethodId} {args : Array Value} {below : List Frame} {meth : Method} {c : Code} {D : va_G} {cy : Nat → ClassId} {ad : ks_A} {En : Nat → Prop} {n0 : Nat → Prop} {σ0 : ks_S} {o : Int64} {N : Nat} {out : (Int32 × ks_S)} (C : ks_M p s m args meth c D cy ad En (fun k => ks_g k = 0) n0 σ0 o wsX4_workOnJob cX4_workOnJob RX4 3 (some .boolean)) {σ : ks_S} {a1 : Nat} {x2 : Int32} (v1 : ks_v En 8 a1 0) (hf : f_X4_workOnJob N σ a1 x2 = some out) {H : Heap} {locs : List Loc} {ls : Array Slot} (hW : ks_W D cy ad En σ o H) (hS : va_S (ks_F n0) s.heap H locs) (hl : lv_has ls 3 [(0, .ref (ad 0 0 0)), (1, .ref (ad 8 a1 0)), (2, .int x2)]) : W p l e (ks_Rm 4 0 0 84) s m args below meth c H locs 0 0 (MQ below (ks_Qi D cy ad En n0 o out) args s 0 0 (ks_F n0)) (F0 m 0 ls []) := by
  obtain ⟨hx, hb, hml, hr, hown, hts, hlocks, hG, hU0, hE⟩ := id C
  have hK := hU0.2.2
  unfold f_X4_workOnJob at hf
  refine lv_aload_n hx hb dX4_workOnJob_0 rfl (lv_at hl 1 rfl) ?_
  refine va_get (D := D) (ci := 3) (v := .ref (ad 9 a1 0)) (C := RX3) (T := TX3) (N := 10) hx hb hts in_X4_workOnJob_3 hown hK (ks_P1 hW v1 (ks_c8 cy ad o a1 0 _)) 0 rfl rfl 9 (by decide) (hts (.fieldLink RX4 119 "SpinKernel$Task" "job" "LSpinKernel$Job;") (by decide +kernel)) (fun _ h => h) rfl dX4_workOnJob_1 ?_
  refine va_get (D := D) (ci := 0) (v := .int (σ 9 a1 0 3)) (C := RX0) (T := TX0) (N := 12) hx hb hts in_X4_workOnJob_0 hown hK (ks_P1 hW (ks_v9 (j := 0) v1.2.1 (hE 9 rfl)) (ks_c9 cy ad o a1 0 _)) 0 rfl rfl 3 (by decide) (hts (.fieldLink RX4 258 "SpinKernel$Job" "state" "I") (by decide +kernel)) (fun _ h => h) rfl dX4_workOnJob_4 ?_
  refine lv_iconst (v := 2) hx hb dX4_workOnJob_7 (by decide) ?_
  refine lv_icmp_ne (tgt := 18) hx hb dX4_workOnJob_8 (by decide) (fun c1 => ?_) (fun c1 => ?_)
  · rw [if_neg c1] at hf
    refine lv_aload_n hx hb dX4_workOnJob_18 rfl (lv_at hl 1 rfl) ?_
    refine va_get (D := D) (ci := 3) (v := .ref (ad 9 a1 0)) (C := RX3) (T := TX3) (N := 10) hx hb hts in_X4_workOnJob_3 hown hK (ks_P1 hW v1 (ks_c8 cy ad o a1 0 _)) 0 rfl rfl 9 (by decide) (hts (.fieldLink RX4 119 "SpinKernel$Task" "job" "LSpinKernel$Job;") (by decide +kernel)) (fun _ h => h) rfl dX4_workOnJob_19 ?_
    refine va_get (D := D) (ci := 0) (v := .int (σ 9 a1 0 3)) (C := RX0) (T := TX0) (N := 12) hx hb hts in_X4_workOnJob_0 hown hK (ks_P1 hW (ks_v9 (j := 0) v1.2.1 (hE 9 rfl)) (ks_c9 cy ad o a1 0 _)) 0 rfl rfl 3 (by decide) (hts (.fieldLink RX4 258 "SpinKernel$Job" "state" "I") (by decide +kernel)) (fun _ h => h) rfl dX4_workOnJob_22 ?_
    refine lv_iconst (v := 1) hx hb dX4_workOnJob_25 (by decide) ?_
    refine lv_icmp_ne (tgt := 45) hx hb dX4_workOnJob_26 (by decide) (fun c2 => ?_) (fun c2 => ?_)
    · rw [if_neg c2] at hf
      refine lv_aload_n hx hb dX4_workOnJob_45 rfl (lv_at hl 0 rfl) ?_
      refine lv_aload_n hx hb dX4_workOnJob_46 rfl (lv_at hl 1 rfl) ?_
      refine lv_iload_n hx hb dX4_workOnJob_47 rfl (lv_at hl 2 rfl) ?_
      obtain ⟨s4, hc3, hf⟩ := ks_bind hf
      try dsimp only at hf
      refine ks_callv (va_runV (As := [.ref (ad 8 a1 0), .int x2]) (rest := []) ⟨hx, hb, hml, hown, hts⟩ (m_X4_holdFor l D cy ad En n0 hG hE o v1 hc3) (cwV 2 hts gX4_workOnJob_X4_holdFor rfl rfl rfl (by decide +kernel) ⟨(Nat.le_of_ble_eq_true rfl), (Nat.le_of_ble_eq_true rfl)⟩) ⟨ks_U.blind, ks_recv hK hW (ks_v0 (i := 0) (j := 0) (hE 0 rfl)) (ks_c0 cy ad o 0 0 _) rfl, fun U hU hWm => ⟨rfl, hU0.now hS hW hWm.alike hU⟩⟩ rfl rfl hl.1 rfl (lv_room (Nat.le_of_ble_eq_true rfl)) dX4_workOnJob_48 ⟨(Nat.le_of_ble_eq_true rfl), (Nat.le_of_ble_eq_true rfl)⟩) hS (fun H locs hW hS => ?_)
      refine lv_aload_n hx hb dX4_workOnJob_51 rfl (lv_at hl 1 rfl) ?_
      obtain ⟨⟨r8, s7⟩, hc6, hf⟩ := ks_bind hf
      try dsimp only at hf
      refine ks_calli (va_runV (As := []) (rest := []) ⟨hx, hb, hml, hown, hts⟩ (m_X3_isAllDone l D cy ad En n0 hG hE o v1 hc6) (cwV 0 hts gX4_workOnJob_X3_isAllDone rfl rfl rfl (by decide +kernel) ⟨(Nat.le_of_ble_eq_true rfl), (Nat.le_of_ble_eq_true rfl)⟩) ⟨ks_U.blind, ks_recv hK hW v1 (ks_c8 cy ad o a1 0 _) rfl, fun U hU hWm => ⟨rfl, hU0.now hS hW hWm.alike hU⟩⟩ rfl rfl hl.1 rfl (lv_room (Nat.le_of_ble_eq_true rfl)) dX4_workOnJob_52 ⟨(Nat.le_of_ble_eq_true rfl), (Nat.le_of_ble_eq_true rfl)⟩) hS (fun H locs hW hS => ?_)
      refine lv_if_ne (tgt := 60) hx hb dX4_workOnJob_55 (by decide) (fun c9 => ?_) (fun c9 => ?_)
      · rw [if_neg c9] at hf
        refine lv_aload_n hx hb dX4_workOnJob_60 rfl (lv_at hl 1 rfl) ?_
        refine lv_aload_n hx hb dX4_workOnJob_61 rfl (lv_at hl 0 rfl) ?_
        refine va_get (D := D) (ci := 4) (v := .int (s7 0 0 0 7)) (C := RX4) (T := TX4) (N := 8) hx hb hts in_X4_workOnJob_4 hown hK (ks_P1 hW (ks_v0 (i := 0) (j := 0) (hE 0 rfl)) (ks_c0 cy ad o 0 0 _)) 0 rfl rfl 7 (by decide) (hts (.fieldLink RX4 113 "SpinKernel" "now" "I") (by decide +kernel)) (fun _ h => h) rfl dX4_workOnJob_62 ?_
        obtain ⟨s11, hc10, hf⟩ := ks_bind hf
        try dsimp only at hf
        refine ks_callv (va_runV (As := [.int (s7 0 0 0 7)]) (rest := []) ⟨hx, hb, hml, hown, hts⟩ (m_X3_endJob l D cy ad En n0 hG hE o v1 hc10) (cwV 1 hts gX4_workOnJob_X3_endJob rfl rfl rfl (by decide +kernel) ⟨(Nat.le_of_ble_eq_true rfl), (Nat.le_of_ble_eq_true rfl)⟩) ⟨ks_U.blind, ks_recv hK hW v1 (ks_c8 cy ad o a1 0 _) rfl, fun U hU hWm => ⟨rfl, hU0.now hS hW hWm.alike hU⟩⟩ rfl rfl hl.1 rfl (lv_room (Nat.le_of_ble_eq_true rfl)) dX4_workOnJob_65 ⟨(Nat.le_of_ble_eq_true rfl), (Nat.le_of_ble_eq_true rfl)⟩) hS (fun H locs hW hS => ?_)
        refine lv_iconst (v := 1) hx hb dX4_workOnJob_68 (by decide) ?_
        exact ks_zret C rfl hf hW hS dX4_workOnJob_69
      · rw [if_pos c9] at hf
        refine lv_iconst (v := 0) hx hb dX4_workOnJob_58 (by decide) ?_
        exact ks_zret C rfl hf hW hS dX4_workOnJob_59
    · rw [if_pos c2] at hf
      refine lv_aload_n hx hb dX4_workOnJob_29 rfl (lv_at hl 1 rfl) ?_
      refine va_get (D := D) (ci := 3) (v := .ref (ad 9 a1 0)) (C := RX3) (T := TX3) (N := 10) hx hb hts in_X4_workOnJob_3 hown hK (ks_P1 hW v1 (ks_c8 cy ad o a1 0 _)) 0 rfl rfl 9 (by decide) (hts (.fieldLink RX4 119 "SpinKernel$Task" "job" "LSpinKernel$Job;") (by decide +kernel)) (fun _ h => h) rfl dX4_workOnJob_30 ?_
      refine lv_dup hx hb dX4_workOnJob_33 rfl ?_
      refine va_get (D := D) (ci := 0) (v := .int (σ 9 a1 0 4)) (C := RX0) (T := TX0) (N := 12) hx hb hts in_X4_workOnJob_0 hown hK (ks_P1 hW (ks_v9 (j := 0) v1.2.1 (hE 9 rfl)) (ks_c9 cy ad o a1 0 _)) 0 rfl rfl 4 (by decide) (hts (.fieldLink RX4 287 "SpinKernel$Job" "workDone" "I") (by decide +kernel)) (fun _ h => h) rfl dX4_workOnJob_34 ?_
      refine lv_iload_n hx hb dX4_workOnJob_37 rfl (lv_at hl 2 rfl) ?_
      refine lv_iadd hx hb dX4_workOnJob_38 ?_
      refine ks_put (D := D) (ci := 0) (C := RX0) (T := TX0) (N := 12) hx hb hts in_X4_workOnJob_0 tyX0 tyX0_ok nmX0 hown hK hG hW hS (ks_v9 (j := 0) v1.2.1 (hE 9 rfl)) 4 (v := (((σ 9 a1 0 4)) + x2)) (ks_c9 cy ad o a1 0 _) (ks_c9s4 cy ad o a1 0 _ _) rfl (by decide) (hts (.fieldLink RX4 287 "SpinKernel$Job" "workDone" "I") (by decide +kernel)) rfl (ty := .int) (by decide +kernel) rfl rfl (Nat.le_of_ble_eq_true rfl) dX4_workOnJob_39 (fun H locs hW hS => ?_)
      refine lv_goto (tgt := 51) hx hb dX4_workOnJob_42 (by decide) ?_
      refine lv_aload_n hx hb dX4_workOnJob_51 rfl (lv_at hl 1 rfl) ?_
      obtain ⟨⟨r15, s14⟩, hc13, hf⟩ := ks_bind hf
      try dsimp only at hf
      refine ks_calli (va_runV (As := []) (rest := []) ⟨hx, hb, hml, hown, hts⟩ (m_X3_isAllDone l D cy ad En n0 hG hE o v1 hc13) (cwV 0 hts gX4_workOnJob_X3_isAllDone rfl rfl rfl (by decide +kernel) ⟨(Nat.le_of_ble_eq_true rfl), (Nat.le_of_ble_eq_true rfl)⟩) ⟨ks_U.blind, ks_recv hK hW v1 (ks_c8 cy ad o a1 0 _) rfl, fun U hU hWm => ⟨rfl, hU0.now hS hW hWm.alike hU⟩⟩ rfl rfl hl.1 rfl (lv_room (Nat.le_of_ble_eq_true rfl)) dX4_workOnJob_52 ⟨(Nat.le_of_ble_eq_true rfl), (Nat.le_of_ble_eq_true rfl)⟩) hS (fun H locs hW hS => ?_)
      refine lv_if_ne (tgt := 60) hx hb dX4_workOnJob_55 (by decide) (fun c16 => ?_) (fun c16 => ?_)
      · rw [if_neg c16] at hf
        refine lv_aload_n hx hb dX4_workOnJob_60 rfl (lv_at hl 1 rfl) ?_
        refine lv_aload_n hx hb dX4_workOnJob_61 rfl (lv_at hl 0 rfl) ?_
        refine va_get (D := D) (ci := 4) (v := .int (s14 0 0 0 7)) (C := RX4) (T := TX4) (N := 8) hx hb hts in_X4_workOnJob_4 hown hK (ks_P1 hW (ks_v0 (i := 0) (j := 0) (hE 0 rfl)) (ks_c0 cy ad o 0 0 _)) 0 rfl rfl 7 (by decide) (hts (.fieldLink RX4 113 "SpinKernel" "now" "I") (by decide +kernel)) (fun _ h => h) rfl dX4_workOnJob_62 ?_
        obtain ⟨s18, hc17, hf⟩ := ks_bind hf
        try dsimp only at hf
        refine ks_callv (va_runV (As := [.int (s14 0 0 0 7)]) (rest := []) ⟨hx, hb, hml, hown, hts⟩ (m_X3_endJob l D cy ad En n0 hG hE o v1 hc17) (cwV 1 hts gX4_workOnJob_X3_endJob rfl rfl rfl (by decide +kernel) ⟨(Nat.le_of_ble_eq_true rfl), (Nat.le_of_ble_eq_true rfl)⟩) ⟨ks_U.blind, ks_recv hK hW v1 (ks_c8 cy ad o a1 0 _) rfl, fun U hU hWm => ⟨rfl, hU0.now hS hW hWm.alike hU⟩⟩ rfl rfl hl.1 rfl (lv_room (Nat.le_of_ble_eq_true rfl)) dX4_workOnJob_65 ⟨(Nat.le_of_ble_eq_true rfl), (Nat.le_of_ble_eq_true rfl)⟩) hS (fun H locs hW hS => ?_)
        refine lv_iconst (v := 1) hx hb dX4_workOnJob_68 (by decide) ?_
        exact ks_zret C rfl hf hW hS dX4_workOnJob_69
      · rw [if_pos c16] at hf
        refine lv_iconst (v := 0) hx hb dX4_workOnJob_58 (by decide) ?_
        exact ks_zret C rfl hf hW hS dX4_workOnJob_59
  · rw [if_pos c1] at hf
    refine lv_aload_n hx hb dX4_workOnJob_11 rfl (lv_at hl 1 rfl) ?_
    refine lv_iload_n hx hb dX4_workOnJob_12 rfl (lv_at hl 2 rfl) ?_
    obtain ⟨s21, hc20, hf⟩ := ks_bind hf
    try dsimp only at hf
    refine ks_callv (va_runV (As := [.int x2]) (rest := []) ⟨hx, hb, hml, hown, hts⟩ (m_X3_spinFor l D cy ad En n0 hG hE o v1 hc20) (cwV 1 hts gX4_workOnJob_X3_spinFor rfl rfl rfl (by decide +kernel) ⟨(Nat.le_of_ble_eq_true rfl), (Nat.le_of_ble_eq_true rfl)⟩) ⟨ks_U.blind, ks_recv hK hW v1 (ks_c8 cy ad o a1 0 _) rfl, fun U hU hWm => ⟨rfl, hU0.now hS hW hWm.alike hU⟩⟩ rfl rfl hl.1 rfl (lv_room (Nat.le_of_ble_eq_true rfl)) dX4_workOnJob_13 ⟨(Nat.le_of_ble_eq_true rfl), (Nat.le_of_ble_eq_true rfl)⟩) hS (fun H locs hW hS => ?_)
    refine lv_iconst (v := 0) hx hb dX4_workOnJob_16 (by decide) ?_
    exact ks_zret C rfl hf hW hS dX4_workOnJob_17
set_option maxHeartbeats 4000000 in
set_option maxRecDepth 100000 in
theorem m_X4_workOnJob (l : Launch) (D : va_G) (cy : Nat → ClassId) (ad : ks_A) (En : Nat → Prop) (n0 : Nat → Prop) (hG : ks_G ad En n0) (hE : ∀ k, ks_g k = 0 → En k) (o : Int64) {N : Nat} {σ : ks_S} {a1 : Nat} {x2 : Int32} (v1 : ks_v En 8 a1 0) {out : (Int32 × ks_S)} (hf : f_X4_workOnJob N σ a1 x2 = some out) : Met l yX4_workOnJob wsX4_workOnJob (ks_Rm 4 0 0 84) (va_Pc [.ref (ad 0 0 0), .ref (ad 8 a1 0), .int x2] (ks_U D cy ad En n0 σ o)) (ks_Qi D cy ad En n0 o out) 0 0 (ks_F n0) := by
  refine Met.ofW (cc := cX4_workOnJob) (maxL := 3) (ret := some .boolean) (by decide) rfl ?_
  intro p e s m args below meth c s₁ B hml hv
  obtain ⟨rfl, hU⟩ := hv
  have hl := lv_entry ([.ref (ad 0 0 0), .ref (ad 8 a1 0), .int x2]) (n := 3) (Nat.le_of_ble_eq_true rfl)
  rw [lg_entry_eq]
  generalize (lg_sl ([.ref (ad 0 0 0), .ref (ad 8 a1 0), .int x2]) ++ List.replicate (3 - (lg_sl ([.ref (ad 0 0 0), .ref (ad 8 a1 0), .int x2])).length) Slot.unset).toArray = ls at hl ⊢
  exact t_X4_workOnJob ⟨B.exec, B.bytes, hml, B.returns, findClass_of_methodNamed B.named, atoms_spec (ws := wsX4_workOnJob) B.pre, B.notSynchronized, hG, hU, hE⟩ v1 hf hU.2.1 va_S.rf hl

/-! SpinKernel.workOn(I)I -/
def f_X4_workOn_45 (N : Nat) (k4 : ks_S → Int32 → Int32 → Int32 → Option (Int32 × ks_S)) (σ : ks_S) (x1 : Int32) (x2 : Int32) (x3 : Int32) (x4 : Int32) (xs0 : Int32) (xs1 : Int32) : Option (Int32 × ks_S) :=
  (if ks_in xs1 4 = true then (if x4 = ((-1)) then k4 ((ks_up σ 7 0 0 xs1.toNatClampNeg xs0)) x1 x2 ((x3 + 1)) else (if ks_in x4 16 = true then ((f_X4_workOnJob N ((ks_up σ 7 0 0 xs1.toNatClampNeg xs0)) ((x4.toNatClampNeg)) x1).bind fun (r10, s9) => (if r10 = 0 then k4 s9 x1 x2 ((x3 + 1)) else k4 s9 x1 ((x2 + 1)) ((x3 + 1)))) else none)) else none)
def f_X4_workOn_4 (N : Nat) : Nat → ks_S → Int32 → Int32 → Int32 → Option (Int32 × ks_S)
  | 0, _, _, _, _ => none
  | n + 1, σ, x1, x2, x3 => (if 4 ≤ x3 then some (x2, σ) else (if ks_in x3 4 = true then (if ((σ 6 0 0 x3.toNatClampNeg)) = ((-1)) then f_X4_workOn_45 N (f_X4_workOn_4 N n) σ x1 x2 x3 ((σ 6 0 0 x3.toNatClampNeg)) 0 x3 else (if ks_in ((σ 6 0 0 x3.toNatClampNeg)) 16 = true then f_X4_workOn_45 N (f_X4_workOn_4 N n) σ x1 x2 x3 ((σ 6 0 0 x3.toNatClampNeg)) ((σ 9 ((((σ 6 0 0 x3.toNatClampNeg)).toNatClampNeg)) 0 3)) x3 else none)) else none))
def f_X4_workOn (N : Nat) (σ : ks_S) (x1 : Int32) : Option (Int32 × ks_S) :=
  f_X4_workOn_4 N N σ x1 0 0
theorem in_X4_workOn_0 : ∀ w ∈ wsX00, w ∈ wsX4_workOn := by decide +kernel
theorem in_X4_workOn_3 : ∀ w ∈ wsX30, w ∈ wsX4_workOn := by decide +kernel
theorem in_X4_workOn_4 : ∀ w ∈ wsX40, w ∈ wsX4_workOn := by decide +kernel
set_option maxHeartbeats 4000000 in
set_option maxRecDepth 100000 in
theorem t_X4_workOn_45 {p : Program} {l : Launch} {e : Env} {s : State} {m : MethodId} {args : Array Value} {below : List Frame} {meth : Method} {c : Code} {D : va_G} {cy : Nat → ClassId} {ad : ks_A} {En : Nat → Prop} {n0 : Nat → Prop} {σ0 : ks_S} {o : Int64} {N : Nat} {out : (Int32 × ks_S)} (C : ks_M p s m args meth c D cy ad En (fun k => ks_g k = 0) n0 σ0 o wsX4_workOn cX4_workOn RX4 5 (some .int)) {k4 : ks_S → Int32 → Int32 → Int32 → Option (Int32 × ks_S)} (hk4 : ∀ (σ : ks_S) (x1 : Int32) (x2 : Int32) (x3 : Int32), k4 σ x1 x2 x3 = some out → ∀ {H : Heap} {locs : List Loc} {ls : Array Slot}, ks_W D cy ad En σ o H → va_S (ks_F n0) s.heap H locs → lv_has ls 5 [(0, .ref (ad 0 0 0)), (1, .int x1), (2, .int x2), (3, .int x3)] → W p l e (ks_Rm 5 0 0 106) s m args below meth c H locs 0 0 (MQ below (ks_Qi D cy ad En n0 o out) args s 0 0 (ks_F n0)) (F0 m 4 ls [])) {σ : ks_S} {x1 : Int32} {x2 : Int32} {x3 : Int32} {x4 : Int32} {xs0 : Int32} {xs1 : Int32}  (hf : f_X4_workOn_45 N k4 σ x1 x2 x3 x4 xs0 xs1 = some out) {H : Heap} {locs : List Loc} {ls : Array Slot} (hW : ks_W D cy ad En σ o H) (hS : va_S (ks_F n0) s.heap H locs) (hl : lv_has ls 5 [(0, .ref (ad 0 0 0)), (1, .int x1), (2, .int x2), (3, .int x3), (4, .int x4)]) : W p l e (ks_Rm 5 0 0 106) s m args below meth c H locs 0 0 (MQ below (ks_Qi D cy ad En n0 o out) args s 0 0 (ks_F n0)) (F0 m 45 ls [.int xs0, .int xs1, .ref (ad 7 0 0)]) := by
  obtain ⟨hx, hb, hml, hr, hown, hts, hlocks, hG, hU0, hE⟩ := id C
  have hK := hU0.2.2
  unfold f_X4_workOn_45 at hf
  obtain ⟨hi5, hf⟩ := ks_guard hf
  refine ks_iast hx hb hK hG hW hS (ks_v7 (i := 0) (j := 0) (hE 7 rfl)) (fun c => ks_c7 cy ad o 0 0 c) hi5 dX4_workOn_45 (fun H locs hW hS => ?_)
  refine lv_iload hx hb dX4_workOn_46 (lv_at hl 4 rfl) ?_
  refine lv_iconst (v := (-1)) hx hb dX4_workOn_48 (by decide) ?_
  refine lv_icmp_eq (tgt := 70) hx hb dX4_workOn_49 (by decide) (fun c6 => ?_) (fun c6 => ?_)
  · rw [if_pos c6] at hf
    refine lv_iinc (v := (x3 + 1)) (lv' := [(3, .int (x3 + 1)), (0, .ref (ad 0 0 0)), (1, .int x1), (2, .int x2), (4, .int x4)]) hx hb dX4_workOn_70 hl (k := 3) rfl rfl (by decide) rfl (fun ls hl => ?_)
    refine lv_goto (tgt := 4) hx hb dX4_workOn_73 (by decide) ?_
    exact hk4 _ _ _ _ hf hW hS (lv_sub hl [1, 2, 3, 0] rfl)
  · rw [if_neg c6] at hf
    refine lv_aload_n hx hb dX4_workOn_52 rfl (lv_at hl 0 rfl) ?_
    refine lv_aload_n hx hb dX4_workOn_53 rfl (lv_at hl 0 rfl) ?_
    refine va_get (D := D) (ci := 4) (v := .ref (ad 1 0 0)) (C := RX4) (T := TX4) (N := 8) hx hb hts in_X4_workOn_4 hown hK (ks_P1 hW (ks_v0 (i := 0) (j := 0) (hE 0 rfl)) (ks_c0 cy ad o 0 0 _)) 0 rfl rfl 0 (by decide) (hts (.fieldLink RX4 11 "SpinKernel" "tasks" "[LSpinKernel$Task;") (by decide +kernel)) (fun _ h => h) rfl dX4_workOn_54 ?_
    refine lv_iload hx hb dX4_workOn_57 (lv_at hl 4 rfl) ?_
    obtain ⟨hi7, hf⟩ := ks_guard hf
    refine ks_aald hx hb hK hW (ks_v1 (i := 0) (j := 0) (hE 1 rfl)) 3 (ks_c1 cy ad o 0 0 _) rfl rfl hi7 dX4_workOn_59 ?_
    refine lv_iload_n hx hb dX4_workOn_60 rfl (lv_at hl 1 rfl) ?_
    obtain ⟨⟨r10, s9⟩, hc8, hf⟩ := ks_bind hf
    try dsimp only at hf
    refine ks_calli (va_runV (As := [.ref (ad 8 (x4.toNatClampNeg) 0), .int x1]) (rest := []) ⟨hx, hb, hml, hown, hts⟩ (m_X4_workOnJob l D cy ad En n0 hG hE o (ks_v8 (j := 0) (ks_in_lt hi7) (hE 8 rfl)) hc8) (cwV 2 hts gX4_workOn_X4_workOnJob rfl rfl rfl (by decide +kernel) ⟨(Nat.le_of_ble_eq_true rfl), (Nat.le_of_ble_eq_true rfl)⟩) ⟨ks_U.blind, ks_recv hK hW (ks_v0 (i := 0) (j := 0) (hE 0 rfl)) (ks_c0 cy ad o 0 0 _) rfl, fun U hU hWm => ⟨rfl, hU0.now hS hW hWm.alike hU⟩⟩ rfl rfl hl.1 rfl (lv_room (Nat.le_of_ble_eq_true rfl)) dX4_workOn_61 ⟨(Nat.le_of_ble_eq_true rfl), (Nat.le_of_ble_eq_true rfl)⟩) hS (fun H locs hW hS => ?_)
    refine lv_if_eq (tgt := 70) hx hb dX4_workOn_64 (by decide) (fun c11 => ?_) (fun c11 => ?_)
    · rw [if_pos c11] at hf
      refine lv_iinc (v := (x3 + 1)) (lv' := [(3, .int (x3 + 1)), (0, .ref (ad 0 0 0)), (1, .int x1), (2, .int x2), (4, .int x4)]) hx hb dX4_workOn_70 hl (k := 3) rfl rfl (by decide) rfl (fun ls hl => ?_)
      refine lv_goto (tgt := 4) hx hb dX4_workOn_73 (by decide) ?_
      exact hk4 _ _ _ _ hf hW hS (lv_sub hl [1, 2, 3, 0] rfl)
    · rw [if_neg c11] at hf
      refine lv_iinc (v := (x2 + 1)) (lv' := [(2, .int (x2 + 1)), (0, .ref (ad 0 0 0)), (1, .int x1), (3, .int x3), (4, .int x4)]) hx hb dX4_workOn_67 hl (k := 2) rfl rfl (by decide) rfl (fun ls hl => ?_)
      refine lv_iinc (v := (x3 + 1)) (lv' := [(3, .int (x3 + 1)), (2, .int (x2 + 1)), (0, .ref (ad 0 0 0)), (1, .int x1), (4, .int x4)]) hx hb dX4_workOn_70 hl (k := 3) rfl rfl (by decide) rfl (fun ls hl => ?_)
      refine lv_goto (tgt := 4) hx hb dX4_workOn_73 (by decide) ?_
      exact hk4 _ _ _ _ hf hW hS (lv_sub hl [2, 3, 1, 0] rfl)
set_option maxHeartbeats 4000000 in
set_option maxRecDepth 100000 in
theorem t_X4_workOn_4 {p : Program} {l : Launch} {e : Env} {s : State} {m : MethodId} {args : Array Value} {below : List Frame} {meth : Method} {c : Code} {D : va_G} {cy : Nat → ClassId} {ad : ks_A} {En : Nat → Prop} {n0 : Nat → Prop} {σ0 : ks_S} {o : Int64} {N : Nat} {out : (Int32 × ks_S)} (C : ks_M p s m args meth c D cy ad En (fun k => ks_g k = 0) n0 σ0 o wsX4_workOn cX4_workOn RX4 5 (some .int)) : ∀ (n : Nat) (σ : ks_S) (x1 : Int32) (x2 : Int32) (x3 : Int32), f_X4_workOn_4 N n σ x1 x2 x3 = some out → ∀ {H : Heap} {locs : List Loc} {ls : Array Slot}, ks_W D cy ad En σ o H → va_S (ks_F n0) s.heap H locs → lv_has ls 5 [(0, .ref (ad 0 0 0)), (1, .int x1), (2, .int x2), (3, .int x3)] → W p l e (ks_Rm 5 0 0 106) s m args below meth c H locs 0 0 (MQ below (ks_Qi D cy ad En n0 o out) args s 0 0 (ks_F n0)) (F0 m 4 ls []) := by
  obtain ⟨hx, hb, hml, hr, hown, hts, hlocks, hG, hU0, hE⟩ := id C
  have hK := hU0.2.2
  intro n
  induction n with
  | zero => intro σ x1 x2 x3; intro  hf; exact absurd hf (by simp [f_X4_workOn_4])
  | succ n hk4 =>
    intro σ x1 x2 x3  hf H locs ls hW hS hl
    rw [f_X4_workOn_4] at hf
    refine lv_iload_n hx hb dX4_workOn_4 rfl (lv_at hl 3 rfl) ?_
    refine lv_iconst (v := 4) hx hb dX4_workOn_5 (by decide) ?_
    refine lv_icmp_ge (tgt := 76) hx hb dX4_workOn_6 (by decide) (fun c1 => ?_) (fun c1 => ?_)
    · rw [if_pos c1] at hf
      refine lv_iload_n hx hb dX4_workOn_76 rfl (lv_at hl 2 rfl) ?_
      exact ks_iret C hf hW hS dX4_workOn_77
    · rw [if_neg c1] at hf
      refine lv_aload_n hx hb dX4_workOn_9 rfl (lv_at hl 0 rfl) ?_
      refine va_get (D := D) (ci := 4) (v := .ref (ad 6 0 0)) (C := RX4) (T := TX4) (N := 8) hx hb hts in_X4_workOn_4 hown hK (ks_P1 hW (ks_v0 (i := 0) (j := 0) (hE 0 rfl)) (ks_c0 cy ad o 0 0 _)) 0 rfl rfl 4 (by decide) (hts (.fieldLink RX4 30 "SpinKernel" "taskOfCore" "[I") (by decide +kernel)) (fun _ h => h) rfl dX4_workOn_10 ?_
      refine lv_iload_n hx hb dX4_workOn_13 rfl (lv_at hl 3 rfl) ?_
      obtain ⟨hi2, hf⟩ := ks_guard hf
      refine ks_iald hx hb hK hW (ks_v6 (i := 0) (j := 0) (hE 6 rfl)) (ks_c6 cy ad o 0 0 _) hi2 dX4_workOn_14 ?_
      refine lv_istore (lv' := [(4, .int (σ 6 0 0 x3.toNatClampNeg)), (0, .ref (ad 0 0 0)), (1, .int x1), (2, .int x2), (3, .int x3)]) hx hb dX4_workOn_15 hl (by decide) rfl (fun ls hl => ?_)
      refine lv_aload_n hx hb dX4_workOn_17 rfl (lv_at hl 1 rfl) ?_
      refine va_get (D := D) (ci := 4) (v := .ref (ad 7 0 0)) (C := RX4) (T := TX4) (N := 8) hx hb hts in_X4_workOn_4 hown hK (ks_P1 hW (ks_v0 (i := 0) (j := 0) (hE 0 rfl)) (ks_c0 cy ad o 0 0 _)) 0 rfl rfl 5 (by decide) (hts (.fieldLink RX4 33 "SpinKernel" "deedOfCore" "[I") (by decide +kernel)) (fun _ h => h) rfl dX4_workOn_18 ?_
      refine lv_iload_n hx hb dX4_workOn_21 rfl (lv_at hl 4 rfl) ?_
      refine lv_iload hx hb dX4_workOn_22 (lv_at hl 0 rfl) ?_
      refine lv_iconst (v := (-1)) hx hb dX4_workOn_24 (by decide) ?_
      refine lv_icmp_ne (tgt := 32) hx hb dX4_workOn_25 (by decide) (fun c3 => ?_) (fun c3 => ?_)
      · rw [if_neg c3] at hf
        refine lv_aload_n hx hb dX4_workOn_32 rfl (lv_at hl 1 rfl) ?_
        refine va_get (D := D) (ci := 4) (v := .ref (ad 1 0 0)) (C := RX4) (T := TX4) (N := 8) hx hb hts in_X4_workOn_4 hown hK (ks_P1 hW (ks_v0 (i := 0) (j := 0) (hE 0 rfl)) (ks_c0 cy ad o 0 0 _)) 0 rfl rfl 0 (by decide) (hts (.fieldLink RX4 11 "SpinKernel" "tasks" "[LSpinKernel$Task;") (by decide +kernel)) (fun _ h => h) rfl dX4_workOn_33 ?_
        refine lv_iload hx hb dX4_workOn_36 (lv_at hl 0 rfl) ?_
        obtain ⟨hi4, hf⟩ := ks_guard hf
        refine ks_aald hx hb hK hW (ks_v1 (i := 0) (j := 0) (hE 1 rfl)) 3 (ks_c1 cy ad o 0 0 _) rfl rfl hi4 dX4_workOn_38 ?_
        refine va_get (D := D) (ci := 3) (v := .ref (ad 9 (((σ 6 0 0 x3.toNatClampNeg)).toNatClampNeg) 0)) (C := RX3) (T := TX3) (N := 10) hx hb hts in_X4_workOn_3 hown hK (ks_P1 hW (ks_v8 (j := 0) (ks_in_lt hi4) (hE 8 rfl)) (ks_c8 cy ad o (((σ 6 0 0 x3.toNatClampNeg)).toNatClampNeg) 0 _)) 0 rfl rfl 9 (by decide) (hts (.fieldLink RX4 119 "SpinKernel$Task" "job" "LSpinKernel$Job;") (by decide +kernel)) (fun _ h => h) rfl dX4_workOn_39 ?_
        refine va_get (D := D) (ci := 0) (v := .int (σ 9 ((((σ 6 0 0 x3.toNatClampNeg)).toNatClampNeg)) 0 3)) (C := RX0) (T := TX0) (N := 12) hx hb hts in_X4_workOn_0 hown hK (ks_P1 hW (ks_v9 (j := 0) (ks_v8 (j := 0) (ks_in_lt hi4) (hE 8 rfl)).2.1 (hE 9 rfl)) (ks_c9 cy ad o (((σ 6 0 0 x3.toNatClampNeg)).toNatClampNeg) 0 _)) 0 rfl rfl 3 (by decide) (hts (.fieldLink RX4 258 "SpinKernel$Job" "state" "I") (by decide +kernel)) (fun _ h => h) rfl dX4_workOn_42 ?_
        exact t_X4_workOn_45 C hk4  hf hW hS (lv_sub hl [1, 2, 3, 4, 0] rfl)
      · rw [if_pos c3] at hf
        refine lv_iconst (v := 0) hx hb dX4_workOn_28 (by decide) ?_
        refine lv_goto (tgt := 45) hx hb dX4_workOn_29 (by decide) ?_
        exact t_X4_workOn_45 C hk4  hf hW hS (lv_sub hl [1, 2, 3, 4, 0] rfl)
set_option maxHeartbeats 4000000 in
set_option maxRecDepth 100000 in
theorem t_X4_workOn {p : Program} {l : Launch} {e : Env} {s : State} {m : MethodId} {args : Array Value} {below : List Frame} {meth : Method} {c : Code} {D : va_G} {cy : Nat → ClassId} {ad : ks_A} {En : Nat → Prop} {n0 : Nat → Prop} {σ0 : ks_S} {o : Int64} {N : Nat} {out : (Int32 × ks_S)} (C : ks_M p s m args meth c D cy ad En (fun k => ks_g k = 0) n0 σ0 o wsX4_workOn cX4_workOn RX4 5 (some .int)) {σ : ks_S} {x1 : Int32}  (hf : f_X4_workOn N σ x1 = some out) {H : Heap} {locs : List Loc} {ls : Array Slot} (hW : ks_W D cy ad En σ o H) (hS : va_S (ks_F n0) s.heap H locs) (hl : lv_has ls 5 [(0, .ref (ad 0 0 0)), (1, .int x1)]) : W p l e (ks_Rm 5 0 0 106) s m args below meth c H locs 0 0 (MQ below (ks_Qi D cy ad En n0 o out) args s 0 0 (ks_F n0)) (F0 m 0 ls []) := by
  obtain ⟨hx, hb, hml, hr, hown, hts, hlocks, hG, hU0, hE⟩ := id C
  have hK := hU0.2.2
  unfold f_X4_workOn at hf
  refine lv_iconst (v := 0) hx hb dX4_workOn_0 (by decide) ?_
  refine lv_istore_n (lv' := [(2, .int 0), (0, .ref (ad 0 0 0)), (1, .int x1)]) hx hb dX4_workOn_1 rfl hl (by decide) rfl (fun ls hl => ?_)
  refine lv_iconst (v := 0) hx hb dX4_workOn_2 (by decide) ?_
  refine lv_istore_n (lv' := [(3, .int 0), (2, .int 0), (0, .ref (ad 0 0 0)), (1, .int x1)]) hx hb dX4_workOn_3 rfl hl (by decide) rfl (fun ls hl => ?_)
  exact t_X4_workOn_4 C _ _ _ _ _  hf hW hS (lv_sub hl [2, 3, 1, 0] rfl)
set_option maxHeartbeats 4000000 in
set_option maxRecDepth 100000 in
theorem m_X4_workOn (l : Launch) (D : va_G) (cy : Nat → ClassId) (ad : ks_A) (En : Nat → Prop) (n0 : Nat → Prop) (hG : ks_G ad En n0) (hE : ∀ k, ks_g k = 0 → En k) (o : Int64) {N : Nat} {σ : ks_S} {x1 : Int32}  {out : (Int32 × ks_S)} (hf : f_X4_workOn N σ x1 = some out) : Met l yX4_workOn wsX4_workOn (ks_Rm 5 0 0 106) (va_Pc [.ref (ad 0 0 0), .int x1] (ks_U D cy ad En n0 σ o)) (ks_Qi D cy ad En n0 o out) 0 0 (ks_F n0) := by
  refine Met.ofW (cc := cX4_workOn) (maxL := 5) (ret := some .int) (by decide) rfl ?_
  intro p e s m args below meth c s₁ B hml hv
  obtain ⟨rfl, hU⟩ := hv
  have hl := lv_entry ([.ref (ad 0 0 0), .int x1]) (n := 5) (Nat.le_of_ble_eq_true rfl)
  rw [lg_entry_eq]
  generalize (lg_sl ([.ref (ad 0 0 0), .int x1]) ++ List.replicate (5 - (lg_sl ([.ref (ad 0 0 0), .int x1])).length) Slot.unset).toArray = ls at hl ⊢
  exact t_X4_workOn ⟨B.exec, B.bytes, hml, B.returns, findClass_of_methodNamed B.named, atoms_spec (ws := wsX4_workOn) B.pre, B.notSynchronized, hG, hU, hE⟩  hf hU.2.1 va_S.rf hl
