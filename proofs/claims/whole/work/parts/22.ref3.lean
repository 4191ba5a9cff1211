/-! SpinKernelModel.forget()V -/
def f_X5_forget_135 (N : Nat) (k12 : ks_S → Int32 → Option ks_S) (k61 : ks_S → Int32 → Option ks_S) (k94 : ks_S → Int32 → Option ks_S) : Nat → ks_S → Int32 → Option ks_S
  | 0, _, _ => none
  | n + 1, σ, x1 => (if 8 ≤ x1 then some σ else (if ks_in x1 8 = true then f_X5_forget_135 N k12 k61 k94 n ((ks_up σ 44 0 0 x1.toNatClampNeg 0)) ((x1 + 1)) else none))
def f_X5_forget_94 (N : Nat) (k12 : ks_S → Int32 → Option ks_S) (k61 : ks_S → Int32 → Option ks_S) : Nat → ks_S → Int32 → Option ks_S
  | 0, _, _ => none
  | n + 1, σ, x1 => (if 4 ≤ x1 then f_X5_forget_135 N k12 k61 (f_X5_forget_94 N k12 k61 n) N σ 0 else (if ks_in x1 4 = true then (if ks_in x1 4 = true then (if ks_in x1 4 = true then (if ks_in x1 4 = true then f_X5_forget_94 N k12 k61 n ((ks_up (ks_up (ks_up (ks_up σ 39 0 0 x1.toNatClampNeg ((-1))) 40 0 0 x1.toNatClampNeg 0) 41 0 0 x1.toNatClampNeg ((-1))) 42 0 0 x1.toNatClampNeg 0)) ((x1 + 1)) else none) else none) else none) else none))
def f_X5_forget_61 (N : Nat) (k12 : ks_S → Int32 → Option ks_S) : Nat → ks_S → Int32 → Option ks_S
  | 0, _, _ => none
  | n + 1, σ, x1 => (if 96 ≤ x1 then f_X5_forget_94 N k12 (f_X5_forget_61 N k12 n) N σ 0 else (if ks_in x1 96 = true then (if ks_in x1 96 = true then (if ks_in x1 96 = true then f_X5_forget_61 N k12 n ((ks_up (ks_up σ 38 0 0 x1.toNatClampNeg 0) 34 0 0 x1.toNatClampNeg ((((ks_up σ 38 0 0 x1.toNatClampNeg 0)) 23 0 0 x1.toNatClampNeg)))) ((x1 + 1)) else none) else none) else none))
def f_X5_forget_12 (N : Nat) : Nat → ks_S → Int32 → Option ks_S
  | 0, _, _ => none
  | n + 1, σ, x1 => (if 16 ≤ x1 then f_X5_forget_61 N (f_X5_forget_12 N n) N σ 0 else (if ks_in x1 16 = true then (if ks_in x1 16 = true then (if ks_in x1 16 = true then (if ks_in x1 16 = true then (if ks_in x1 16 = true then f_X5_forget_12 N n ((ks_up (ks_up (ks_up (ks_up (ks_up σ 26 0 0 x1.toNatClampNeg 0) 27 0 0 x1.toNatClampNeg 0) 35 0 0 x1.toNatClampNeg 0) 36 0 0 x1.toNatClampNeg 0) 37 0 0 x1.toNatClampNeg 0)) ((x1 + 1)) else none) else none) else none) else none) else none))
def f_X5_forget (N : Nat) (σ : ks_S)  : Option ks_S :=
  f_X5_forget_12 N N ((ks_up (ks_up σ 14 0 0 13 0) 14 0 0 27 0)) 0
theorem in_X5_forget_5 : ∀ w ∈ wsX50, w ∈ wsX5_forget := by decide +kernel
set_option maxHeartbeats 4000000 in
set_option maxRecDepth 100000 in
theorem t_X5_forget_135 {p : Program} {l : Launch} {e : Env} {s : State} {m : MethodId} {args : Array Value} {below : List Frame} {meth : Method} {c : Code} {D : va_G} {cy : Nat → ClassId} {ad : ks_A} {En : Nat → Prop} {n0 : Nat → Prop} {σ0 : ks_S} {o : Int64} {N : Nat} {out : ks_S} (C : ks_M p s m args meth c D cy ad En (fun k => ks_g k = 1) n0 σ0 o wsX5_forget cX5_forget RX5 2 (none)) {k12 : ks_S → Int32 → Option ks_S} {k61 : ks_S → Int32 → Option ks_S} {k94 : ks_S → Int32 → Option ks_S} (hk12 : ∀ (σ : ks_S) (x1 : Int32), k12 σ x1 = some out → ∀ {H : Heap} {locs : List Loc} {ls : Array Slot}, ks_W D cy ad En σ o H → va_S (ks_F n0) s.heap H locs → lv_has ls 2 [(0, .ref (ad 14 0 0)), (1, .int x1)] → W p l e (ks_Rm 0 0 0 0) s m args below meth c H locs 0 0 (MQ below (ks_Qv D cy ad En n0 o out) args s 0 0 (ks_F n0)) (F0 m 12 ls [])) (hk61 : ∀ (σ : ks_S) (x1 : Int32), k61 σ x1 = some out → ∀ {H : Heap} {locs : List Loc} {ls : Array Slot}, ks_W D cy ad En σ o H → va_S (ks_F n0) s.heap H locs → lv_has ls 2 [(0, .ref (ad 14 0 0)), (1, .int x1)] → W p l e (ks_Rm 0 0 0 0) s m args below meth c H locs 0 0 (MQ below (ks_Qv D cy ad En n0 o out) args s 0 0 (ks_F n0)) (F0 m 61 ls [])) (hk94 : ∀ (σ : ks_S) (x1 : Int32), k94 σ x1 = some out → ∀ {H : Heap} {locs : List Loc} {ls : Array Slot}, ks_W D cy ad En σ o H → va_S (ks_F n0) s.heap H locs → lv_has ls 2 [(0, .ref (ad 14 0 0)), (1, .int x1)] → W p l e (ks_Rm 0 0 0 0) s m args below meth c H locs 0 0 (MQ below (ks_Qv D cy ad En n0 o out) args s 0 0 (ks_F n0)) (F0 m 94 ls [])) : ∀ (n : Nat) (σ : ks_S) (x1 : Int32), f_X5_forget_135 N k12 k61 k94 n σ x1 = some out → ∀ {H : Heap} {locs : List Loc} {ls : Array Slot}, ks_W D cy ad En σ o H → va_S (ks_F n0) s.heap H locs → lv_has ls 2 [(0, .ref (ad 14 0 0)), (1, .int x1)] → W p l e (ks_Rm 0 0 0 0) s m args below meth c H locs 0 0 (MQ below (ks_Qv D cy ad En n0 o out) args s 0 0 (ks_F n0)) (F0 m 135 ls []) := by
  obtain ⟨hx, hb, hml, hr, hown, hts, hlocks, hG, hU0, hE⟩ := id C
  have hK := hU0.2.2
  intro n
  induction n with
  | zero => intro σ x1; intro  hf; exact absurd hf (by simp [f_X5_forget_135])
  | succ n hk135 =>
    intro σ x1  hf H locs ls hW hS hl
    rw [f_X5_forget_135] at hf
    refine lv_iload_n hx hb dX5_forget_135 rfl (lv_at hl 1 rfl) ?_
    refine lv_bipush (v := 8) hx hb dX5_forget_136 (by decide) ?_
    refine lv_icmp_ge (tgt := 154) hx hb dX5_forget_138 (by decide) (fun c4 => ?_) (fun c4 => ?_)
    · rw [if_pos c4] at hf
      exact ks_vret C hf hW hS dX5_forget_154
    · rw [if_neg c4] at hf
      refine lv_aload_n hx hb dX5_forget_141 rfl (lv_at hl 0 rfl) ?_
      refine va_get (D := D) (ci := 5) (v := .ref (ad 44 0 0)) (C := RX5) (T := TX5) (N := 34) hx hb hts in_X5_forget_5 hown hK (ks_P1 hW (ks_v14 (i := 0) (j := 0) (hE 14 rfl)) (ks_c14 cy ad o 0 0 _)) 0 rfl rfl 33 (by decide) (hts (.fieldLink RX5 98 "SpinKernelModel" "many" "[I") (by decide +kernel)) (fun _ h => h) rfl dX5_forget_142 ?_
      refine lv_iload_n hx hb dX5_forget_145 rfl (lv_at hl 1 rfl) ?_
      refine lv_iconst (v := 0) hx hb dX5_forget_146 (by decide) ?_
      obtain ⟨hi5, hf⟩ := ks_guard hf
      refine ks_iast hx hb hK hG hW hS (ks_v44 (i := 0) (j := 0) (hE 44 rfl)) (fun c => ks_c44 cy ad o 0 0 c) hi5 dX5_forget_147 (fun H locs hW hS => ?_)
      refine lv_iinc (v := (x1 + 1)) (lv' := [(1, .int (x1 + 1)), (0, .ref (ad 14 0 0))]) hx hb dX5_forget_148 hl (k := 1) rfl rfl (by decide) rfl (fun ls hl => ?_)
      refine lv_goto (tgt := 135) hx hb dX5_forget_151 (by decide) ?_
      exact hk135 _ _ hf hW hS (lv_sub hl [1, 0] rfl)
set_option maxHeartbeats 4000000 in
set_option maxRecDepth 100000 in
theorem t_X5_forget_94 {p : Program} {l : Launch} {e : Env} {s : State} {m : MethodId} {args : Array Value} {below : List Frame} {meth : Method} {c : Code} {D : va_G} {cy : Nat → ClassId} {ad : ks_A} {En : Nat → Prop} {n0 : Nat → Prop} {σ0 : ks_S} {o : Int64} {N : Nat} {out : ks_S} (C : ks_M p s m args meth c D cy ad En (fun k => ks_g k = 1) n0 σ0 o wsX5_forget cX5_forget RX5 2 (none)) {k12 : ks_S → Int32 → Option ks_S} {k61 : ks_S → Int32 → Option ks_S} (hk12 : ∀ (σ : ks_S) (x1 : Int32), k12 σ x1 = some out → ∀ {H : Heap} {locs : List Loc} {ls : Array Slot}, ks_W D cy ad En σ o H → va_S (ks_F n0) s.heap H locs → lv_has ls 2 [(0, .ref (ad 14 0 0)), (1, .int x1)] → W p l e (ks_Rm 0 0 0 0) s m args below meth c H locs 0 0 (MQ below (ks_Qv D cy ad En n0 o out) args s 0 0 (ks_F n0)) (F0 m 12 ls [])) (hk61 : ∀ (σ : ks_S) (x1 : Int32), k61 σ x1 = some out → ∀ {H : Heap} {locs : List Loc} {ls : Array Slot}, ks_W D cy ad En σ o H → va_S (ks_F n0) s.heap H locs → lv_has ls 2 [(0, .ref (ad 14 0 0)), (1, .int x1)] → W p l e (ks_Rm 0 0 0 0) s m args below meth c H locs 0 0 (MQ below (ks_Qv D cy ad En n0 o out) args s 0 0 (ks_F n0)) (F0 m 61 ls [])) : ∀ (n : Nat) (σ : ks_S) (x1 : Int32), f_X5_forget_94 N k12 k61 n σ x1 = some out → ∀ {H : Heap} {locs : List Loc} {ls : Array Slot}, ks_W D cy ad En σ o H → va_S (ks_F n0) s.heap H locs → lv_has ls 2 [(0, .ref (ad 14 0 0)), (1, .int x1)] → W p l e (ks_Rm 0 0 0 0) s m args below meth c H locs 0 0 (MQ below (ks_Qv D cy ad En n0 o out) args s 0 0 (ks_F n0)) (F0 m 94 ls []) := by
  obtain ⟨hx, hb, hml, hr, hown, hts, hlocks, hG, hU0, hE⟩ := id C
  have hK := hU0.2.2
  intro n
  induction n with
  | zero => intro σ x1; intro  hf; exact absurd hf (by simp [f_X5_forget_94])
  | succ n hk94 =>
    intro σ x1  hf H locs ls hW hS hl
    rw [f_X5_forget_94] at hf
    refine lv_iload_n hx hb dX5_forget_94 rfl (lv_at hl 1 rfl) ?_
    refine lv_iconst (v := 4) hx hb dX5_forget_95 (by decide) ?_
    refine lv_icmp_ge (tgt := 133) hx hb dX5_forget_96 (by decide) (fun c3 => ?_) (fun c3 => ?_)
    · rw [if_pos c3] at hf
      refine lv_iconst (v := 0) hx hb dX5_forget_133 (by decide) ?_
      refine lv_istore_n (lv' := [(1, .int 0), (0, .ref (ad 14 0 0))]) hx hb dX5_forget_134 rfl hl (by decide) rfl (fun ls hl => ?_)
      exact t_X5_forget_135 C hk12 hk61 hk94 _ _ _  hf hW hS (lv_sub hl [1, 0] rfl)
    · rw [if_neg c3] at hf
      refine lv_aload_n hx hb dX5_forget_99 rfl (lv_at hl 0 rfl) ?_
      refine va_get (D := D) (ci := 5) (v := .ref (ad 39 0 0)) (C := RX5) (T := TX5) (N := 34) hx hb hts in_X5_forget_5 hown hK (ks_P1 hW (ks_v14 (i := 0) (j := 0) (hE 14 rfl)) (ks_c14 cy ad o 0 0 _)) 0 rfl rfl 28 (by decide) (hts (.fieldLink RX5 83 "SpinKernelModel" "at" "[I") (by decide +kernel)) (fun _ h => h) rfl dX5_forget_100 ?_
      refine lv_iload_n hx hb dX5_forget_103 rfl (lv_at hl 1 rfl) ?_
      refine lv_iconst (v := (-1)) hx hb dX5_forget_104 (by decide) ?_
      obtain ⟨hi6, hf⟩ := ks_guard hf
      refine ks_iast hx hb hK hG hW hS (ks_v39 (i := 0) (j := 0) (hE 39 rfl)) (fun c => ks_c39 cy ad o 0 0 c) hi6 dX5_forget_105 (fun H locs hW hS => ?_)
      refine lv_aload_n hx hb dX5_forget_106 rfl (lv_at hl 0 rfl) ?_
      refine va_get (D := D) (ci := 5) (v := .ref (ad 40 0 0)) (C := RX5) (T := TX5) (N := 34) hx hb hts in_X5_forget_5 hown hK (ks_P1 hW (ks_v14 (i := 0) (j := 0) (hE 14 rfl)) (ks_c14 cy ad o 0 0 _)) 0 rfl rfl 29 (by decide) (hts (.fieldLink RX5 86 "SpinKernelModel" "state" "[I") (by decide +kernel)) (fun _ h => h) rfl dX5_forget_107 ?_
      refine lv_iload_n hx hb dX5_forget_110 rfl (lv_at hl 1 rfl) ?_
      refine lv_iconst (v := 0) hx hb dX5_forget_111 (by decide) ?_
      obtain ⟨hi7, hf⟩ := ks_guard hf
      refine ks_iast hx hb hK hG hW hS (ks_v40 (i := 0) (j := 0) (hE 40 rfl)) (fun c => ks_c40 cy ad o 0 0 c) hi7 dX5_forget_112 (fun H locs hW hS => ?_)
      refine lv_aload_n hx hb dX5_forget_113 rfl (lv_at hl 0 rfl) ?_
      refine va_get (D := D) (ci := 5) (v := .ref (ad 41 0 0)) (C := RX5) (T := TX5) (N := 34) hx hb hts in_X5_forget_5 hown hK (ks_P1 hW (ks_v14 (i := 0) (j := 0) (hE 14 rfl)) (ks_c14 cy ad o 0 0 _)) 0 rfl rfl 30 (by decide) (hts (.fieldLink RX5 89 "SpinKernelModel" "lastTask" "[I") (by decide +kernel)) (fun _ h => h) rfl dX5_forget_114 ?_
      refine lv_iload_n hx hb dX5_forget_117 rfl (lv_at hl 1 rfl) ?_
      refine lv_iconst (v := (-1)) hx hb dX5_forget_118 (by decide) ?_
      obtain ⟨hi8, hf⟩ := ks_guard hf
      refine ks_iast hx hb hK hG hW hS (ks_v41 (i := 0) (j := 0) (hE 41 rfl)) (fun c => ks_c41 cy ad o 0 0 c) hi8 dX5_forget_119 (fun H locs hW hS => ?_)
      refine lv_aload_n hx hb dX5_forget_120 rfl (lv_at hl 0 rfl) ?_
      refine va_get (D := D) (ci := 5) (v := .ref (ad 42 0 0)) (C := RX5) (T := TX5) (N := 34) hx hb hts in_X5_forget_5 hown hK (ks_P1 hW (ks_v14 (i := 0) (j := 0) (hE 14 rfl)) (ks_c14 cy ad o 0 0 _)) 0 rfl rfl 31 (by decide) (hts (.fieldLink RX5 92 "SpinKernelModel" "lastState" "[I") (by decide +kernel)) (fun _ h => h) rfl dX5_forget_121 ?_
      refine lv_iload_n hx hb dX5_forget_124 rfl (lv_at hl 1 rfl) ?_
      refine lv_iconst (v := 0) hx hb dX5_forget_125 (by decide) ?_
      obtain ⟨hi9, hf⟩ := ks_guard hf
      refine ks_iast hx hb hK hG hW hS (ks_v42 (i := 0) (j := 0) (hE 42 rfl)) (fun c => ks_c42 cy ad o 0 0 c) hi9 dX5_forget_126 (fun H locs hW hS => ?_)
      refine lv_iinc (v := (x1 + 1)) (lv' := [(1, .int (x1 + 1)), (0, .ref (ad 14 0 0))]) hx hb dX5_forget_127 hl (k := 1) rfl rfl (by decide) rfl (fun ls hl => ?_)
      refine lv_goto (tgt := 94) hx hb dX5_forget_130 (by decide) ?_
      exact hk94 _ _ hf hW hS (lv_sub hl [1, 0] rfl)
set_option maxHeartbeats 4000000 in
set_option maxRecDepth 100000 in
theorem t_X5_forget_61 {p : Program} {l : Launch} {e : Env} {s : State} {m : MethodId} {args : Array Value} {below : List Frame} {meth : Method} {c : Code} {D : va_G} {cy : Nat → ClassId} {ad : ks_A} {En : Nat → Prop} {n0 : Nat → Prop} {σ0 : ks_S} {o : Int64} {N : Nat} {out : ks_S} (C : ks_M p s m args meth c D cy ad En (fun k => ks_g k = 1) n0 σ0 o wsX5_forget cX5_forget RX5 2 (none)) {k12 : ks_S → Int32 → Option ks_S} (hk12 : ∀ (σ : ks_S) (x1 : Int32), k12 σ x1 = some out → ∀ {H : Heap} {locs : List Loc} {ls : Array Slot}, ks_W D cy ad En σ o H → va_S (ks_F n0) s.heap H locs → lv_has ls 2 [(0, .ref (ad 14 0 0)), (1, .int x1)] → W p l e (ks_Rm 0 0 0 0) s m args below meth c H locs 0 0 (MQ below (ks_Qv D cy ad En n0 o out) args s 0 0 (ks_F n0)) (F0 m 12 ls [])) : ∀ (n : Nat) (σ : ks_S) (x1 : Int32), f_X5_forget_61 N k12 n σ x1 = some out → ∀ {H : Heap} {locs : List Loc} {ls : Array Slot}, ks_W D cy ad En σ o H → va_S (ks_F n0) s.heap H locs → lv_has ls 2 [(0, .ref (ad 14 0 0)), (1, .int x1)] → W p l e (ks_Rm 0 0 0 0) s m args below meth c H locs 0 0 (MQ below (ks_Qv D cy ad En n0 o out) args s 0 0 (ks_F n0)) (F0 m 61 ls []) := by
  obtain ⟨hx, hb, hml, hr, hown, hts, hlocks, hG, hU0, hE⟩ := id C
  have hK := hU0.2.2
  intro n
  induction n with
  | zero => intro σ x1; intro  hf; exact absurd hf (by simp [f_X5_forget_61])
  | succ n hk61 =>
    intro σ x1  hf H locs ls hW hS hl
    rw [f_X5_forget_61] at hf
    refine lv_iload_n hx hb dX5_forget_61 rfl (lv_at hl 1 rfl) ?_
    refine lv_bipush (v := 96) hx hb dX5_forget_62 (by decide) ?_
    refine lv_icmp_ge (tgt := 92) hx hb dX5_forget_64 (by decide) (fun c2 => ?_) (fun c2 => ?_)
    · rw [if_pos c2] at hf
      refine lv_iconst (v := 0) hx hb dX5_forget_92 (by decide) ?_
      refine lv_istore_n (lv' := [(1, .int 0), (0, .ref (ad 14 0 0))]) hx hb dX5_forget_93 rfl hl (by decide) rfl (fun ls hl => ?_)
      exact t_X5_forget_94 C hk12 hk61 _ _ _  hf hW hS (lv_sub hl [1, 0] rfl)
    · rw [if_neg c2] at hf
      refine lv_aload_n hx hb dX5_forget_67 rfl (lv_at hl 0 rfl) ?_
      refine va_get (D := D) (ci := 5) (v := .ref (ad 38 0 0)) (C := RX5) (T := TX5) (N := 34) hx hb hts in_X5_forget_5 hown hK (ks_P1 hW (ks_v14 (i := 0) (j := 0) (hE 14 rfl)) (ks_c14 cy ad o 0 0 _)) 0 rfl rfl 26 (by decide) (hts (.fieldLink RX5 80 "SpinKernelModel" "spuns" "[I") (by decide +kernel)) (fun _ h => h) rfl dX5_forget_68 ?_
      refine lv_iload_n hx hb dX5_forget_71 rfl (lv_at hl 1 rfl) ?_
      refine lv_iconst (v := 0) hx hb dX5_forget_72 (by decide) ?_
      obtain ⟨hi10, hf⟩ := ks_guard hf
      refine ks_iast hx hb hK hG hW hS (ks_v38 (i := 0) (j := 0) (hE 38 rfl)) (fun c => ks_c38 cy ad o 0 0 c) hi10 dX5_forget_73 (fun H locs hW hS => ?_)
      refine lv_aload_n hx hb dX5_forget_74 rfl (lv_at hl 0 rfl) ?_
      refine va_get (D := D) (ci := 5) (v := .ref (ad 34 0 0)) (C := RX5) (T := TX5) (N := 34) hx hb hts in_X5_forget_5 hown hK (ks_P1 hW (ks_v14 (i := 0) (j := 0) (hE 14 rfl)) (ks_c14 cy ad o 0 0 _)) 0 rfl rfl 22 (by decide) (hts (.fieldLink RX5 68 "SpinKernelModel" "coming" "[I") (by decide +kernel)) (fun _ h => h) rfl dX5_forget_75 ?_
      refine lv_iload_n hx hb dX5_forget_78 rfl (lv_at hl 1 rfl) ?_
      refine lv_aload_n hx hb dX5_forget_79 rfl (lv_at hl 0 rfl) ?_
      refine va_get (D := D) (ci := 5) (v := .ref (ad 23 0 0)) (C := RX5) (T := TX5) (N := 34) hx hb hts in_X5_forget_5 hown hK (ks_P1 hW (ks_v14 (i := 0) (j := 0) (hE 14 rfl)) (ks_c14 cy ad o 0 0 _)) 0 rfl rfl 9 (by decide) (hts (.fieldLink RX5 34 "SpinKernelModel" "lengths" "[I") (by decide +kernel)) (fun _ h => h) rfl dX5_forget_80 ?_
      refine lv_iload_n hx hb dX5_forget_83 rfl (lv_at hl 1 rfl) ?_
      obtain ⟨hi11, hf⟩ := ks_guard hf
      refine ks_iald hx hb hK hW (ks_v23 (i := 0) (j := 0) (hE 23 rfl)) (ks_c23 cy ad o 0 0 _) hi11 dX5_forget_84 ?_
      obtain ⟨hi12, hf⟩ := ks_guard hf
      refine ks_iast hx hb hK hG hW hS (ks_v34 (i := 0) (j := 0) (hE 34 rfl)) (fun c => ks_c34 cy ad o 0 0 c) hi12 dX5_forget_85 (fun H locs hW hS => ?_)
      refine lv_iinc (v := (x1 + 1)) (lv' := [(1, .int (x1 + 1)), (0, .ref (ad 14 0 0))]) hx hb dX5_forget_86 hl (k := 1) rfl rfl (by decide) rfl (fun ls hl => ?_)
      refine lv_goto (tgt := 61) hx hb dX5_forget_89 (by decide) ?_
      exact hk61 _ _ hf hW hS (lv_sub hl [1, 0] rfl)
set_option maxHeartbeats 4000000 in
set_option maxRecDepth 100000 in
theorem t_X5_forget_12 {p : Program} {l : Launch} {e : Env} {s : State} {m : MethodId} {args : Array Value} {below : List Frame} {meth : Method} {c : Code} {D : va_G} {cy : Nat → ClassId} {ad : ks_A} {En : Nat → Prop} {n0 : Nat → Prop} {σ0 : ks_S} {o : Int64} {N : Nat} {out : ks_S} (C : ks_M p s m args meth c D cy ad En (fun k => ks_g k = 1) n0 σ0 o wsX5_forget cX5_forget RX5 2 (none)) : ∀ (n : Nat) (σ : ks_S) (x1 : Int32), f_X5_forget_12 N n σ x1 = some out → ∀ {H : Heap} {locs : List Loc} {ls : Array Slot}, ks_W D cy ad En σ o H → va_S (ks_F n0) s.heap H locs → lv_has ls 2 [(0, .ref (ad 14 0 0)), (1, .int x1)] → W p l e (ks_Rm 0 0 0 0) s m args below meth c H locs 0 0 (MQ below (ks_Qv D cy ad En n0 o out) args s 0 0 (ks_F n0)) (F0 m 12 ls []) := by
  obtain ⟨hx, hb, hml, hr, hown, hts, hlocks, hG, hU0, hE⟩ := id C
  have hK := hU0.2.2
  intro n
  induction n with
  | zero => intro σ x1; intro  hf; exact absurd hf (by simp [f_X5_forget_12])
  | succ n hk12 =>
    intro σ x1  hf H locs ls hW hS hl
    rw [f_X5_forget_12] at hf
    refine lv_iload_n hx hb dX5_forget_12 rfl (lv_at hl 1 rfl) ?_
    refine lv_bipush (v := 16) hx hb dX5_forget_13 (by decide) ?_
    refine lv_icmp_ge (tgt := 59) hx hb dX5_forget_15 (by decide) (fun c1 => ?_) (fun c1 => ?_)
    · rw [if_pos c1] at hf
      refine lv_iconst (v := 0) hx hb dX5_forget_59 (by decide) ?_
      refine lv_istore_n (lv' := [(1, .int 0), (0, .ref (ad 14 0 0))]) hx hb dX5_forget_60 rfl hl (by decide) rfl (fun ls hl => ?_)
      exact t_X5_forget_61 C hk12 _ _ _  hf hW hS (lv_sub hl [1, 0] rfl)
    · rw [if_neg c1] at hf
      refine lv_aload_n hx hb dX5_forget_18 rfl (lv_at hl 0 rfl) ?_
      refine va_get (D := D) (ci := 5) (v := .ref (ad 26 0 0)) (C := RX5) (T := TX5) (N := 34) hx hb hts in_X5_forget_5 hown hK (ks_P1 hW (ks_v14 (i := 0) (j := 0) (hE 14 rfl)) (ks_c14 cy ad o 0 0 _)) 0 rfl rfl 14 (by decide) (hts (.fieldLink RX5 43 "SpinKernelModel" "open" "[Z") (by decide +kernel)) (fun _ h => h) rfl dX5_forget_19 ?_
      refine lv_iload_n hx hb dX5_forget_22 rfl (lv_at hl 1 rfl) ?_
      refine lv_iconst (v := 0) hx hb dX5_forget_23 (by decide) ?_
      obtain ⟨hi13, hf⟩ := ks_guard hf
      refine ks_zast hx hb hK hG hW hS (ks_v26 (i := 0) (j := 0) (hE 26 rfl)) (fun c => ks_c26 cy ad o 0 0 c) hi13 rfl dX5_forget_24 (fun H locs hW hS => ?_)
      refine lv_aload_n hx hb dX5_forget_25 rfl (lv_at hl 0 rfl) ?_
      refine va_get (D := D) (ci := 5) (v := .ref (ad 27 0 0)) (C := RX5) (T := TX5) (N := 34) hx hb hts in_X5_forget_5 hown hK (ks_P1 hW (ks_v14 (i := 0) (j := 0) (hE 14 rfl)) (ks_c14 cy ad o 0 0 _)) 0 rfl rfl 15 (by decide) (hts (.fieldLink RX5 47 "SpinKernelModel" "came" "[Z") (by decide +kernel)) (fun _ h => h) rfl dX5_forget_26 ?_
      refine lv_iload_n hx hb dX5_forget_29 rfl (lv_at hl 1 rfl) ?_
      refine lv_iconst (v := 0) hx hb dX5_forget_30 (by decide) ?_
      obtain ⟨hi14, hf⟩ := ks_guard hf
      refine ks_zast hx hb hK hG hW hS (ks_v27 (i := 0) (j := 0) (hE 27 rfl)) (fun c => ks_c27 cy ad o 0 0 c) hi14 rfl dX5_forget_31 (fun H locs hW hS => ?_)
      refine lv_aload_n hx hb dX5_forget_32 rfl (lv_at hl 0 rfl) ?_
      refine va_get (D := D) (ci := 5) (v := .ref (ad 35 0 0)) (C := RX5) (T := TX5) (N := 34) hx hb hts in_X5_forget_5 hown hK (ks_P1 hW (ks_v14 (i := 0) (j := 0) (hE 14 rfl)) (ks_c14 cy ad o 0 0 _)) 0 rfl rfl 23 (by decide) (hts (.fieldLink RX5 71 "SpinKernelModel" "ended" "[I") (by decide +kernel)) (fun _ h => h) rfl dX5_forget_33 ?_
      refine lv_iload_n hx hb dX5_forget_36 rfl (lv_at hl 1 rfl) ?_
      refine lv_iconst (v := 0) hx hb dX5_forget_37 (by decide) ?_
      obtain ⟨hi15, hf⟩ := ks_guard hf
      refine ks_iast hx hb hK hG hW hS (ks_v35 (i := 0) (j := 0) (hE 35 rfl)) (fun c => ks_c35 cy ad o 0 0 c) hi15 dX5_forget_38 (fun H locs hW hS => ?_)
      refine lv_aload_n hx hb dX5_forget_39 rfl (lv_at hl 0 rfl) ?_
      refine va_get (D := D) (ci := 5) (v := .ref (ad 36 0 0)) (C := RX5) (T := TX5) (N := 34) hx hb hts in_X5_forget_5 hown hK (ks_P1 hW (ks_v14 (i := 0) (j := 0) (hE 14 rfl)) (ks_c14 cy ad o 0 0 _)) 0 rfl rfl 24 (by decide) (hts (.fieldLink RX5 74 "SpinKernelModel" "greatest" "[I") (by decide +kernel)) (fun _ h => h) rfl dX5_forget_40 ?_
      refine lv_iload_n hx hb dX5_forget_43 rfl (lv_at hl 1 rfl) ?_
      refine lv_iconst (v := 0) hx hb dX5_forget_44 (by decide) ?_
      obtain ⟨hi16, hf⟩ := ks_guard hf
      refine ks_iast hx hb hK hG hW hS (ks_v36 (i := 0) (j := 0) (hE 36 rfl)) (fun c => ks_c36 cy ad o 0 0 c) hi16 dX5_forget_45 (fun H locs hW hS => ?_)
      refine lv_aload_n hx hb dX5_forget_46 rfl (lv_at hl 0 rfl) ?_
      refine va_get (D := D) (ci := 5) (v := .ref (ad 37 0 0)) (C := RX5) (T := TX5) (N := 34) hx hb hts in_X5_forget_5 hown hK (ks_P1 hW (ks_v14 (i := 0) (j := 0) (hE 14 rfl)) (ks_c14 cy ad o 0 0 _)) 0 rfl rfl 25 (by decide) (hts (.fieldLink RX5 77 "SpinKernelModel" "latest" "[I") (by decide +kernel)) (fun _ h => h) rfl dX5_forget_47 ?_
      refine lv_iload_n hx hb dX5_forget_50 rfl (lv_at hl 1 rfl) ?_
      refine lv_iconst (v := 0) hx hb dX5_forget_51 (by decide) ?_
      obtain ⟨hi17, hf⟩ := ks_guard hf
      refine ks_iast hx hb hK hG hW hS (ks_v37 (i := 0) (j := 0) (hE 37 rfl)) (fun c => ks_c37 cy ad o 0 0 c) hi17 dX5_forget_52 (fun H locs hW hS => ?_)
      refine lv_iinc (v := (x1 + 1)) (lv' := [(1, .int (x1 + 1)), (0, .ref (ad 14 0 0))]) hx hb dX5_forget_53 hl (k := 1) rfl rfl (by decide) rfl (fun ls hl => ?_)
      refine lv_goto (tgt := 12) hx hb dX5_forget_56 (by decide) ?_
      exact hk12 _ _ hf hW hS (lv_sub hl [1, 0] rfl)
set_option maxHeartbeats 4000000 in
set_option maxRecDepth 100000 in
theorem t_X5_forget {p : Program} {l : Launch} {e : Env} {s : State} {m : MethodId} {args : Array Value} {below : List Frame} {meth : Method} {c : Code} {D : va_G} {cy : Nat → ClassId} {ad : ks_A} {En : Nat → Prop} {n0 : Nat → Prop} {σ0 : ks_S} {o : Int64} {N : Nat} {out : ks_S} (C : ks_M p s m args meth c D cy ad En (fun k => ks_g k = 1) n0 σ0 o wsX5_forget cX5_forget RX5 2 (none)) {σ : ks_S}   (hf : f_X5_forget N σ  = some out) {H : Heap} {locs : List Loc} {ls : Array Slot} (hW : ks_W D cy ad En σ o H) (hS : va_S (ks_F n0) s.heap H locs) (hl : lv_has ls 2 [(0, .ref (ad 14 0 0))]) : W p l e (ks_Rm 0 0 0 0) s m args below meth c H locs 0 0 (MQ below (ks_Qv D cy ad En n0 o out) args s 0 0 (ks_F n0)) (F0 m 0 ls []) := by
  obtain ⟨hx, hb, hml, hr, hown, hts, hlocks, hG, hU0, hE⟩ := id C
  have hK := hU0.2.2
  unfold f_X5_forget at hf
  refine lv_aload_n hx hb dX5_forget_0 rfl (lv_at hl 0 rfl) ?_
  refine lv_iconst (v := 0) hx hb dX5_forget_1 (by decide) ?_
  refine ks_put (D := D) (ci := 5) (C := RX5) (T := TX5) (N := 34) hx hb hts in_X5_forget_5 tyX5 tyX5_ok nmX5 hown hK hG hW hS (ks_v14 (i := 0) (j := 0) (hE 14 rfl)) 13 (v := 0) (ks_c14 cy ad o 0 0 _) (ks_c14s13 cy ad o 0 0 _ _) rfl (by decide) (hts (.fieldLink RX5 158 "SpinKernelModel" "now" "I") (by decide +kernel)) rfl (ty := .int) (by decide +kernel) rfl rfl (Nat.le_of_ble_eq_true rfl) dX5_forget_2 (fun H locs hW hS => ?_)
  refine lv_aload_n hx hb dX5_forget_5 rfl (lv_at hl 0 rfl) ?_
  refine lv_iconst (v := 0) hx hb dX5_forget_6 (by decide) ?_
  refine ks_put (D := D) (ci := 5) (C := RX5) (T := TX5) (N := 34) hx hb hts in_X5_forget_5 tyX5 tyX5_ok nmX5 hown hK hG hW hS (ks_v14 (i := 0) (j := 0) (hE 14 rfl)) 27 (v := 0) (ks_c14 cy ad o 0 0 _) (ks_c14s27 cy ad o 0 0 _ _) rfl (by decide) (hts (.fieldLink RX5 161 "SpinKernelModel" "behind" "I") (by decide +kernel)) rfl (ty := .int) (by decide +kernel) rfl rfl (Nat.le_of_ble_eq_true rfl) dX5_forget_7 (fun H locs hW hS => ?_)
  refine lv_iconst (v := 0) hx hb dX5_forget_10 (by decide) ?_
  refine lv_istore_n (lv' := [(1, .int 0), (0, .ref (ad 14 0 0))]) hx hb dX5_forget_11 rfl hl (by decide) rfl (fun ls hl => ?_)
  exact t_X5_forget_12 C _ _ _  hf hW hS (lv_sub hl [1, 0] rfl)
set_option maxHeartbeats 4000000 in
set_option maxRecDepth 100000 in
theorem m_X5_forget (l : Launch) (D : va_G) (cy : Nat → ClassId) (ad : ks_A) (En : Nat → Prop) (n0 : Nat → Prop) (hG : ks_G ad En n0) (hE : ∀ k, ks_g k = 1 → En k) (o : Int64) {N : Nat} {σ : ks_S}   {out : ks_S} (hf : f_X5_forget N σ  = some out) : Met l yX5_forget wsX5_forget (ks_Rm 0 0 0 0) (va_Pc [.ref (ad 14 0 0)] (ks_U D cy ad En n0 σ o)) (ks_Qv D cy ad En n0 o out) 0 0 (ks_F n0) := by
  refine Met.ofW (cc := cX5_forget) (maxL := 2) (ret := none) (by decide) rfl ?_
  intro p e s m args below meth c s₁ B hml hv
  obtain ⟨rfl, hU⟩ := hv
  have hl := lv_entry ([.ref (ad 14 0 0)]) (n := 2) (Nat.le_of_ble_eq_true rfl)
  rw [lg_entry_eq]
  generalize (lg_sl ([.ref (ad 14 0 0)]) ++ List.replicate (2 - (lg_sl ([.ref (ad 14 0 0)])).length) Slot.unset).toArray = ls at hl ⊢
  exact t_X5_forget ⟨B.exec, B.bytes, hml, B.returns, findClass_of_methodNamed B.named, atoms_spec (ws := wsX5_forget) B.pre, B.notSynchronized, hG, hU, hE⟩  hf hU.2.1 va_S.rf hl

/-! SpinKernelModel.hasOpen()Z -/
def f_X5_hasOpen_4 (N : Nat) : Nat → ks_S → Int32 → Int32 → Option (Int32 × ks_S)
  | 0, _, _, _ => none
  | n + 1, σ, x1, x2 => (if 16 ≤ x2 then (if vp_nar .boolean x1 = x1 then some (x1, σ) else none) else (if x1 = 0 then (if ks_in x2 16 = true then (if ((σ 26 0 0 x2.toNatClampNeg)) = 0 then f_X5_hasOpen_4 N n σ 0 ((x2 + 1)) else f_X5_hasOpen_4 N n σ 1 ((x2 + 1))) else none) else f_X5_hasOpen_4 N n σ 1 ((x2 + 1))))
def f_X5_hasOpen (N : Nat) (σ : ks_S)  : Option (Int32 × ks_S) :=
  f_X5_hasOpen_4 N N σ 0 0
theorem in_X5_hasOpen_5 : ∀ w ∈ wsX50, w ∈ wsX5_hasOpen := by decide +kernel
set_option maxHeartbeats 4000000 in
set_option maxRecDepth 100000 in
theorem t_X5_hasOpen_4 {p : Program} {l : Launch} {e : Env} {s : State} {m : MethodId} {args : Array Value} {below : List Frame} {meth : Method} {c : Code} {D : va_G} {cy : Nat → ClassId} {ad : ks_A} {En : Nat → Prop} {n0 : Nat → Prop} {σ0 : ks_S} {o : Int64} {N : Nat} {out : (Int32 × ks_S)} (C : ks_M p s m args meth c D cy ad En (fun k => ks_g k = 1) n0 σ0 o wsX5_hasOpen cX5_hasOpen RX5 3 (some .boolean)) : ∀ (n : Nat) (σ : ks_S) (x1 : Int32) (x2 : Int32), f_X5_hasOpen_4 N n σ x1 x2 = some out → ∀ {H : Heap} {locs : List Loc} {ls : Array Slot}, ks_W D cy ad En σ o H → va_S (ks_F n0) s.heap H locs → lv_has ls 3 [(0, .ref (ad 14 0 0)), (1, .int x1), (2, .int x2)] → W p l e (ks_Rm 0 0 0 0) s m args below meth c H locs 0 0 (MQ below (ks_Qi D cy ad En n0 o out) args s 0 0 (ks_F n0)) (F0 m 4 ls []) := by
  obtain ⟨hx, hb, hml, hr, hown, hts, hlocks, hG, hU0, hE⟩ := id C
  have hK := hU0.2.2
  intro n
  induction n with
  | zero => intro σ x1 x2; intro  hf; exact absurd hf (by simp [f_X5_hasOpen_4])
  | succ n hk4 =>
    intro σ x1 x2  hf H locs ls hW hS hl
    rw [f_X5_hasOpen_4] at hf
    refine lv_iload_n hx hb dX5_hasOpen_4 rfl (lv_at hl 2 rfl) ?_
    refine lv_bipush (v := 16) hx hb dX5_hasOpen_5 (by decide) ?_
    refine lv_icmp_ge (tgt := 35) hx hb dX5_hasOpen_7 (by decide) (fun c1 => ?_) (fun c1 => ?_)
    · rw [if_pos c1] at hf
      refine lv_iload_n hx hb dX5_hasOpen_35 rfl (lv_at hl 1 rfl) ?_
      obtain ⟨hn2, hf⟩ := ks_guard hf
      exact ks_zret C (ks_nar hn2) hf hW hS dX5_hasOpen_36
    · rw [if_neg c1] at hf
      refine lv_iload_n hx hb dX5_hasOpen_10 rfl (lv_at hl 1 rfl) ?_
      refine lv_if_ne (tgt := 23) hx hb dX5_hasOpen_11 (by decide) (fun c3 => ?_) (fun c3 => ?_)
      · rw [if_neg c3] at hf
        refine lv_iconst (v := 1) hx hb dX5_hasOpen_23 (by decide) ?_
        refine lv_goto (tgt := 28) hx hb dX5_hasOpen_24 (by decide) ?_
        refine lv_istore_n (lv' := [(1, .int 1), (0, .ref (ad 14 0 0)), (2, .int x2)]) hx hb dX5_hasOpen_28 rfl hl (by decide) rfl (fun ls hl => ?_)
        refine lv_iinc (v := (x2 + 1)) (lv' := [(2, .int (x2 + 1)), (1, .int 1), (0, .ref (ad 14 0 0))]) hx hb dX5_hasOpen_29 hl (k := 2) rfl rfl (by decide) rfl (fun ls hl => ?_)
        refine lv_goto (tgt := 4) hx hb dX5_hasOpen_32 (by decide) ?_
        exact hk4 _ _ _ hf hW hS (lv_sub hl [2, 1, 0] rfl)
      · rw [if_pos c3] at hf
        refine lv_aload_n hx hb dX5_hasOpen_14 rfl (lv_at hl 0 rfl) ?_
        refine va_get (D := D) (ci := 5) (v := .ref (ad 26 0 0)) (C := RX5) (T := TX5) (N := 34) hx hb hts in_X5_hasOpen_5 hown hK (ks_P1 hW (ks_v14 (i := 0) (j := 0) (hE 14 rfl)) (ks_c14 cy ad o 0 0 _)) 0 rfl rfl 14 (by decide) (hts (.fieldLink RX5 43 "SpinKernelModel" "open" "[Z") (by decide +kernel)) (fun _ h => h) rfl dX5_hasOpen_15 ?_
        refine lv_iload_n hx hb dX5_hasOpen_18 rfl (lv_at hl 2 rfl) ?_
        obtain ⟨hi4, hf⟩ := ks_guard hf
        refine ks_zald hx hb hK hW (ks_v26 (i := 0) (j := 0) (hE 26 rfl)) (ks_c26 cy ad o 0 0 _) hi4 dX5_hasOpen_19 ?_
        refine lv_if_eq (tgt := 27) hx hb dX5_hasOpen_20 (by decide) (fun c5 => ?_) (fun c5 => ?_)
        · rw [if_pos c5] at hf
          refine lv_iconst (v := 0) hx hb dX5_hasOpen_27 (by decide) ?_
          refine lv_istore_n (lv' := [(1, .int 0), (0, .ref (ad 14 0 0)), (2, .int x2)]) hx hb dX5_hasOpen_28 rfl hl (by decide) rfl (fun ls hl => ?_)
          refine lv_iinc (v := (x2 + 1)) (lv' := [(2, .int (x2 + 1)), (1, .int 0), (0, .ref (ad 14 0 0))]) hx hb dX5_hasOpen_29 hl (k := 2) rfl rfl (by decide) rfl (fun ls hl => ?_)
          refine lv_goto (tgt := 4) hx hb dX5_hasOpen_32 (by decide) ?_
          exact hk4 _ _ _ hf hW hS (lv_sub hl [2, 1, 0] rfl)
        · rw [if_neg c5] at hf
          refine lv_iconst (v := 1) hx hb dX5_hasOpen_23 (by decide) ?_
          refine lv_goto (tgt := 28) hx hb dX5_hasOpen_24 (by decide) ?_
          refine lv_istore_n (lv' := [(1, .int 1), (0, .ref (ad 14 0 0)), (2, .int x2)]) hx hb dX5_hasOpen_28 rfl hl (by decide) rfl (fun ls hl => ?_)
          refine lv_iinc (v := (x2 + 1)) (lv' := [(2, .int (x2 + 1)), (1, .int 1), (0, .ref (ad 14 0 0))]) hx hb dX5_hasOpen_29 hl (k := 2) rfl rfl (by decide) rfl (fun ls hl => ?_)
          refine lv_goto (tgt := 4) hx hb dX5_hasOpen_32 (by decide) ?_
          exact hk4 _ _ _ hf hW hS (lv_sub hl [2, 1, 0] rfl)
set_option maxHeartbeats 4000000 in
set_option maxRecDepth 100000 in
theorem t_X5_hasOpen {p : Program} {l : Launch} {e : Env} {s : State} {m : MethodId} {args : Array Value} {below : List Frame} {meth : Method} {c : Code} {D : va_G} {cy : Nat → ClassId} {ad : ks_A} {En : Nat → Prop} {n0 : Nat → Prop} {σ0 : ks_S} {o : Int64} {N : Nat} {out : (Int32 × ks_S)} (C : ks_M p s m args meth c D cy ad En (fun k => ks_g k = 1) n0 σ0 o wsX5_hasOpen cX5_hasOpen RX5 3 (some .boolean)) {σ : ks_S}   (hf : f_X5_hasOpen N σ  = some out) {H : Heap} {locs : List Loc} {ls : Array Slot} (hW : ks_W D cy ad En σ o H) (hS : va_S (ks_F n0) s.heap H locs) (hl : lv_has ls 3 [(0, .ref (ad 14 0 0))]) : W p l e (ks_Rm 0 0 0 0) s m args below meth c H locs 0 0 (MQ below (ks_Qi D cy ad En n0 o out) args s 0 0 (ks_F n0)) (F0 m 0 ls []) := by
  obtain ⟨hx, hb, hml, hr, hown, hts, hlocks, hG, hU0, hE⟩ := id C
  have hK := hU0.2.2
  unfold f_X5_hasOpen at hf
  refine lv_iconst (v := 0) hx hb dX5_hasOpen_0 (by decide) ?_
  refine lv_istore_n (lv' := [(1, .int 0), (0, .ref (ad 14 0 0))]) hx hb dX5_hasOpen_1 rfl hl (by decide) rfl (fun ls hl => ?_)
  refine lv_iconst (v := 0) hx hb dX5_hasOpen_2 (by decide) ?_
  refine lv_istore_n (lv' := [(2, .int 0), (1, .int 0), (0, .ref (ad 14 0 0))]) hx hb dX5_hasOpen_3 rfl hl (by decide) rfl (fun ls hl => ?_)
  exact t_X5_hasOpen_4 C _ _ _ _  hf hW hS (lv_sub hl [2, 1, 0] rfl)
set_option maxHeartbeats 4000000 in
set_option maxRecDepth 100000 in
theorem m_X5_hasOpen (l : Launch) (D : va_G) (cy : Nat → ClassId) (ad : ks_A) (En : Nat → Prop) (n0 : Nat → Prop) (hG : ks_G ad En n0) (hE : ∀ k, ks_g k = 1 → En k) (o : Int64) {N : Nat} {σ : ks_S}   {out : (Int32 × ks_S)} (hf : f_X5_hasOpen N σ  = some out) : Met l yX5_hasOpen wsX5_hasOpen (ks_Rm 0 0 0 0) (va_Pc [.ref (ad 14 0 0)] (ks_U D cy ad En n0 σ o)) (ks_Qi D cy ad En n0 o out) 0 0 (ks_F n0) := by
  refine Met.ofW (cc := cX5_hasOpen) (maxL := 3) (ret := some .boolean) (by decide) rfl ?_
  intro p e s m args below meth c s₁ B hml hv
  obtain ⟨rfl, hU⟩ := hv
  have hl := lv_entry ([.ref (ad 14 0 0)]) (n := 3) (Nat.le_of_ble_eq_true rfl)
  rw [lg_entry_eq]
  generalize (lg_sl ([.ref (ad 14 0 0)]) ++ List.replicate (3 - (lg_sl ([.ref (ad 14 0 0)])).length) Slot.unset).toArray = ls at hl ⊢
  exact t_X5_hasOpen ⟨B.exec, B.bytes, hml, B.returns, findClass_of_methodNamed B.named, atoms_spec (ws := wsX5_hasOpen) B.pre, B.notSynchronized, hG, hU, hE⟩  hf hU.2.1 va_S.rf hl

/-! SpinKernelModel.seal()I -/
def f_X5_seal_21 (N : Nat) : Nat → ks_S → Int32 → Option (Int32 × ks_S)
  | 0, _, _ => none
  | n + 1, σ, x1 => (if 16 ≤ x1 then ((f_X5_forget N ((ks_up σ 14 0 0 12 1))).bind fun s10 => some ((-1), s10)) else (if ks_in x1 16 = true then (if ((σ 15 0 0 x1.toNatClampNeg)) < 0 then f_X5_seal_21 N n σ ((x1 + 1)) else ((f_X5_responseOf N σ x1).bind fun (r16, s15) => (if 0 ≤ r16 then f_X5_seal_21 N n s15 ((x1 + 1)) else some (x1, s15)))) else none))
def f_X5_seal (N : Nat) (σ : ks_S)  : Option (Int32 × ks_S) :=
  ((f_X5_refused σ ((σ 14 0 0 12)) 0 0).bind fun (r3, s2) => (if r3 = 0 then ((f_X5_findGroups N s2).bind fun s6 => f_X5_seal_21 N N s6 0) else some (0, s2)))
theorem in_X5_seal_5 : ∀ w ∈ wsX50, w ∈ wsX5_seal := by decide +kernel
set_option maxHeartbeats 4000000 in
set_option maxRecDepth 100000 in
theorem t_X5_seal_21 {p : Program} {l : Launch} {e : Env} {s : State} {m : MethodId} {args : Array Value} {below : List Frame} {meth : Method} {c : Code} {D : va_G} {cy : Nat → ClassId} {ad : ks_A} {En : Nat → Prop} {n0 : Nat → Prop} {σ0 : ks_S} {o : Int64} {N : Nat} {out : (Int32 × ks_S)} (C : ks_M p s m args meth c D cy ad En (fun k => ks_g k = 1) n0 σ0 o wsX5_seal cX5_seal RX5 2 (some .int)) : ∀ (n : Nat) (σ : ks_S) (x1 : Int32), f_X5_seal_21 N n σ x1 = some out → ∀ {H : Heap} {locs : List Loc} {ls : Array Slot}, ks_W D cy ad En σ o H → va_S (ks_F n0) s.heap H locs → lv_has ls 2 [(0, .ref (ad 14 0 0)), (1, .int x1)] → W p l e (ks_Rm 4 0 0 101) s m args below meth c H locs 0 0 (MQ below (ks_Qi D cy ad En n0 o out) args s 0 0 (ks_F n0)) (F0 m 21 ls []) := by
  obtain ⟨hx, hb, hml, hr, hown, hts, hlocks, hG, hU0, hE⟩ := id C
  have hK := hU0.2.2
  intro n
  induction n with
  | zero => intro σ x1; intro  hf; exact absurd hf (by simp [f_X5_seal_21])
  | succ n hk21 =>
    intro σ x1  hf H locs ls hW hS hl
    rw [f_X5_seal_21] at hf
    refine lv_iload_n hx hb dX5_seal_21 rfl (lv_at hl 1 rfl) ?_
    refine lv_bipush (v := 16) hx hb dX5_seal_22 (by decide) ?_
    refine lv_icmp_ge (tgt := 52) hx hb dX5_seal_24 (by decide) (fun c8 => ?_) (fun c8 => ?_)
    · rw [if_pos c8] at hf
      refine lv_aload_n hx hb dX5_seal_52 rfl (lv_at hl 0 rfl) ?_
      refine lv_iconst (v := 1) hx hb dX5_seal_53 (by decide) ?_
      refine ks_put (D := D) (ci := 5) (C := RX5) (T := TX5) (N := 34) hx hb hts in_X5_seal_5 tyX5 tyX5_ok nmX5 hown hK hG hW hS (ks_v14 (i := 0) (j := 0) (hE 14 rfl)) 12 (v := 1) (ks_c14 cy ad o 0 0 _) (ks_c14s12 cy ad o 0 0 _ _) rfl (by decide) (hts (.fieldLink RX5 116 "SpinKernelModel" "sealed" "Z") (by decide +kernel)) rfl (ty := .boolean) (by decide +kernel) rfl rfl (Nat.le_of_ble_eq_true rfl) dX5_seal_54 (fun H locs hW hS => ?_)
      refine lv_aload_n hx hb dX5_seal_57 rfl (lv_at hl 0 rfl) ?_
      obtain ⟨s10, hc9, hf⟩ := ks_bind hf
      try dsimp only at hf
      refine ks_callv (va_runV (As := []) (rest := []) ⟨hx, hb, hml, hown, hts⟩ (m_X5_forget l D cy ad En n0 hG hE o hc9) (cwV 0 hts gX5_seal_X5_forget rfl rfl rfl (by decide +kernel) ⟨(Nat.le_of_ble_eq_true rfl), (Nat.le_of_ble_eq_true rfl)⟩) ⟨ks_U.blind, ks_recv hK hW (ks_v14 (i := 0) (j := 0) (hE 14 rfl)) (ks_c14 cy ad o 0 0 _) rfl, fun U hU hWm => ⟨rfl, hU0.now hS hW hWm.alike hU⟩⟩ rfl rfl hl.1 rfl (lv_room (Nat.le_of_ble_eq_true rfl)) dX5_seal_58 ⟨(Nat.le_of_ble_eq_true rfl), (Nat.le_of_ble_eq_true rfl)⟩) hS (fun H locs hW hS => ?_)
      refine lv_iconst (v := (-1)) hx hb dX5_seal_61 (by decide) ?_
      exact ks_iret C hf hW hS dX5_seal_62
    · rw [if_neg c8] at hf
      refine lv_aload_n hx hb dX5_seal_27 rfl (lv_at hl 0 rfl) ?_
      refine va_get (D := D) (ci := 5) (v := .ref (ad 15 0 0)) (C := RX5) (T := TX5) (N := 34) hx hb hts in_X5_seal_5 hown hK (ks_P1 hW (ks_v14 (i := 0) (j := 0) (hE 14 rfl)) (ks_c14 cy ad o 0 0 _)) 0 rfl rfl 1 (by decide) (hts (.fieldLink RX5 7 "SpinKernelModel" "cores" "[I") (by decide +kernel)) (fun _ h => h) rfl dX5_seal_28 ?_
      refine lv_iload_n hx hb dX5_seal_31 rfl (lv_at hl 1 rfl) ?_
      obtain ⟨hi12, hf⟩ := ks_guard hf
      refine ks_iald hx hb hK hW (ks_v15 (i := 0) (j := 0) (hE 15 rfl)) (ks_c15 cy ad o 0 0 _) hi12 dX5_seal_32 ?_
      refine lv_if_lt (tgt := 46) hx hb dX5_seal_33 (by decide) (fun c13 => ?_) (fun c13 => ?_)
      · rw [if_pos c13] at hf
        refine lv_iinc (v := (x1 + 1)) (lv' := [(1, .int (x1 + 1)), (0, .ref (ad 14 0 0))]) hx hb dX5_seal_46 hl (k := 1) rfl rfl (by decide) rfl (fun ls hl => ?_)
        refine lv_goto (tgt := 21) hx hb dX5_seal_49 (by decide) ?_
        exact hk21 _ _ hf hW hS (lv_sub hl [1, 0] rfl)
      · rw [if_neg c13] at hf
        refine lv_aload_n hx hb dX5_seal_36 rfl (lv_at hl 0 rfl) ?_
        refine lv_iload_n hx hb dX5_seal_37 rfl (lv_at hl 1 rfl) ?_
        obtain ⟨⟨r16, s15⟩, hc14, hf⟩ := ks_bind hf
        try dsimp only at hf
        refine ks_calli (va_runV (As := [.int x1]) (rest := []) ⟨hx, hb, hml, hown, hts⟩ (m_X5_responseOf l D cy ad En n0 hG hE o hc14) (cwV 1 hts gX5_seal_X5_responseOf rfl rfl rfl (by decide +kernel) ⟨(Nat.le_of_ble_eq_true rfl), (Nat.le_of_ble_eq_true rfl)⟩) ⟨ks_U.blind, ks_recv hK hW (ks_v14 (i := 0) (j := 0) (hE 14 rfl)) (ks_c14 cy ad o 0 0 _) rfl, fun U hU hWm => ⟨rfl, hU0.now hS hW hWm.alike hU⟩⟩ rfl rfl hl.1 rfl (lv_room (Nat.le_of_ble_eq_true rfl)) dX5_seal_38 ⟨(Nat.le_of_ble_eq_true rfl), (Nat.le_of_ble_eq_true rfl)⟩) hS (fun H locs hW hS => ?_)
        refine lv_if_ge (tgt := 46) hx hb dX5_seal_41 (by decide) (fun c17 => ?_) (fun c17 => ?_)
        · rw [if_pos c17] at hf
          refine lv_iinc (v := (x1 + 1)) (lv' := [(1, .int (x1 + 1)), (0, .ref (ad 14 0 0))]) hx hb dX5_seal_46 hl (k := 1) rfl rfl (by decide) rfl (fun ls hl => ?_)
          refine lv_goto (tgt := 21) hx hb dX5_seal_49 (by decide) ?_
          exact hk21 _ _ hf hW hS (lv_sub hl [1, 0] rfl)
        · rw [if_neg c17] at hf
          refine lv_iload_n hx hb dX5_seal_44 rfl (lv_at hl 1 rfl) ?_
          exact ks_iret C hf hW hS dX5_seal_45
set_option maxHeartbeats 4000000 in
set_option maxRecDepth 100000 in
theorem t_X5_seal {p : Program} {l : Launch} {e : Env} {s : State} {m : MethodId} {args : Array Value} {below : List Frame} {meth : Method} {c : Code} {D : va_G} {cy : Nat → ClassId} {ad : ks_A} {En : Nat → Prop} {n0 : Nat → Prop} {σ0 : ks_S} {o : Int64} {N : Nat} {out : (Int32 × ks_S)} (C : ks_M p s m args meth c D cy ad En (fun k => ks_g k = 1) n0 σ0 o wsX5_seal cX5_seal RX5 2 (some .int)) {σ : ks_S}   (hf : f_X5_seal N σ  = some out) {H : Heap} {locs : List Loc} {ls : Array Slot} (hW : ks_W D cy ad En σ o H) (hS : va_S (ks_F n0) s.heap H locs) (hl : lv_has ls 2 [(0, .ref (ad 14 0 0))]) : W p l e (ks_Rm 4 0 0 101) s m args below meth c H locs 0 0 (MQ below (ks_Qi D cy ad En n0 o out) args s 0 0 (ks_F n0)) (F0 m 0 ls []) := by
  obtain ⟨hx, hb, hml, hr, hown, hts, hlocks, hG, hU0, hE⟩ := id C
  have hK := hU0.2.2
  unfold f_X5_seal at hf
  refine lv_aload_n hx hb dX5_seal_0 rfl (lv_at hl 0 rfl) ?_
  refine lv_aload_n hx hb dX5_seal_1 rfl (lv_at hl 0 rfl) ?_
  refine va_get (D := D) (ci := 5) (v := .int (σ 14 0 0 12)) (C := RX5) (T := TX5) (N := 34) hx hb hts in_X5_seal_5 hown hK (ks_P1 hW (ks_v14 (i := 0) (j := 0) (hE 14 rfl)) (ks_c14 cy ad o 0 0 _)) 0 rfl rfl 12 (by decide) (hts (.fieldLink RX5 116 "SpinKernelModel" "sealed" "Z") (by decide +kernel)) (fun _ h => h) rfl dX5_seal_2 ?_
  refine lv_iconst (v := 0) hx hb dX5_seal_5 (by decide) ?_
  refine lv_iconst (v := 0) hx hb dX5_seal_6 (by decide) ?_
  obtain ⟨⟨r3, s2⟩, hc1, hf⟩ := ks_bind hf
  try dsimp only at hf
  refine ks_calli (va_runV (As := [.int (σ 14 0 0 12), .int 0, .int 0]) (rest := []) ⟨hx, hb, hml, hown, hts⟩ (m_X5_refused l D cy ad En n0 hG hE o hc1) (cwV 3 hts gX5_seal_X5_refused rfl rfl rfl (by decide +kernel) ⟨(Nat.le_of_ble_eq_true rfl), (Nat.le_of_ble_eq_true rfl)⟩) ⟨ks_U.blind, ks_recv hK hW (ks_v14 (i := 0) (j := 0) (hE 14 rfl)) (ks_c14 cy ad o 0 0 _) rfl, fun U hU hWm => ⟨rfl, hU0.now hS hW hWm.alike hU⟩⟩ rfl rfl hl.1 rfl (lv_room (Nat.le_of_ble_eq_true rfl)) dX5_seal_7 ⟨(Nat.le_of_ble_eq_true rfl), (Nat.le_of_ble_eq_true rfl)⟩) hS (fun H locs hW hS => ?_)
  refine lv_if_eq (tgt := 15) hx hb dX5_seal_10 (by decide) (fun c4 => ?_) (fun c4 => ?_)
  · rw [if_pos c4] at hf
    refine lv_aload_n hx hb dX5_seal_15 rfl (lv_at hl 0 rfl) ?_
    obtain ⟨s6, hc5, hf⟩ := ks_bind hf
    try dsimp only at hf
    refine ks_callv (va_runV (As := []) (rest := []) ⟨hx, hb, hml, hown, hts⟩ (m_X5_findGroups l D cy ad En n0 hG hE o hc5) (cwV 0 hts gX5_seal_X5_findGroups rfl rfl rfl (by decide +kernel) ⟨(Nat.le_of_ble_eq_true rfl), (Nat.le_of_ble_eq_true rfl)⟩) ⟨ks_U.blind, ks_recv hK hW (ks_v14 (i := 0) (j := 0) (hE 14 rfl)) (ks_c14 cy ad o 0 0 _) rfl, fun U hU hWm => ⟨rfl, hU0.now hS hW hWm.alike hU⟩⟩ rfl rfl hl.1 rfl (lv_room (Nat.le_of_ble_eq_true rfl)) dX5_seal_16 ⟨(Nat.le_of_ble_eq_true rfl), (Nat.le_of_ble_eq_true rfl)⟩) hS (fun H locs hW hS => ?_)
    refine lv_iconst (v := 0) hx hb dX5_seal_19 (by decide) ?_
    refine lv_istore_n (lv' := [(1, .int 0), (0, .ref (ad 14 0 0))]) hx hb dX5_seal_20 rfl hl (by decide) rfl (fun ls hl => ?_)
    exact t_X5_seal_21 C _ _ _  hf hW hS (lv_sub hl [1, 0] rfl)
  · rw [if_neg c4] at hf
    refine lv_iconst (v := 0) hx hb dX5_seal_13 (by decide) ?_
    exact ks_iret C hf hW hS dX5_seal_14
set_option maxHeartbeats 4000000 in
set_option maxRecDepth 100000 in
theorem m_X5_seal (l : Launch) (D : va_G) (cy : Nat → ClassId) (ad : ks_A) (En : Nat → Prop) (n0 : Nat → Prop) (hG : ks_G ad En n0) (hE : ∀ k, ks_g k = 1 → En k) (o : Int64) {N : Nat} {σ : ks_S}   {out : (Int32 × ks_S)} (hf : f_X5_seal N σ  = some out) : Met l yX5_seal wsX5_seal (ks_Rm 4 0 0 101) (va_Pc [.ref (ad 14 0 0)] (ks_U D cy ad En n0 σ o)) (ks_Qi D cy ad En n0 o out) 0 0 (ks_F n0) := by
  refine Met.ofW (cc := cX5_seal) (maxL := 2) (ret := some .int) (by decide) rfl ?_
  intro p e s m args below meth c s₁ B hml hv
  obtain ⟨rfl, hU⟩ := hv
  have hl := lv_entry ([.ref (ad 14 0 0)]) (n := 2) (Nat.le_of_ble_eq_true rfl)
  rw [lg_entry_eq]
  generalize (lg_sl ([.ref (ad 14 0 0)]) ++ List.replicate (2 - (lg_sl ([.ref (ad 14 0 0)])).length) Slot.unset).toArray = ls at hl ⊢
  exact t_X5_seal ⟨B.exec, B.bytes, hml, B.returns, findClass_of_methodNamed B.named, atoms_spec (ws := wsX5_seal) B.pre, B.notSynchronized, hG, hU, hE⟩  hf hU.2.1 va_S.rf hl

/-! SpinKernelModel.unseal()V -/
def f_X5_unseal_20 (N : Nat) (σ : ks_S) (xs0 : Int32) : Option ks_S :=
  ((f_X5_refused σ xs0 0 0).bind fun (r4, s3) => (if r4 = 0 then ((f_X5_forget N ((ks_up s3 14 0 0 12 0))).bind fun s7 => some s7) else some s3))
def f_X5_unseal_15 (N : Nat) (σ : ks_S)  : Option ks_S :=
  f_X5_unseal_20 N σ 1
def f_X5_unseal (N : Nat) (σ : ks_S)  : Option ks_S :=
  (if ((σ 14 0 0 12)) = 0 then f_X5_unseal_15 N σ else ((f_X5_hasOpen N σ).bind fun (r11, s10) => (if r11 = 0 then f_X5_unseal_20 N s10 0 else f_X5_unseal_15 N s10)))
theorem in_X5_unseal_5 : ∀ w ∈ wsX50, w ∈ wsX5_unseal := by decide +kernel
set_option maxHeartbeats 4000000 in
set_option maxRecDepth 100000 in
theorem t_X5_unseal_20 {p : Program} {l : Launch} {e : Env} {s : State} {m : MethodId} {args : Array Value} {below : List Frame} {meth : Method} {c : Code} {D : va_G} {cy : Nat → ClassId} {ad : ks_A} {En : Nat → Prop} {n0 : Nat → Prop} {σ0 : ks_S} {o : Int64} {N : Nat} {out : ks_S} (C : ks_M p s m args meth c D cy ad En (fun k => ks_g k = 1) n0 σ0 o wsX5_unseal cX5_unseal RX5 1 (none)) {σ : ks_S} {xs0 : Int32}  (hf : f_X5_unseal_20 N σ xs0 = some out) {H : Heap} {locs : List Loc} {ls : Array Slot} (hW : ks_W D cy ad En σ o H) (hS : va_S (ks_F n0) s.heap H locs) (hl : lv_has ls 1 [(0, .ref (ad 14 0 0))]) : W p l e (ks_Rm 1 0 0 23) s m args below meth c H locs 0 0 (MQ below (ks_Qv D cy ad En n0 o out) args s 0 0 (ks_F n0)) (F0 m 20 ls [.int xs0, .ref (ad 14 0 0)]) := by
  obtain ⟨hx, hb, hml, hr, hown, hts, hlocks, hG, hU0, hE⟩ := id C
  have hK := hU0.2.2
  unfold f_X5_unseal_20 at hf
  refine lv_iconst (v := 0) hx hb dX5_unseal_20 (by decide) ?_
  refine lv_iconst (v := 0) hx hb dX5_unseal_21 (by decide) ?_
  obtain ⟨⟨r4, s3⟩, hc2, hf⟩ := ks_bind hf
  try dsimp only at hf
  refine ks_calli (va_runV (As := [.int xs0, .int 0, .int 0]) (rest := []) ⟨hx, hb, hml, hown, hts⟩ (m_X5_refused l D cy ad En n0 hG hE o hc2) (cwV 3 hts gX5_unseal_X5_refused rfl rfl rfl (by decide +kernel) ⟨(Nat.le_of_ble_eq_true rfl), (Nat.le_of_ble_eq_true rfl)⟩) ⟨ks_U.blind, ks_recv hK hW (ks_v14 (i := 0) (j := 0) (hE 14 rfl)) (ks_c14 cy ad o 0 0 _) rfl, fun U hU hWm => ⟨rfl, hU0.now hS hW hWm.alike hU⟩⟩ rfl rfl hl.1 rfl (lv_room (Nat.le_of_ble_eq_true rfl)) dX5_unseal_22 ⟨(Nat.le_of_ble_eq_true rfl), (Nat.le_of_ble_eq_true rfl)⟩) hS (fun H locs hW hS => ?_)
  refine lv_if_ne (tgt := 37) hx hb dX5_unseal_25 (by decide) (fun c5 => ?_) (fun c5 => ?_)
  · rw [if_neg c5] at hf
    exact ks_vret C hf hW hS dX5_unseal_37
  · rw [if_pos c5] at hf
    refine lv_aload_n hx hb dX5_unseal_28 rfl (lv_at hl 0 rfl) ?_
    refine lv_iconst (v := 0) hx hb dX5_unseal_29 (by decide) ?_
    refine ks_put (D := D) (ci := 5) (C := RX5) (T := TX5) (N := 34) hx hb hts in_X5_unseal_5 tyX5 tyX5_ok nmX5 hown hK hG hW hS (ks_v14 (i := 0) (j := 0) (hE 14 rfl)) 12 (v := 0) (ks_c14 cy ad o 0 0 _) (ks_c14s12 cy ad o 0 0 _ _) rfl (by decide) (hts (.fieldLink RX5 116 "SpinKernelModel" "sealed" "Z") (by decide +kernel)) rfl (ty := .boolean) (by decide +kernel) rfl rfl (Nat.le_of_ble_eq_true rfl) dX5_unseal_30 (fun H locs hW hS => ?_)
    refine lv_aload_n hx hb dX5_unseal_33 rfl (lv_at hl 0 rfl) ?_
    obtain ⟨s7, hc6, hf⟩ := ks_bind hf
    try dsimp only at hf
    refine ks_callv (va_runV (As := []) (rest := []) ⟨hx, hb, hml, hown, hts⟩ (m_X5_forget l D cy ad En n0 hG hE o hc6) (cwV 0 hts gX5_unseal_X5_forget rfl rfl rfl (by decide +kernel) ⟨(Nat.le_of_ble_eq_true rfl), (Nat.le_of_ble_eq_true rfl)⟩) ⟨ks_U.blind, ks_recv hK hW (ks_v14 (i := 0) (j := 0) (hE 14 rfl)) (ks_c14 cy ad o 0 0 _) rfl, fun U hU hWm => ⟨rfl, hU0.now hS hW hWm.alike hU⟩⟩ rfl rfl hl.1 rfl (lv_room (Nat.le_of_ble_eq_true rfl)) dX5_unseal_34 ⟨(Nat.le_of_ble_eq_true rfl), (Nat.le_of_ble_eq_true rfl)⟩) hS (fun H locs hW hS => ?_)
    exact ks_vret C hf hW hS dX5_unseal_37
set_option maxHeartbeats 4000000 in
set_option maxRecDepth 100000 in
theorem t_X5_unseal_15 {p : Program} {l : Launch} {e : Env} {s : State} {m : MethodId} {args : Array Value} {below : List Frame} {meth : Method} {c : Code} {D : va_G} {cy : Nat → ClassId} {ad : ks_A} {En : Nat → Prop} {n0 : Nat → Prop} {σ0 : ks_S} {o : Int64} {N : Nat} {out : ks_S} (C : ks_M p s m args meth c D cy ad En (fun k => ks_g k = 1) n0 σ0 o wsX5_unseal cX5_unseal RX5 1 (none)) {σ : ks_S}   (hf : f_X5_unseal_15 N σ  = some out) {H : Heap} {locs : List Loc} {ls : Array Slot} (hW : ks_W D cy ad En σ o H) (hS : va_S (ks_F n0) s.heap H locs) (hl : lv_has ls 1 [(0, .ref (ad 14 0 0))]) : W p l e (ks_Rm 1 0 0 23) s m args below meth c H locs 0 0 (MQ below (ks_Qv D cy ad En n0 o out) args s 0 0 (ks_F n0)) (F0 m 15 ls [.ref (ad 14 0 0)]) := by
  obtain ⟨hx, hb, hml, hr, hown, hts, hlocks, hG, hU0, hE⟩ := id C
  have hK := hU0.2.2
  unfold f_X5_unseal_15 at hf
  refine lv_iconst (v := 1) hx hb dX5_unseal_15 (by decide) ?_
  refine lv_goto (tgt := 20) hx hb dX5_unseal_16 (by decide) ?_
  exact t_X5_unseal_20 C  hf hW hS (lv_sub hl [0] rfl)
set_option maxHeartbeats 4000000 in
set_option maxRecDepth 100000 in
theorem t_X5_unseal {p : Program} {l : Launch} {e : Env} {s : State} {m : MethodId} {args : Array Value} {below : List Frame} {meth : Method} {c : Code} {D : va_G} {cy : Nat → ClassId} {ad : ks_A} {En : Nat → Prop} {n0 : Nat → Prop} {σ0 : ks_S} {o : Int64} {N : Nat} {out : ks_S} (C : ks_M p s m args meth c D cy ad En (fun k => ks_g k = 1) n0 σ0 o wsX5_unseal cX5_unseal RX5 1 (none)) {σ : ks_S}   (hf : f_X5_unseal N σ  = some out) {H : Heap} {locs : List Loc} {ls : Array Slot} (hW : ks_W D cy ad En σ o H) (hS : va_S (ks_F n0) s.heap H locs) (hl : lv_has ls 1 [(0, .ref (ad 14 0 0))]) : W p l e (ks_Rm 1 0 0 23) s m args below meth c H locs 0 0 (MQ below (ks_Qv D cy ad En n0 o out) args s 0 0 (ks_F n0)) (F0 m 0 ls []) := by
  obtain ⟨hx, hb, hml, hr, hown, hts, hlocks, hG, hU0, hE⟩ := id C
  have hK := hU0.2.2
  unfold f_X5_unseal at hf
  refine lv_aload_n hx hb dX5_unseal_0 rfl (lv_at hl 0 rfl) ?_
  refine lv_aload_n hx hb dX5_unseal_1 rfl (lv_at hl 0 rfl) ?_
  refine va_get (D := D) (ci := 5) (v := .int (σ 14 0 0 12)) (C := RX5) (T := TX5) (N := 34) hx hb hts in_X5_unseal_5 hown hK (ks_P1 hW (ks_v14 (i := 0) (j := 0) (hE 14 rfl)) (ks_c14 cy ad o 0 0 _)) 0 rfl rfl 12 (by decide) (hts (.fieldLink RX5 116 "SpinKernelModel" "sealed" "Z") (by decide +kernel)) (fun _ h => h) rfl dX5_unseal_2 ?_
  refine lv_if_eq (tgt := 15) hx hb dX5_unseal_5 (by decide) (fun c1 => ?_) (fun c1 => ?_)
  · rw [if_pos c1] at hf
    exact t_X5_unseal_15 C  hf hW hS (lv_sub hl [0] rfl)
  · rw [if_neg c1] at hf
    refine lv_aload_n hx hb dX5_unseal_8 rfl (lv_at hl 0 rfl) ?_
    obtain ⟨⟨r11, s10⟩, hc9, hf⟩ := ks_bind hf
    try dsimp only at hf
    refine ks_calli (va_runV (As := []) (rest := [.ref (ad 14 0 0)]) ⟨hx, hb, hml, hown, hts⟩ (m_X5_hasOpen l D cy ad En n0 hG hE o hc9) (cwV 0 hts gX5_unseal_X5_hasOpen rfl rfl rfl (by decide +kernel) ⟨(Nat.le_of_ble_eq_true rfl), (Nat.le_of_ble_eq_true rfl)⟩) ⟨ks_U.blind, ks_recv hK hW (ks_v14 (i := 0) (j := 0) (hE 14 rfl)) (ks_c14 cy ad o 0 0 _) rfl, fun U hU hWm => ⟨rfl, hU0.now hS hW hWm.alike hU⟩⟩ rfl rfl hl.1 rfl (lv_room (Nat.le_of_ble_eq_true rfl)) dX5_unseal_9 ⟨(Nat.le_of_ble_eq_true rfl), (Nat.le_of_ble_eq_true rfl)⟩) hS (fun H locs hW hS => ?_)
    refine lv_if_eq (tgt := 19) hx hb dX5_unseal_12 (by decide) (fun c12 => ?_) (fun c12 => ?_)
    · rw [if_pos c12] at hf
      refine lv_iconst (v := 0) hx hb dX5_unseal_19 (by decide) ?_
      exact t_X5_unseal_20 C  hf hW hS (lv_sub hl [0] rfl)
    · rw [if_neg c12] at hf
      exact t_X5_unseal_15 C  hf hW hS (lv_sub hl [0] rfl)
set_option maxHeartbeats 4000000 in
set_option maxRecDepth 100000 in
theorem m_X5_unseal (l : Launch) (D : va_G) (cy : Nat → ClassId) (ad : ks_A) (En : Nat → Prop) (n0 : Nat → Prop) (hG : ks_G ad En n0) (hE : ∀ k, ks_g k = 1 → En k) (o : Int64) {N : Nat} {σ : ks_S}   {out : ks_S} (hf : f_X5_unseal N σ  = some out) : Met l yX5_unseal wsX5_unseal (ks_Rm 1 0 0 23) (va_Pc [.ref (ad 14 0 0)] (ks_U D cy ad En n0 σ o)) (ks_Qv D cy ad En n0 o out) 0 0 (ks_F n0) := by
  refine Met.ofW (cc := cX5_unseal) (maxL := 1) (ret := none) (by decide) rfl ?_
  intro p e s m args below meth c s₁ B hml hv
  obtain ⟨rfl, hU⟩ := hv
  have hl := lv_entry ([.ref (ad 14 0 0)]) (n := 1) (Nat.le_of_ble_eq_true rfl)
  rw [lg_entry_eq]
  generalize (lg_sl ([.ref (ad 14 0 0)]) ++ List.replicate (1 - (lg_sl ([.ref (ad 14 0 0)])).length) Slot.unset).toArray = ls at hl ⊢
  exact t_X5_unseal ⟨B.exec, B.bytes, hml, B.returns, findClass_of_methodNamed B.named, atoms_spec (ws := wsX5_unseal) B.pre, B.notSynchronized, hG, hU, hE⟩  hf hU.2.1 va_S.rf hl

/-! SpinKernelModel.goToNext(I)V -/
def f_X5_goToNext_9 (N : Nat) : Nat → ks_S → Int32 → Int32 → Option ks_S
  | 0, _, _, _ => none
  | n + 1, σ, x1, x2 => (if ks_in x1 16 = true then (if ((σ 20 0 0 x1.toNatClampNeg)) ≤ x2 then (if ks_in x1 16 = true then some ((ks_up σ 30 0 0 x1.toNatClampNeg x2)) else none) else ((f_X5_isOuter σ x1 x2).bind fun (r7, s6) => (if r7 = 0 then f_X5_goToNext_9 N n s6 x1 ((x2 + 1)) else (if ks_in x1 16 = true then some ((ks_up s6 30 0 0 x1.toNatClampNeg x2)) else none)))) else none)
def f_X5_goToNext (N : Nat) (σ : ks_S) (x1 : Int32) : Option ks_S :=
  (if ks_in x1 16 = true then f_X5_goToNext_9 N N σ x1 ((((σ 30 0 0 x1.toNatClampNeg)) + 1)) else none)
theorem in_X5_goToNext_5 : ∀ w ∈ wsX50, w ∈ wsX5_goToNext := by decide +kernel
set_option maxHeartbeats 4000000 in
set_option maxRecDepth 100000 in
theorem t_X5_goToNext_9 {p : Program} {l : Launch} {e : Env} {s : State} {m : MethodId} {args : Array Value} {below : List Frame} {meth : Method} {c : Code} {D : va_G} {cy : Nat → ClassId} {ad : ks_A} {En : Nat → Prop} {n0 : Nat → Prop} {σ0 : ks_S} {o : Int64} {N : Nat} {out : ks_S} (C : ks_M p s m args meth c D cy ad En (fun k => ks_g k = 1) n0 σ0 o wsX5_goToNext cX5_goToNext RX5 3 (none)) : ∀ (n : Nat) (σ : ks_S) (x1 : Int32) (x2 : Int32), f_X5_goToNext_9 N n σ x1 x2 = some out → ∀ {H : Heap} {locs : List Loc} {ls : Array Slot}, ks_W D cy ad En σ o H → va_S (ks_F n0) s.heap H locs → lv_has ls 3 [(0, .ref (ad 14 0 0)), (1, .int x1), (2, .int x2)] → W p l e (ks_Rm 1 0 0 22) s m args below meth c H locs 0 0 (MQ below (ks_Qv D cy ad En n0 o out) args s 0 0 (ks_F n0)) (F0 m 9 ls []) := by
  obtain ⟨hx, hb, hml, hr, hown, hts, hlocks, hG, hU0, hE⟩ := id C
  have hK := hU0.2.2
  intro n
  induction n with
  | zero => intro σ x1 x2; intro  hf; exact absurd hf (by simp [f_X5_goToNext_9])
  | succ n hk9 =>
    intro σ x1 x2  hf H locs ls hW hS hl
    rw [f_X5_goToNext_9] at hf
    refine lv_iload_n hx hb dX5_goToNext_9 rfl (lv_at hl 2 rfl) ?_
    refine lv_aload_n hx hb dX5_goToNext_10 rfl (lv_at hl 0 rfl) ?_
    refine va_get (D := D) (ci := 5) (v := .ref (ad 20 0 0)) (C := RX5) (T := TX5) (N := 34) hx hb hts in_X5_goToNext_5 hown hK (ks_P1 hW (ks_v14 (i := 0) (j := 0) (hE 14 rfl)) (ks_c14 cy ad o 0 0 _)) 0 rfl rfl 6 (by decide) (hts (.fieldLink RX5 25 "SpinKernelModel" "counts" "[I") (by decide +kernel)) (fun _ h => h) rfl dX5_goToNext_11 ?_
    refine lv_iload_n hx hb dX5_goToNext_14 rfl (lv_at hl 1 rfl) ?_
    obtain ⟨hi2, hf⟩ := ks_guard hf
    refine ks_iald hx hb hK hW (ks_v20 (i := 0) (j := 0) (hE 20 rfl)) (ks_c20 cy ad o 0 0 _) hi2 dX5_goToNext_15 ?_
    refine lv_icmp_ge (tgt := 34) hx hb dX5_goToNext_16 (by decide) (fun c3 => ?_) (fun c3 => ?_)
    · rw [if_pos c3] at hf
      refine lv_aload_n hx hb dX5_goToNext_34 rfl (lv_at hl 0 rfl) ?_
      refine va_get (D := D) (ci := 5) (v := .ref (ad 30 0 0)) (C := RX5) (T := TX5) (N := 34) hx hb hts in_X5_goToNext_5 hown hK (ks_P1 hW (ks_v14 (i := 0) (j := 0) (hE 14 rfl)) (ks_c14 cy ad o 0 0 _)) 0 rfl rfl 18 (by decide) (hts (.fieldLink RX5 56 "SpinKernelModel" "nexts" "[I") (by decide +kernel)) (fun _ h => h) rfl dX5_goToNext_35 ?_
      refine lv_iload_n hx hb dX5_goToNext_38 rfl (lv_at hl 1 rfl) ?_
      refine lv_iload_n hx hb dX5_goToNext_39 rfl (lv_at hl 2 rfl) ?_
      obtain ⟨hi4, hf⟩ := ks_guard hf
      refine ks_iast hx hb hK hG hW hS (ks_v30 (i := 0) (j := 0) (hE 30 rfl)) (fun c => ks_c30 cy ad o 0 0 c) hi4 dX5_goToNext_40 (fun H locs hW hS => ?_)
      exact ks_vret C hf hW hS dX5_goToNext_41
    · rw [if_neg c3] at hf
      refine lv_aload_n hx hb dX5_goToNext_19 rfl (lv_at hl 0 rfl) ?_
      refine lv_iload_n hx hb dX5_goToNext_20 rfl (lv_at hl 1 rfl) ?_
      refine lv_iload_n hx hb dX5_goToNext_21 rfl (lv_at hl 2 rfl) ?_
      obtain ⟨⟨r7, s6⟩, hc5, hf⟩ := ks_bind hf
      try dsimp only at hf
      refine ks_calli (va_runV (As := [.int x1, .int x2]) (rest := []) ⟨hx, hb, hml, hown, hts⟩ (m_X5_isOuter l D cy ad En n0 hG hE o hc5) (cwV 2 hts gX5_goToNext_X5_isOuter rfl rfl rfl (by decide +kernel) ⟨(Nat.le_of_ble_eq_true rfl), (Nat.le_of_ble_eq_true rfl)⟩) ⟨ks_U.blind, ks_recv hK hW (ks_v14 (i := 0) (j := 0) (hE 14 rfl)) (ks_c14 cy ad o 0 0 _) rfl, fun U hU hWm => ⟨rfl, hU0.now hS hW hWm.alike hU⟩⟩ rfl rfl hl.1 rfl (lv_room (Nat.le_of_ble_eq_true rfl)) dX5_goToNext_22 ⟨(Nat.le_of_ble_eq_true rfl), (Nat.le_of_ble_eq_true rfl)⟩) hS (fun H locs hW hS => ?_)
      refine lv_if_ne (tgt := 34) hx hb dX5_goToNext_25 (by decide) (fun c8 => ?_) (fun c8 => ?_)
      · rw [if_neg c8] at hf
        refine lv_aload_n hx hb dX5_goToNext_34 rfl (lv_at hl 0 rfl) ?_
        refine va_get (D := D) (ci := 5) (v := .ref (ad 30 0 0)) (C := RX5) (T := TX5) (N := 34) hx hb hts in_X5_goToNext_5 hown hK (ks_P1 hW (ks_v14 (i := 0) (j := 0) (hE 14 rfl)) (ks_c14 cy ad o 0 0 _)) 0 rfl rfl 18 (by decide) (hts (.fieldLink RX5 56 "SpinKernelModel" "nexts" "[I") (by decide +kernel)) (fun _ h => h) rfl dX5_goToNext_35 ?_
        refine lv_iload_n hx hb dX5_goToNext_38 rfl (lv_at hl 1 rfl) ?_
        refine lv_iload_n hx hb dX5_goToNext_39 rfl (lv_at hl 2 rfl) ?_
        obtain ⟨hi9, hf⟩ := ks_guard hf
        refine ks_iast hx hb hK hG hW hS (ks_v30 (i := 0) (j := 0) (hE 30 rfl)) (fun c => ks_c30 cy ad o 0 0 c) hi9 dX5_goToNext_40 (fun H locs hW hS => ?_)
        exact ks_vret C hf hW hS dX5_goToNext_41
      · rw [if_pos c8] at hf
        refine lv_iinc (v := (x2 + 1)) (lv' := [(2, .int (x2 + 1)), (0, .ref (ad 14 0 0)), (1, .int x1)]) hx hb dX5_goToNext_28 hl (k := 2) rfl rfl (by decide) rfl (fun ls hl => ?_)
        refine lv_goto (tgt := 9) hx hb dX5_goToNext_31 (by decide) ?_
        exact hk9 _ _ _ hf hW hS (lv_sub hl [1, 2, 0] rfl)
set_option maxHeartbeats 4000000 in
set_option maxRecDepth 100000 in
theorem t_X5_goToNext {p : Program} {l : Launch} {e : Env} {s : State} {m : MethodId} {args : Array Value} {below : List Frame} {meth : Method} {c : Code} {D : va_G} {cy : Nat → ClassId} {ad : ks_A} {En : Nat → Prop} {n0 : Nat → Prop} {σ0 : ks_S} {o : Int64} {N : Nat} {out : ks_S} (C : ks_M p s m args meth c D cy ad En (fun k => ks_g k = 1) n0 σ0 o wsX5_goToNext cX5_goToNext RX5 3 (none)) {σ : ks_S} {x1 : Int32}  (hf : f_X5_goToNext N σ x1 = some out) {H : Heap} {locs : List Loc} {ls : Array Slot} (hW : ks_W D cy ad En σ o H) (hS : va_S (ks_F n0) s.heap H locs) (hl : lv_has ls 3 [(0, .ref (ad 14 0 0)), (1, .int x1)]) : W p l e (ks_Rm 1 0 0 22) s m args below meth c H locs 0 0 (MQ below (ks_Qv D cy ad En n0 o out) args s 0 0 (ks_F n0)) (F0 m 0 ls []) := by
  obtain ⟨hx, hb, hml, hr, hown, hts, hlocks, hG, hU0, hE⟩ := id C
  have hK := hU0.2.2
  unfold f_X5_goToNext at hf
  refine lv_aload_n hx hb dX5_goToNext_0 rfl (lv_at hl 0 rfl) ?_
  refine va_get (D := D) (ci := 5) (v := .ref (ad 30 0 0)) (C := RX5) (T := TX5) (N := 34) hx hb hts in_X5_goToNext_5 hown hK (ks_P1 hW (ks_v14 (i := 0) (j := 0) (hE 14 rfl)) (ks_c14 cy ad o 0 0 _)) 0 rfl rfl 18 (by decide) (hts (.fieldLink RX5 56 "SpinKernelModel" "nexts" "[I") (by decide +kernel)) (fun _ h => h) rfl dX5_goToNext_1 ?_
  refine lv_iload_n hx hb dX5_goToNext_4 rfl (lv_at hl 1 rfl) ?_
  obtain ⟨hi1, hf⟩ := ks_guard hf
  refine ks_iald hx hb hK hW (ks_v30 (i := 0) (j := 0) (hE 30 rfl)) (ks_c30 cy ad o 0 0 _) hi1 dX5_goToNext_5 ?_
  refine lv_iconst (v := 1) hx hb dX5_goToNext_6 (by decide) ?_
  refine lv_iadd hx hb dX5_goToNext_7 ?_
  refine lv_istore_n (lv' := [(2, .int (((σ 30 0 0 x1.toNatClampNeg)) + 1)), (0, .ref (ad 14 0 0)), (1, .int x1)]) hx hb dX5_goToNext_8 rfl hl (by decide) rfl (fun ls hl => ?_)
  exact t_X5_goToNext_9 C _ _ _ _  hf hW hS (lv_sub hl [1, 2, 0] rfl)
set_option maxHeartbeats 4000000 in
set_option maxRecDepth 100000 in
theorem m_X5_goToNext (l : Launch) (D : va_G) (cy : Nat → ClassId) (ad : ks_A) (En : Nat → Prop) (n0 : Nat → Prop) (hG : ks_G ad En n0) (hE : ∀ k, ks_g k = 1 → En k) (o : Int64) {N : Nat} {σ : ks_S} {x1 : Int32}  {out : ks_S} (hf : f_X5_goToNext N σ x1 = some out) : Met l yX5_goToNext wsX5_goToNext (ks_Rm 1 0 0 22) (va_Pc [.ref (ad 14 0 0), .int x1] (ks_U D cy ad En n0 σ o)) (ks_Qv D cy ad En n0 o out) 0 0 (ks_F n0) := by
  refine Met.ofW (cc := cX5_goToNext) (maxL := 3) (ret := none) (by decide) rfl ?_
  intro p e s m args below meth c s₁ B hml hv
  obtain ⟨rfl, hU⟩ := hv
  have hl := lv_entry ([.ref (ad 14 0 0), .int x1]) (n := 3) (Nat.le_of_ble_eq_true rfl)
  rw [lg_entry_eq]
  generalize (lg_sl ([.ref (ad 14 0 0), .int x1]) ++ List.replicate (3 - (lg_sl ([.ref (ad 14 0 0), .int x1])).length) Slot.unset).toArray = ls at hl ⊢
  exact t_X5_goToNext ⟨B.exec, B.bytes, hml, B.returns, findClass_of_methodNamed B.named, atoms_spec (ws := wsX5_goToNext) B.pre, B.notSynchronized, hG, hU, hE⟩  hf hU.2.1 va_S.rf hl

/-! SpinKernelModel.arrive(I)Z -/
def f_X5_arrive_111 (N : Nat) : Nat → ks_S → Int32 → Int32 → Option (Int32 × ks_S)
  | 0, _, _, _ => none
  | n + 1, σ, x1, x2 => (if ks_in x1 16 = true then (if ((σ 20 0 0 x1.toNatClampNeg)) ≤ x2 then some (1, σ) else (if ks_in ((((6 * x1)) + x2)) 96 = true then (if ks_in ((((6 * x1)) + x2)) 96 = true then (if ks_in ((((6 * x1)) + x2)) 96 = true then (if ks_in ((((6 * x1)) + x2)) 96 = true then f_X5_arrive_111 N n ((ks_up (ks_up σ 33 0 0 ((((6 * x1)) + x2)).toNatClampNeg ((σ 34 0 0 ((((6 * x1)) + x2)).toNatClampNeg))) 34 0 0 ((((6 * x1)) + x2)).toNatClampNeg ((((ks_up σ 33 0 0 ((((6 * x1)) + x2)).toNatClampNeg ((σ 34 0 0 ((((6 * x1)) + x2)).toNatClampNeg)))) 23 0 0 ((((6 * x1)) + x2)).toNatClampNeg)))) x1 ((x2 + 1)) else none) else none) else none) else none)) else none)
def f_X5_arrive_66 (N : Nat) (σ : ks_S) (x1 : Int32) : Option (Int32 × ks_S) :=
  (if ks_in x1 16 = true then (if ks_in x1 16 = true then (if ks_in x1 16 = true then (if ks_in x1 16 = true then (if ks_in x1 16 = true then ((f_X5_goToNext N ((ks_up (ks_up (ks_up (ks_up (ks_up σ 27 0 0 x1.toNatClampNeg 1) 26 0 0 x1.toNatClampNeg 1) 28 0 0 x1.toNatClampNeg ((((ks_up (ks_up σ 27 0 0 x1.toNatClampNeg 1) 26 0 0 x1.toNatClampNeg 1)) 14 0 0 13))) 29 0 0 x1.toNatClampNeg 0) 30 0 0 x1.toNatClampNeg ((-1)))) x1).bind fun s18 => f_X5_arrive_111 N N s18 x1 0) else none) else none) else none) else none) else none)
def f_X5_arrive_26 (N : Nat) (σ : ks_S) (x1 : Int32) (xs0 : Int32) (xs1 : Int32) : Option (Int32 × ks_S) :=
  ((f_X5_refused σ xs1 xs0 0).bind fun (r8, s7) => (if r8 = 0 then (if ks_in x1 16 = true then (if ((s7 27 0 0 x1.toNatClampNeg)) = 0 then f_X5_arrive_66 N s7 x1 else (if ks_in x1 16 = true then (if ks_in x1 16 = true then (if ((s7 17 0 0 x1.toNatClampNeg)) ≤ ((((s7 14 0 0 13)) - ((s7 28 0 0 x1.toNatClampNeg)))) then f_X5_arrive_66 N s7 x1 else some (0, s7)) else none) else none)) else none) else some (0, s7)))
def f_X5_arrive_14 (N : Nat) (σ : ks_S) (x1 : Int32) (xs0 : Int32) : Option (Int32 × ks_S) :=
  (if ((σ 14 0 0 12)) = 0 then f_X5_arrive_26 N σ x1 1 xs0 else f_X5_arrive_26 N σ x1 0 xs0)
def f_X5_arrive (N : Nat) (σ : ks_S) (x1 : Int32) : Option (Int32 × ks_S) :=
  ((f_X5_isTask σ x1).bind fun (r3, s2) => (if r3 = 0 then f_X5_arrive_14 N s2 x1 1 else f_X5_arrive_14 N s2 x1 0))
theorem in_X5_arrive_5 : ∀ w ∈ wsX50, w ∈ wsX5_arrive := by decide +kernel
set_option maxHeartbeats 4000000 in
set_option maxRecDepth 100000 in
theorem t_X5_arrive_111 {p : Program} {l : Launch} {e : Env} {s : State} {m : MethodId} {args : Array Value} {below : List Frame} {meth : Method} {c : Code} {D : va_G} {cy : Nat → ClassId} {ad : ks_A} {En : Nat → Prop} {n0 : Nat → Prop} {σ0 : ks_S} {o : Int64} {N : Nat} {out : (Int32 × ks_S)} (C : ks_M p s m args meth c D cy ad En (fun k => ks_g k = 1) n0 σ0 o wsX5_arrive cX5_arrive RX5 3 (some .boolean)) : ∀ (n : Nat) (σ : ks_S) (x1 : Int32) (x2 : Int32), f_X5_arrive_111 N n σ x1 x2 = some out → ∀ {H : Heap} {locs : List Loc} {ls : Array Slot}, ks_W D cy ad En σ o H → va_S (ks_F n0) s.heap H locs → lv_has ls 3 [(0, .ref (ad 14 0 0)), (1, .int x1), (2, .int x2)] → W p l e (ks_Rm 2 0 0 44) s m args below meth c H locs 0 0 (MQ below (ks_Qi D cy ad En n0 o out) args s 0 0 (ks_F n0)) (F0 m 111 ls []) := by
  obtain ⟨hx, hb, hml, hr, hown, hts, hlocks, hG, hU0, hE⟩ := id C
  have hK := hU0.2.2
  intro n
  induction n with
  | zero => intro σ x1 x2; intro  hf; exact absurd hf (by simp [f_X5_arrive_111])
  | succ n hk111 =>
    intro σ x1 x2  hf H locs ls hW hS hl
    rw [f_X5_arrive_111] at hf
    refine lv_iload_n hx hb dX5_arrive_111 rfl (lv_at hl 2 rfl) ?_
    refine lv_aload_n hx hb dX5_arrive_112 rfl (lv_at hl 0 rfl) ?_
    refine va_get (D := D) (ci := 5) (v := .ref (ad 20 0 0)) (C := RX5) (T := TX5) (N := 34) hx hb hts in_X5_arrive_5 hown hK (ks_P1 hW (ks_v14 (i := 0) (j := 0) (hE 14 rfl)) (ks_c14 cy ad o 0 0 _)) 0 rfl rfl 6 (by decide) (hts (.fieldLink RX5 25 "SpinKernelModel" "counts" "[I") (by decide +kernel)) (fun _ h => h) rfl dX5_arrive_113 ?_
    refine lv_iload_n hx hb dX5_arrive_116 rfl (lv_at hl 1 rfl) ?_
    obtain ⟨hi20, hf⟩ := ks_guard hf
    refine ks_iald hx hb hK hW (ks_v20 (i := 0) (j := 0) (hE 20 rfl)) (ks_c20 cy ad o 0 0 _) hi20 dX5_arrive_117 ?_
    refine lv_icmp_ge (tgt := 171) hx hb dX5_arrive_118 (by decide) (fun c21 => ?_) (fun c21 => ?_)
    · rw [if_pos c21] at hf
      refine lv_iconst (v := 1) hx hb dX5_arrive_171 (by decide) ?_
      exact ks_zret C rfl hf hW hS dX5_arrive_172
    · rw [if_neg c21] at hf
      refine lv_aload_n hx hb dX5_arrive_121 rfl (lv_at hl 0 rfl) ?_
      refine va_get (D := D) (ci := 5) (v := .ref (ad 33 0 0)) (C := RX5) (T := TX5) (N := 34) hx hb hts in_X5_arrive_5 hown hK (ks_P1 hW (ks_v14 (i := 0) (j := 0) (hE 14 rfl)) (ks_c14 cy ad o 0 0 _)) 0 rfl rfl 21 (by decide) (hts (.fieldLink RX5 65 "SpinKernelModel" "mine" "[I") (by decide +kernel)) (fun _ h => h) rfl dX5_arrive_122 ?_
      refine lv_bipush (v := 6) hx hb dX5_arrive_125 (by decide) ?_
      refine lv_iload_n hx hb dX5_arrive_127 rfl (lv_at hl 1 rfl) ?_
      refine lv_imul hx hb dX5_arrive_128 ?_
      refine lv_iload_n hx hb dX5_arrive_129 rfl (lv_at hl 2 rfl) ?_
      refine lv_iadd hx hb dX5_arrive_130 ?_
      refine lv_aload_n hx hb dX5_arrive_131 rfl (lv_at hl 0 rfl) ?_
      refine va_get (D := D) (ci := 5) (v := .ref (ad 34 0 0)) (C := RX5) (T := TX5) (N := 34) hx hb hts in_X5_arrive_5 hown hK (ks_P1 hW (ks_v14 (i := 0) (j := 0) (hE 14 rfl)) (ks_c14 cy ad o 0 0 _)) 0 rfl rfl 22 (by decide) (hts (.fieldLink RX5 68 "SpinKernelModel" "coming" "[I") (by decide +kernel)) (fun _ h => h) rfl dX5_arrive_132 ?_
      refine lv_bipush (v := 6) hx hb dX5_arrive_135 (by decide) ?_
      refine lv_iload_n hx hb dX5_arrive_137 rfl (lv_at hl 1 rfl) ?_
      refine lv_imul hx hb dX5_arrive_138 ?_
      refine lv_iload_n hx hb dX5_arrive_139 rfl (lv_at hl 2 rfl) ?_
      refine lv_iadd hx hb dX5_arrive_140 ?_
      obtain ⟨hi22, hf⟩ := ks_guard hf
      refine ks_iald hx hb hK hW (ks_v34 (i := 0) (j := 0) (hE 34 rfl)) (ks_c34 cy ad o 0 0 _) hi22 dX5_arrive_141 ?_
      obtain ⟨hi23, hf⟩ := ks_guard hf
      refine ks_iast hx hb hK hG hW hS (ks_v33 (i := 0) (j := 0) (hE 33 rfl)) (fun c => ks_c33 cy ad o 0 0 c) hi23 dX5_arrive_142 (fun H locs hW hS => ?_)
      refine lv_aload_n hx hb dX5_arrive_143 rfl (lv_at hl 0 rfl) ?_
      refine va_get (D := D) (ci := 5) (v := .ref (ad 34 0 0)) (C := RX5) (T := TX5) (N := 34) hx hb hts in_X5_arrive_5 hown hK (ks_P1 hW (ks_v14 (i := 0) (j := 0) (hE 14 rfl)) (ks_c14 cy ad o 0 0 _)) 0 rfl rfl 22 (by decide) (hts (.fieldLink RX5 68 "SpinKernelModel" "coming" "[I") (by decide +kernel)) (fun _ h => h) rfl dX5_arrive_144 ?_
      refine lv_bipush (v := 6) hx hb dX5_arrive_147 (by decide) ?_
      refine lv_iload_n hx hb dX5_arrive_149 rfl (lv_at hl 1 rfl) ?_
      refine lv_imul hx hb dX5_arrive_150 ?_
      refine lv_iload_n hx hb dX5_arrive_151 rfl (lv_at hl 2 rfl) ?_
      refine lv_iadd hx hb dX5_arrive_152 ?_
      refine lv_aload_n hx hb dX5_arrive_153 rfl (lv_at hl 0 rfl) ?_
      refine va_get (D := D) (ci := 5) (v := .ref (ad 23 0 0)) (C := RX5) (T := TX5) (N := 34) hx hb hts in_X5_arrive_5 hown hK (ks_P1 hW (ks_v14 (i := 0) (j := 0) (hE 14 rfl)) (ks_c14 cy ad o 0 0 _)) 0 rfl rfl 9 (by decide) (hts (.fieldLink RX5 34 "SpinKernelModel" "lengths" "[I") (by decide +kernel)) (fun _ h => h) rfl dX5_arrive_154 ?_
      refine lv_bipush (v := 6) hx hb dX5_arrive_157 (by decide) ?_
      refine lv_iload_n hx hb dX5_arrive_159 rfl (lv_at hl 1 rfl) ?_
      refine lv_imul hx hb dX5_arrive_160 ?_
      refine lv_iload_n hx hb dX5_arrive_161 rfl (lv_at hl 2 rfl) ?_
      refine lv_iadd hx hb dX5_arrive_162 ?_
      obtain ⟨hi24, hf⟩ := ks_guard hf
      refine ks_iald hx hb hK hW (ks_v23 (i := 0) (j := 0) (hE 23 rfl)) (ks_c23 cy ad o 0 0 _) hi24 dX5_arrive_163 ?_
      obtain ⟨hi25, hf⟩ := ks_guard hf
      refine ks_iast hx hb hK hG hW hS (ks_v34 (i := 0) (j := 0) (hE 34 rfl)) (fun c => ks_c34 cy ad o 0 0 c) hi25 dX5_arrive_164 (fun H locs hW hS => ?_)
      refine lv_iinc (v := (x2 + 1)) (lv' := [(2, .int (x2 + 1)), (0, .ref (ad 14 0 0)), (1, .int x1)]) hx hb dX5_arrive_165 hl (k := 2) rfl rfl (by decide) rfl (fun ls hl => ?_)
      refine lv_goto (tgt := 111) hx hb dX5_arrive_168 (by decide) ?_
      exact hk111 _ _ _ hf hW hS (lv_sub hl [1, 2, 0] rfl)
set_option maxHeartbeats 4000000 in
set_option maxRecDepth 100000 in
theorem t_X5_arrive_66 {p : Program} {l : Launch} {e : Env} {s : State} {m : MethodId} {args : Array Value} {below : List Frame} {meth : Method} {c : Code} {D : va_G} {cy : Nat → ClassId} {ad : ks_A} {En : Nat → Prop} {n0 : Nat → Prop} {σ0 : ks_S} {o : Int64} {N : Nat} {out : (Int32 × ks_S)} (C : ks_M p s m args meth c D cy ad En (fun k => ks_g k = 1) n0 σ0 o wsX5_arrive cX5_arrive RX5 3 (some .boolean)) {σ : ks_S} {x1 : Int32}  (hf : f_X5_arrive_66 N σ x1 = some out) {H : Heap} {locs : List Loc} {ls : Array Slot} (hW : ks_W D cy ad En σ o H) (hS : va_S (ks_F n0) s.heap H locs) (hl : lv_has ls 3 [(0, .ref (ad 14 0 0)), (1, .int x1)]) : W p l e (ks_Rm 2 0 0 44) s m args below meth c H locs 0 0 (MQ below (ks_Qi D cy ad En n0 o out) args s 0 0 (ks_F n0)) (F0 m 66 ls []) := by
  obtain ⟨hx, hb, hml, hr, hown, hts, hlocks, hG, hU0, hE⟩ := id C
  have hK := hU0.2.2
  unfold f_X5_arrive_66 at hf
  refine lv_aload_n hx hb dX5_arrive_66 rfl (lv_at hl 0 rfl) ?_
  refine va_get (D := D) (ci := 5) (v := .ref (ad 27 0 0)) (C := RX5) (T := TX5) (N := 34) hx hb hts in_X5_arrive_5 hown hK (ks_P1 hW (ks_v14 (i := 0) (j := 0) (hE 14 rfl)) (ks_c14 cy ad o 0 0 _)) 0 rfl rfl 15 (by decide) (hts (.fieldLink RX5 47 "SpinKernelModel" "came" "[Z") (by decide +kernel)) (fun _ h => h) rfl dX5_arrive_67 ?_
  refine lv_iload_n hx hb dX5_arrive_70 rfl (lv_at hl 1 rfl) ?_
  refine lv_iconst (v := 1) hx hb dX5_arrive_71 (by decide) ?_
  obtain ⟨hi12, hf⟩ := ks_guard hf
  refine ks_zast hx hb hK hG hW hS (ks_v27 (i := 0) (j := 0) (hE 27 rfl)) (fun c => ks_c27 cy ad o 0 0 c) hi12 rfl dX5_arrive_72 (fun H locs hW hS => ?_)
  refine lv_aload_n hx hb dX5_arrive_73 rfl (lv_at hl 0 rfl) ?_
  refine va_get (D := D) (ci := 5) (v := .ref (ad 26 0 0)) (C := RX5) (T := TX5) (N := 34) hx hb hts in_X5_arrive_5 hown hK (ks_P1 hW (ks_v14 (i := 0) (j := 0) (hE 14 rfl)) (ks_c14 cy ad o 0 0 _)) 0 rfl rfl 14 (by decide) (hts (.fieldLink RX5 43 "SpinKernelModel" "open" "[Z") (by decide +kernel)) (fun _ h => h) rfl dX5_arrive_74 ?_
  refine lv_iload_n hx hb dX5_arrive_77 rfl (lv_at hl 1 rfl) ?_
  refine lv_iconst (v := 1) hx hb dX5_arrive_78 (by decide) ?_
  obtain ⟨hi13, hf⟩ := ks_guard hf
  refine ks_zast hx hb hK hG hW hS (ks_v26 (i := 0) (j := 0) (hE 26 rfl)) (fun c => ks_c26 cy ad o 0 0 c) hi13 rfl dX5_arrive_79 (fun H locs hW hS => ?_)
  refine lv_aload_n hx hb dX5_arrive_80 rfl (lv_at hl 0 rfl) ?_
  refine va_get (D := D) (ci := 5) (v := .ref (ad 28 0 0)) (C := RX5) (T := TX5) (N := 34) hx hb hts in_X5_arrive_5 hown hK (ks_P1 hW (ks_v14 (i := 0) (j := 0) (hE 14 rfl)) (ks_c14 cy ad o 0 0 _)) 0 rfl rfl 16 (by decide) (hts (.fieldLink RX5 50 "SpinKernelModel" "times" "[I") (by decide +kernel)) (fun _ h => h) rfl dX5_arrive_81 ?_
  refine lv_iload_n hx hb dX5_arrive_84 rfl (lv_at hl 1 rfl) ?_
  refine lv_aload_n hx hb dX5_arrive_85 rfl (lv_at hl 0 rfl) ?_
  refine va_get (D := D) (ci := 5) (v := .int (((ks_up (ks_up σ 27 0 0 x1.toNatClampNeg 1) 26 0 0 x1.toNatClampNeg 1)) 14 0 0 13)) (C := RX5) (T := TX5) (N := 34) hx hb hts in_X5_arrive_5 hown hK (ks_P1 hW (ks_v14 (i := 0) (j := 0) (hE 14 rfl)) (ks_c14 cy ad o 0 0 _)) 0 rfl rfl 13 (by decide) (hts (.fieldLink RX5 158 "SpinKernelModel" "now" "I") (by decide +kernel)) (fun _ h => h) rfl dX5_arrive_86 ?_
  obtain ⟨hi14, hf⟩ := ks_guard hf
  refine ks_iast hx hb hK hG hW hS (ks_v28 (i := 0) (j := 0) (hE 28 rfl)) (fun c => ks_c28 cy ad o 0 0 c) hi14 dX5_arrive_89 (fun H locs hW hS => ?_)
  refine lv_aload_n hx hb dX5_arrive_90 rfl (lv_at hl 0 rfl) ?_
  refine va_get (D := D) (ci := 5) (v := .ref (ad 29 0 0)) (C := RX5) (T := TX5) (N := 34) hx hb hts in_X5_arrive_5 hown hK (ks_P1 hW (ks_v14 (i := 0) (j := 0) (hE 14 rfl)) (ks_c14 cy ad o 0 0 _)) 0 rfl rfl 17 (by decide) (hts (.fieldLink RX5 53 "SpinKernelModel" "done" "[I") (by decide +kernel)) (fun _ h => h) rfl dX5_arrive_91 ?_
  refine lv_iload_n hx hb dX5_arrive_94 rfl (lv_at hl 1 rfl) ?_
  refine lv_iconst (v := 0) hx hb dX5_arrive_95 (by decide) ?_
  obtain ⟨hi15, hf⟩ := ks_guard hf
  refine ks_iast hx hb hK hG hW hS (ks_v29 (i := 0) (j := 0) (hE 29 rfl)) (fun c => ks_c29 cy ad o 0 0 c) hi15 dX5_arrive_96 (fun H locs hW hS => ?_)
  refine lv_aload_n hx hb dX5_arrive_97 rfl (lv_at hl 0 rfl) ?_
  refine va_get (D := D) (ci := 5) (v := .ref (ad 30 0 0)) (C := RX5) (T := TX5) (N := 34) hx hb hts in_X5_arrive_5 hown hK (ks_P1 hW (ks_v14 (i := 0) (j := 0) (hE 14 rfl)) (ks_c14 cy ad o 0 0 _)) 0 rfl rfl 18 (by decide) (hts (.fieldLink RX5 56 "SpinKernelModel" "nexts" "[I") (by decide +kernel)) (fun _ h => h) rfl dX5_arrive_98 ?_
  refine lv_iload_n hx hb dX5_arrive_101 rfl (lv_at hl 1 rfl) ?_
  refine lv_iconst (v := (-1)) hx hb dX5_arrive_102 (by decide) ?_
  obtain ⟨hi16, hf⟩ := ks_guard hf
  refine ks_iast hx hb hK hG hW hS (ks_v30 (i := 0) (j := 0) (hE 30 rfl)) (fun c => ks_c30 cy ad o 0 0 c) hi16 dX5_arrive_103 (fun H locs hW hS => ?_)
  refine lv_aload_n hx hb dX5_arrive_104 rfl (lv_at hl 0 rfl) ?_
  refine lv_iload_n hx hb dX5_arrive_105 rfl (lv_at hl 1 rfl) ?_
  obtain ⟨s18, hc17, hf⟩ := ks_bind hf
  try dsimp only at hf
  refine ks_callv (va_runV (As := [.int x1]) (rest := []) ⟨hx, hb, hml, hown, hts⟩ (m_X5_goToNext l D cy ad En n0 hG hE o hc17) (cwV 1 hts gX5_arrive_X5_goToNext rfl rfl rfl (by decide +kernel) ⟨(Nat.le_of_ble_eq_true rfl), (Nat.le_of_ble_eq_true rfl)⟩) ⟨ks_U.blind, ks_recv hK hW (ks_v14 (i := 0) (j := 0) (hE 14 rfl)) (ks_c14 cy ad o 0 0 _) rfl, fun U hU hWm => ⟨rfl, hU0.now hS hW hWm.alike hU⟩⟩ rfl rfl hl.1 rfl (lv_room (Nat.le_of_ble_eq_true rfl)) dX5_arrive_106 ⟨(Nat.le_of_ble_eq_true rfl), (Nat.le_of_ble_eq_true rfl)⟩) hS (fun H locs hW hS => ?_)
  refine lv_iconst (v := 0) hx hb dX5_arrive_109 (by decide) ?_
  refine lv_istore_n (lv' := [(2, .int 0), (0, .ref (ad 14 0 0)), (1, .int x1)]) hx hb dX5_arrive_110 rfl hl (by decide) rfl (fun ls hl => ?_)
  exact t_X5_arrive_111 C _ _ _ _  hf hW hS (lv_sub hl [1, 2, 0] rfl)
set_option maxHeartbeats 4000000 in
set_option maxRecDepth 100000 in
theorem t_X5_arrive_26 {p : Program} {l : Launch} {e : Env} {s : State} {m : MethodId} {args : Array Value} {below : List Frame} {meth : Method} {c : Code} {D : va_G} {cy : Nat → ClassId} {ad : ks_A} {En : Nat → Prop} {n0 : Nat → Prop} {σ0 : ks_S} {o : Int64} {N : Nat} {out : (Int32 × ks_S)} (C : ks_M p s m args meth c D cy ad En (fun k => ks_g k = 1) n0 σ0 o wsX5_arrive cX5_arrive RX5 3 (some .boolean)) {σ : ks_S} {x1 : Int32} {xs0 : Int32} {xs1 : Int32}  (hf : f_X5_arrive_26 N σ x1 xs0 xs1 = some out) {H : Heap} {locs : List Loc} {ls : Array Slot} (hW : ks_W D cy ad En σ o H) (hS : va_S (ks_F n0) s.heap H locs) (hl : lv_has ls 3 [(0, .ref (ad 14 0 0)), (1, .int x1)]) : W p l e (ks_Rm 2 0 0 44) s m args below meth c H locs 0 0 (MQ below (ks_Qi D cy ad En n0 o out) args s 0 0 (ks_F n0)) (F0 m 26 ls [.int xs0, .int xs1, .ref (ad 14 0 0)]) := by
  obtain ⟨hx, hb, hml, hr, hown, hts, hlocks, hG, hU0, hE⟩ := id C
  have hK := hU0.2.2
  unfold f_X5_arrive_26 at hf
  refine lv_iconst (v := 0) hx hb dX5_arrive_26 (by decide) ?_
  obtain ⟨⟨r8, s7⟩, hc6, hf⟩ := ks_bind hf
  try dsimp only at hf
  refine ks_calli (va_runV (As := [.int xs1, .int xs0, .int 0]) (rest := []) ⟨hx, hb, hml, hown, hts⟩ (m_X5_refused l D cy ad En n0 hG hE o hc6) (cwV 3 hts gX5_arrive_X5_refused rfl rfl rfl (by decide +kernel) ⟨(Nat.le_of_ble_eq_true rfl), (Nat.le_of_ble_eq_true rfl)⟩) ⟨ks_U.blind, ks_recv hK hW (ks_v14 (i := 0) (j := 0) (hE 14 rfl)) (ks_c14 cy ad o 0 0 _) rfl, fun U hU hWm => ⟨rfl, hU0.now hS hW hWm.alike hU⟩⟩ rfl rfl hl.1 rfl (lv_room (Nat.le_of_ble_eq_true rfl)) dX5_arrive_27 ⟨(Nat.le_of_ble_eq_true rfl), (Nat.le_of_ble_eq_true rfl)⟩) hS (fun H locs hW hS => ?_)
  refine lv_if_eq (tgt := 35) hx hb dX5_arrive_30 (by decide) (fun c9 => ?_) (fun c9 => ?_)
  · rw [if_pos c9] at hf
    refine lv_aload_n hx hb dX5_arrive_35 rfl (lv_at hl 0 rfl) ?_
    refine va_get (D := D) (ci := 5) (v := .ref (ad 27 0 0)) (C := RX5) (T := TX5) (N := 34) hx hb hts in_X5_arrive_5 hown hK (ks_P1 hW (ks_v14 (i := 0) (j := 0) (hE 14 rfl)) (ks_c14 cy ad o 0 0 _)) 0 rfl rfl 15 (by decide) (hts (.fieldLink RX5 47 "SpinKernelModel" "came" "[Z") (by decide +kernel)) (fun _ h => h) rfl dX5_arrive_36 ?_
    refine lv_iload_n hx hb dX5_arrive_39 rfl (lv_at hl 1 rfl) ?_
    obtain ⟨hi10, hf⟩ := ks_guard hf
    refine ks_zald hx hb hK hW (ks_v27 (i := 0) (j := 0) (hE 27 rfl)) (ks_c27 cy ad o 0 0 _) hi10 dX5_arrive_40 ?_
    refine lv_if_eq (tgt := 66) hx hb dX5_arrive_41 (by decide) (fun c11 => ?_) (fun c11 => ?_)
    · rw [if_pos c11] at hf
      exact t_X5_arrive_66 C  hf hW hS (lv_sub hl [0, 1] rfl)
    · rw [if_neg c11] at hf
      refine lv_aload_n hx hb dX5_arrive_44 rfl (lv_at hl 0 rfl) ?_
      refine va_get (D := D) (ci := 5) (v := .int (s7 14 0 0 13)) (C := RX5) (T := TX5) (N := 34) hx hb hts in_X5_arrive_5 hown hK (ks_P1 hW (ks_v14 (i := 0) (j := 0) (hE 14 rfl)) (ks_c14 cy ad o 0 0 _)) 0 rfl rfl 13 (by decide) (hts (.fieldLink RX5 158 "SpinKernelModel" "now" "I") (by decide +kernel)) (fun _ h => h) rfl dX5_arrive_45 ?_
      refine lv_aload_n hx hb dX5_arrive_48 rfl (lv_at hl 0 rfl) ?_
      refine va_get (D := D) (ci := 5) (v := .ref (ad 28 0 0)) (C := RX5) (T := TX5) (N := 34) hx hb hts in_X5_arrive_5 hown hK (ks_P1 hW (ks_v14 (i := 0) (j := 0) (hE 14 rfl)) (ks_c14 cy ad o 0 0 _)) 0 rfl rfl 16 (by decide) (hts (.fieldLink RX5 50 "SpinKernelModel" "times" "[I") (by decide +kernel)) (fun _ h => h) rfl dX5_arrive_49 ?_
      refine lv_iload_n hx hb dX5_arrive_52 rfl (lv_at hl 1 rfl) ?_
      obtain ⟨hi26, hf⟩ := ks_guard hf
      refine ks_iald hx hb hK hW (ks_v28 (i := 0) (j := 0) (hE 28 rfl)) (ks_c28 cy ad o 0 0 _) hi26 dX5_arrive_53 ?_
      refine lv_isub hx hb dX5_arrive_54 ?_
      refine lv_aload_n hx hb dX5_arrive_55 rfl (lv_at hl 0 rfl) ?_
      refine va_get (D := D) (ci := 5) (v := .ref (ad 17 0 0)) (C := RX5) (T := TX5) (N := 34) hx hb hts in_X5_arrive_5 hown hK (ks_P1 hW (ks_v14 (i := 0) (j := 0) (hE 14 rfl)) (ks_c14 cy ad o 0 0 _)) 0 rfl rfl 3 (by decide) (hts (.fieldLink RX5 16 "SpinKernelModel" "distances" "[I") (by decide +kernel)) (fun _ h => h) rfl dX5_arrive_56 ?_
      refine lv_iload_n hx hb dX5_arrive_59 rfl (lv_at hl 1 rfl) ?_
      obtain ⟨hi27, hf⟩ := ks_guard hf
      refine ks_iald hx hb hK hW (ks_v17 (i := 0) (j := 0) (hE 17 rfl)) (ks_c17 cy ad o 0 0 _) hi27 dX5_arrive_60 ?_
      refine lv_icmp_ge (tgt := 66) hx hb dX5_arrive_61 (by decide) (fun c28 => ?_) (fun c28 => ?_)
      · rw [if_pos c28] at hf
        exact t_X5_arrive_66 C  hf hW hS (lv_sub hl [0, 1] rfl)
      · rw [if_neg c28] at hf
        refine lv_iconst (v := 0) hx hb dX5_arrive_64 (by decide) ?_
        exact ks_zret C rfl hf hW hS dX5_arrive_65
  · rw [if_neg c9] at hf
    refine lv_iconst (v := 0) hx hb dX5_arrive_33 (by decide) ?_
    exact ks_zret C rfl hf hW hS dX5_arrive_34
set_option maxHeartbeats 4000000 in
set_option maxRecDepth 100000 in
theorem t_X5_arrive_14 {p : Program} {l : Launch} {e : Env} {s : State} {m : MethodId} {args : Array Value} {below : List Frame} {meth : Method} {c : Code} {D : va_G} {cy : Nat → ClassId} {ad : ks_A} {En : Nat → Prop} {n0 : Nat → Prop} {σ0 : ks_S} {o : Int64} {N : Nat} {out : (Int32 × ks_S)} (C : ks_M p s m args meth c D cy ad En (fun k => ks_g k = 1) n0 σ0 o wsX5_arrive cX5_arrive RX5 3 (some .boolean)) {σ : ks_S} {x1 : Int32} {xs0 : Int32}  (hf : f_X5_arrive_14 N σ x1 xs0 = some out) {H : Heap} {locs : List Loc} {ls : Array Slot} (hW : ks_W D cy ad En σ o H) (hS : va_S (ks_F n0) s.heap H locs) (hl : lv_has ls 3 [(0, .ref (ad 14 0 0)), (1, .int x1)]) : W p l e (ks_Rm 2 0 0 44) s m args below meth c H locs 0 0 (MQ below (ks_Qi D cy ad En n0 o out) args s 0 0 (ks_F n0)) (F0 m 14 ls [.int xs0, .ref (ad 14 0 0)]) := by
  obtain ⟨hx, hb, hml, hr, hown, hts, hlocks, hG, hU0, hE⟩ := id C
  have hK := hU0.2.2
  unfold f_X5_arrive_14 at hf
  refine lv_aload_n hx hb dX5_arrive_14 rfl (lv_at hl 0 rfl) ?_
  refine va_get (D := D) (ci := 5) (v := .int (σ 14 0 0 12)) (C := RX5) (T := TX5) (N := 34) hx hb hts in_X5_arrive_5 hown hK (ks_P1 hW (ks_v14 (i := 0) (j := 0) (hE 14 rfl)) (ks_c14 cy ad o 0 0 _)) 0 rfl rfl 12 (by decide) (hts (.fieldLink RX5 116 "SpinKernelModel" "sealed" "Z") (by decide +kernel)) (fun _ h => h) rfl dX5_arrive_15 ?_
  refine lv_if_ne (tgt := 25) hx hb dX5_arrive_18 (by decide) (fun c5 => ?_) (fun c5 => ?_)
  · rw [if_neg c5] at hf
    refine lv_iconst (v := 0) hx hb dX5_arrive_25 (by decide) ?_
    exact t_X5_arrive_26 C  hf hW hS (lv_sub hl [0, 1] rfl)
  · rw [if_pos c5] at hf
    refine lv_iconst (v := 1) hx hb dX5_arrive_21 (by decide) ?_
    refine lv_goto (tgt := 26) hx hb dX5_arrive_22 (by decide) ?_
    exact t_X5_arrive_26 C  hf hW hS (lv_sub hl [0, 1] rfl)
set_option maxHeartbeats 4000000 in
set_option maxRecDepth 100000 in
theorem t_X5_arrive {p : Program} {l : Launch} {e : Env} {s : State} {m : MethodId} {args : Array Value} {below : List Frame} {meth : Method} {c : Code} {D : va_G} {cy : Nat → ClassId} {ad : ks_A} {En : Nat → Prop} {n0 : Nat → Prop} {σ0 : ks_S} {o : Int64} {N : Nat} {out : (Int32 × ks_S)} (C : ks_M p s m args meth c D cy ad En (fun k => ks_g k = 1) n0 σ0 o wsX5_arrive cX5_arrive RX5 3 (some .boolean)) {σ : ks_S} {x1 : Int32}  (hf : f_X5_arrive N σ x1 = some out) {H : Heap} {locs : List Loc} {ls : Array Slot} (hW : ks_W D cy ad En σ o H) (hS : va_S (ks_F n0) s.heap H locs) (hl : lv_has ls 3 [(0, .ref (ad 14 0 0)), (1, .int x1)]) : W p l e (ks_Rm 2 0 0 44) s m args below meth c H locs 0 0 (MQ below (ks_Qi D cy ad En n0 o out) args s 0 0 (ks_F n0)) (F0 m 0 ls []) := by
  obtain ⟨hx, hb, hml, hr, hown, hts, hlocks, hG, hU0, hE⟩ := id C
  have hK := hU0.2.2
  unfold f_X5_arrive at hf
  refine lv_aload_n hx hb dX5_arrive_0 rfl (lv_at hl 0 rfl) ?_
  refine lv_aload_n hx hb dX5_arrive_1 rfl (lv_at hl 0 rfl) ?_
  refine lv_iload_n hx hb dX5_arrive_2 rfl (lv_at hl 1 rfl) ?_
  obtain ⟨⟨r3, s2⟩, hc1, hf⟩ := ks_bind hf
  try dsimp only at hf
  refine ks_calli (va_runV (As := [.int x1]) (rest := [.ref (ad 14 0 0)]) ⟨hx, hb, hml, hown, hts⟩ (m_X5_isTask l D cy ad En n0 hG hE o hc1) (cwV 1 hts gX5_arrive_X5_isTask rfl rfl rfl (by decide +kernel) ⟨(Nat.le_of_ble_eq_true rfl), (Nat.le_of_ble_eq_true rfl)⟩) ⟨ks_U.blind, ks_recv hK hW (ks_v14 (i := 0) (j := 0) (hE 14 rfl)) (ks_c14 cy ad o 0 0 _) rfl, fun U hU hWm => ⟨rfl, hU0.now hS hW hWm.alike hU⟩⟩ rfl rfl hl.1 rfl (lv_room (Nat.le_of_ble_eq_true rfl)) dX5_arrive_3 ⟨(Nat.le_of_ble_eq_true rfl), (Nat.le_of_ble_eq_true rfl)⟩) hS (fun H locs hW hS => ?_)
  refine lv_if_ne (tgt := 13) hx hb dX5_arrive_6 (by decide) (fun c4 => ?_) (fun c4 => ?_)
  · rw [if_neg c4] at hf
    refine lv_iconst (v := 0) hx hb dX5_arrive_13 (by decide) ?_
    exact t_X5_arrive_14 C  hf hW hS (lv_sub hl [0, 1] rfl)
  · rw [if_pos c4] at hf
    refine lv_iconst (v := 1) hx hb dX5_arrive_9 (by decide) ?_
    refine lv_goto (tgt := 14) hx hb dX5_arrive_10 (by decide) ?_
    exact t_X5_arrive_14 C  hf hW hS (lv_sub hl [0, 1] rfl)
set_option maxHeartbeats 4000000 in
set_option maxRecDepth 100000 in
theorem m_X5_arrive (l : Launch) (D : va_G) (cy : Nat → ClassId) (ad : ks_A) (En : Nat → Prop) (n0 : Nat → Prop) (hG : ks_G ad En n0) (hE : ∀ k, ks_g k = 1 → En k) (o : Int64) {N : Nat} {σ : ks_S} {x1 : Int32}  {out : (Int32 × ks_S)} (hf : f_X5_arrive N σ x1 = some out) : Met l yX5_arrive wsX5_arrive (ks_Rm 2 0 0 44) (va_Pc [.ref (ad 14 0 0), .int x1] (ks_U D cy ad En n0 σ o)) (ks_Qi D cy ad En n0 o out) 0 0 (ks_F n0) := by
  refine Met.ofW (cc := cX5_arrive) (maxL := 3) (ret := some .boolean) (by decide) rfl ?_
  intro p e s m args below meth c s₁ B hml hv
  obtain ⟨rfl, hU⟩ := hv
  have hl := lv_entry ([.ref (ad 14 0 0), .int x1]) (n := 3) (Nat.le_of_ble_eq_true rfl)
  rw [lg_entry_eq]
  generalize (lg_sl ([.ref (ad 14 0 0), .int x1]) ++ List.replicate (3 - (lg_sl ([.ref (ad 14 0 0), .int x1])).length) Slot.unset).toArray = ls at hl ⊢
  exact t_X5_arrive ⟨B.exec, B.bytes, hml, B.returns, findClass_of_methodNamed B.named, atoms_spec (ws := wsX5_arrive) B.pre, B.notSynchronized, hG, hU, hE⟩  hf hU.2.1 va_S.rf hl

/-! SpinKernelModel.shorten(III)V -/
def f_X5_shorten_69 (σ : ks_S) (x1 : Int32) (x2 : Int32) (x3 : Int32) (xs0 : Int32) (xs1 : Int32) (xs2 : Int32) : Option ks_S :=
  ((f_X5_refused σ xs2 xs1 xs0).bind fun (r12, s11) => (if r12 = 0 then (if ks_in ((((6 * x1)) + x2)) 96 = true then some ((ks_up s11 34 0 0 ((((6 * x1)) + x2)).toNatClampNeg x3)) else none) else some s11))
def f_X5_shorten_68 (σ : ks_S) (x1 : Int32) (x2 : Int32) (x3 : Int32) (xs0 : Int32) (xs1 : Int32) : Option ks_S :=
  f_X5_shorten_69 σ x1 x2 x3 0 xs0 xs1
def f_X5_shorten_64 (σ : ks_S) (x1 : Int32) (x2 : Int32) (x3 : Int32) (xs0 : Int32) (xs1 : Int32) : Option ks_S :=
  f_X5_shorten_69 σ x1 x2 x3 1 xs0 xs1
def f_X5_shorten_27 (σ : ks_S) (x1 : Int32) (x2 : Int32) (x3 : Int32) (xs0 : Int32) (xs1 : Int32) : Option ks_S :=
  ((f_X5_isRequest σ x1 x2).bind fun (r8, s7) => (if r8 = 0 then f_X5_shorten_68 s7 x1 x2 x3 xs0 xs1 else ((f_X5_isOuter s7 x1 x2).bind fun (r17, s16) => (if r17 = 0 then f_X5_shorten_64 s16 x1 x2 x3 xs0 xs1 else (if ks_in ((((6 * x1)) + x2)) 96 = true then ((f_X5_within s16 x3 1 ((s16 23 0 0 ((((6 * x1)) + x2)).toNatClampNeg))).bind fun (r22, s21) => (if r22 = 0 then f_X5_shorten_64 s21 x1 x2 x3 xs0 xs1 else f_X5_shorten_68 s21 x1 x2 x3 xs0 xs1)) else none)))))
def f_X5_shorten_15 (σ : ks_S) (x1 : Int32) (x2 : Int32) (x3 : Int32) (xs0 : Int32) : Option ks_S :=
  (if ((σ 14 0 0 12)) = 0 then f_X5_shorten_27 σ x1 x2 x3 1 xs0 else f_X5_shorten_27 σ x1 x2 x3 0 xs0)
def f_X5_shorten (σ : ks_S) (x1 : Int32) (x2 : Int32) (x3 : Int32) : Option ks_S :=
  ((f_X5_isRequest σ x1 x2).bind fun (r3, s2) => (if r3 = 0 then f_X5_shorten_15 s2 x1 x2 x3 1 else f_X5_shorten_15 s2 x1 x2 x3 0))
theorem in_X5_shorten_5 : ∀ w ∈ wsX50, w ∈ wsX5_shorten := by decide +kernel
set_option maxHeartbeats 4000000 in
set_option maxRecDepth 100000 in
theorem t_X5_shorten_69 {p : Program} {l : Launch} {e : Env} {s : State} {m : MethodId} {args : Array Value} {below : List Frame} {meth : Method} {c : Code} {D : va_G} {cy : Nat → ClassId} {ad : ks_A} {En : Nat → Prop} {n0 : Nat → Prop} {σ0 : ks_S} {o : Int64} {out : ks_S} (C : ks_M p s m args meth c D cy ad En (fun k => ks_g k = 1) n0 σ0 o wsX5_shorten cX5_shorten RX5 4 (none)) {σ : ks_S} {x1 : Int32} {x2 : Int32} {x3 : Int32} {xs0 : Int32} {xs1 : Int32} {xs2 : Int32}  (hf : f_X5_shorten_69 σ x1 x2 x3 xs0 xs1 xs2 = some out) {H : Heap} {locs : List Loc} {ls : Array Slot} (hW : ks_W D cy ad En σ o H) (hS : va_S (ks_F n0) s.heap H locs) (hl : lv_has ls 4 [(0, .ref (ad 14 0 0)), (1, .int x1), (2, .int x2), (3, .int x3)]) : W p l e (ks_Rm 2 0 0 43) s m args below meth c H locs 0 0 (MQ below (ks_Qv D cy ad En n0 o out) args s 0 0 (ks_F n0)) (F0 m 69 ls [.int xs0, .int xs1, .int xs2, .ref (ad 14 0 0)]) := by
  obtain ⟨hx, hb, hml, hr, hown, hts, hlocks, hG, hU0, hE⟩ := id C
  have hK := hU0.2.2
  unfold f_X5_shorten_69 at hf
  obtain ⟨⟨r12, s11⟩, hc10, hf⟩ := ks_bind hf
  try dsimp only at hf
  refine ks_calli (va_runV (As := [.int xs2, .int xs1, .int xs0]) (rest := []) ⟨hx, hb, hml, hown, hts⟩ (m_X5_refused l D cy ad En n0 hG hE o hc10) (cwV 3 hts gX5_shorten_X5_refused rfl rfl rfl (by decide +kernel) ⟨(Nat.le_of_ble_eq_true rfl), (Nat.le_of_ble_eq_true rfl)⟩) ⟨ks_U.blind, ks_recv hK hW (ks_v14 (i := 0) (j := 0) (hE 14 rfl)) (ks_c14 cy ad o 0 0 _) rfl, fun U hU hWm => ⟨rfl, hU0.now hS hW hWm.alike hU⟩⟩ rfl rfl hl.1 rfl (lv_room (Nat.le_of_ble_eq_true rfl)) dX5_shorten_69 ⟨(Nat.le_of_ble_eq_true rfl), (Nat.le_of_ble_eq_true rfl)⟩) hS (fun H locs hW hS => ?_)
  refine lv_if_ne (tgt := 87) hx hb dX5_shorten_72 (by decide) (fun c13 => ?_) (fun c13 => ?_)
  · rw [if_neg c13] at hf
    exact ks_vret C hf hW hS dX5_shorten_87
  · rw [if_pos c13] at hf
    refine lv_aload_n hx hb dX5_shorten_75 rfl (lv_at hl 0 rfl) ?_
    refine va_get (D := D) (ci := 5) (v := .ref (ad 34 0 0)) (C := RX5) (T := TX5) (N := 34) hx hb hts in_X5_shorten_5 hown hK (ks_P1 hW (ks_v14 (i := 0) (j := 0) (hE 14 rfl)) (ks_c14 cy ad o 0 0 _)) 0 rfl rfl 22 (by decide) (hts (.fieldLink RX5 68 "SpinKernelModel" "coming" "[I") (by decide +kernel)) (fun _ h => h) rfl dX5_shorten_76 ?_
    refine lv_bipush (v := 6) hx hb dX5_shorten_79 (by decide) ?_
    refine lv_iload_n hx hb dX5_shorten_81 rfl (lv_at hl 1 rfl) ?_
    refine lv_imul hx hb dX5_shorten_82 ?_
    refine lv_iload_n hx hb dX5_shorten_83 rfl (lv_at hl 2 rfl) ?_
    refine lv_iadd hx hb dX5_shorten_84 ?_
    refine lv_iload_n hx hb dX5_shorten_85 rfl (lv_at hl 3 rfl) ?_
    obtain ⟨hi14, hf⟩ := ks_guard hf
    refine ks_iast hx hb hK hG hW hS (ks_v34 (i := 0) (j := 0) (hE 34 rfl)) (fun c => ks_c34 cy ad o 0 0 c) hi14 dX5_shorten_86 (fun H locs hW hS => ?_)
    exact ks_vret C hf hW hS dX5_shorten_87
set_option maxHeartbeats 4000000 in
set_option maxRecDepth 100000 in
theorem t_X5_shorten_68 {p : Program} {l : Launch} {e : Env} {s : State} {m : MethodId} {args : Array Value} {below : List Frame} {meth : Method} {c : Code} {D : va_G} {cy : Nat → ClassId} {ad : ks_A} {En : Nat → Prop} {n0 : Nat → Prop} {σ0 : ks_S} {o : Int64} {out : ks_S} (C : ks_M p s m args meth c D cy ad En (fun k => ks_g k = 1) n0 σ0 o wsX5_shorten cX5_shorten RX5 4 (none)) {σ : ks_S} {x1 : Int32} {x2 : Int32} {x3 : Int32} {xs0 : Int32} {xs1 : Int32}  (hf : f_X5_shorten_68 σ x1 x2 x3 xs0 xs1 = some out) {H : Heap} {locs : List Loc} {ls : Array Slot} (hW : ks_W D cy ad En σ o H) (hS : va_S (ks_F n0) s.heap H locs) (hl : lv_has ls 4 [(0, .ref (ad 14 0 0)), (1, .int x1), (2, .int x2), (3, .int x3)]) : W p l e (ks_Rm 2 0 0 43) s m args below meth c H locs 0 0 (MQ below (ks_Qv D cy ad En n0 o out) args s 0 0 (ks_F n0)) (F0 m 68 ls [.int xs0, .int xs1, .ref (ad 14 0 0)]) := by
  obtain ⟨hx, hb, hml, hr, hown, hts, hlocks, hG, hU0, hE⟩ := id C
  have hK := hU0.2.2
  unfold f_X5_shorten_68 at hf
  refine lv_iconst (v := 0) hx hb dX5_shorten_68 (by decide) ?_
  exact t_X5_shorten_69 C  hf hW hS (lv_sub hl [0, 1, 2, 3] rfl)
set_option maxHeartbeats 4000000 in
set_option maxRecDepth 100000 in
theorem t_X5_shorten_64 {p : Program} {l : Launch} {e : Env} {s : State} {m : MethodId} {args : Array Value} {below : List Frame} {meth : Method} {c : Code} {D : va_G} {cy : Nat → ClassId} {ad : ks_A} {En : Nat → Prop} {n0 : Nat → Prop} {σ0 : ks_S} {o : Int64} {out : ks_S} (C : ks_M p s m args meth c D cy ad En (fun k => ks_g k = 1) n0 σ0 o wsX5_shorten cX5_shorten RX5 4 (none)) {σ : ks_S} {x1 : Int32} {x2 : Int32} {x3 : Int32} {xs0 : Int32} {xs1 : Int32}  (hf : f_X5_shorten_64 σ x1 x2 x3 xs0 xs1 = some out) {H : Heap} {locs : List Loc} {ls : Array Slot} (hW : ks_W D cy ad En σ o H) (hS : va_S (ks_F n0) s.heap H locs) (hl : lv_has ls 4 [(0, .ref (ad 14 0 0)), (1, .int x1), (2, .int x2), (3, .int x3)]) : W p l e (ks_Rm 2 0 0 43) s m args below meth c H locs 0 0 (MQ below (ks_Qv D cy ad En n0 o out) args s 0 0 (ks_F n0)) (F0 m 64 ls [.int xs0, .int xs1, .ref (ad 14 0 0)]) := by
  obtain ⟨hx, hb, hml, hr, hown, hts, hlocks, hG, hU0, hE⟩ := id C
  have hK := hU0.2.2
  unfold f_X5_shorten_64 at hf
  refine lv_iconst (v := 1) hx hb dX5_shorten_64 (by decide) ?_
  refine lv_goto (tgt := 69) hx hb dX5_shorten_65 (by decide) ?_
  exact t_X5_shorten_69 C  hf hW hS (lv_sub hl [0, 1, 2, 3] rfl)
set_option maxHeartbeats 4000000 in
set_option maxRecDepth 100000 in
theorem t_X5_shorten_27 {p : Program} {l : Launch} {e : Env} {s : State} {m : MethodId} {args : Array Value} {below : List Frame} {meth : Method} {c : Code} {D : va_G} {cy : Nat → ClassId} {ad : ks_A} {En : Nat → Prop} {n0 : Nat → Prop} {σ0 : ks_S} {o : Int64} {out : ks_S} (C : ks_M p s m args meth c D cy ad En (fun k => ks_g k = 1) n0 σ0 o wsX5_shorten cX5_shorten RX5 4 (none)) {σ : ks_S} {x1 : Int32} {x2 : Int32} {x3 : Int32} {xs0 : Int32} {xs1 : Int32}  (hf : f_X5_shorten_27 σ x1 x2 x3 xs0 xs1 = some out) {H : Heap} {locs : List Loc} {ls : Array Slot} (hW : ks_W D cy ad En σ o H) (hS : va_S (ks_F n0) s.heap H locs) (hl : lv_has ls 4 [(0, .ref (ad 14 0 0)), (1, .int x1), (2, .int x2), (3, .int x3)]) : W p l e (ks_Rm 2 0 0 43) s m args below meth c H locs 0 0 (MQ below (ks_Qv D cy ad En n0 o out) args s 0 0 (ks_F n0)) (F0 m 27 ls [.int xs0, .int xs1, .ref (ad 14 0 0)]) := by
  obtain ⟨hx, hb, hml, hr, hown, hts, hlocks, hG, hU0, hE⟩ := id C
  have hK := hU0.2.2
  unfold f_X5_shorten_27 at hf
  refine lv_aload_n hx hb dX5_shorten_27 rfl (lv_at hl 0 rfl) ?_
  refine lv_iload_n hx hb dX5_shorten_28 rfl (lv_at hl 1 rfl) ?_
  refine lv_iload_n hx hb dX5_shorten_29 rfl (lv_at hl 2 rfl) ?_
  obtain ⟨⟨r8, s7⟩, hc6, hf⟩ := ks_bind hf
  try dsimp only at hf
  refine ks_calli (va_runV (As := [.int x1, .int x2]) (rest := [.int xs0, .int xs1, .ref (ad 14 0 0)]) ⟨hx, hb, hml, hown, hts⟩ (m_X5_isRequest l D cy ad En n0 hG hE o hc6) (cwV 2 hts gX5_shorten_X5_isRequest rfl rfl rfl (by decide +kernel) ⟨(Nat.le_of_ble_eq_true rfl), (Nat.le_of_ble_eq_true rfl)⟩) ⟨ks_U.blind, ks_recv hK hW (ks_v14 (i := 0) (j := 0) (hE 14 rfl)) (ks_c14 cy ad o 0 0 _) rfl, fun U hU hWm => ⟨rfl, hU0.now hS hW hWm.alike hU⟩⟩ rfl rfl hl.1 rfl (lv_room (Nat.le_of_ble_eq_true rfl)) dX5_shorten_30 ⟨(Nat.le_of_ble_eq_true rfl), (Nat.le_of_ble_eq_true rfl)⟩) hS (fun H locs hW hS => ?_)
  refine lv_if_eq (tgt := 68) hx hb dX5_shorten_33 (by decide) (fun c9 => ?_) (fun c9 => ?_)
  · rw [if_pos c9] at hf
    exact t_X5_shorten_68 C  hf hW hS (lv_sub hl [0, 1, 2, 3] rfl)
  · rw [if_neg c9] at hf
    refine lv_aload_n hx hb dX5_shorten_36 rfl (lv_at hl 0 rfl) ?_
    refine lv_iload_n hx hb dX5_shorten_37 rfl (lv_at hl 1 rfl) ?_
    refine lv_iload_n hx hb dX5_shorten_38 rfl (lv_at hl 2 rfl) ?_
    obtain ⟨⟨r17, s16⟩, hc15, hf⟩ := ks_bind hf
    try dsimp only at hf
    refine ks_calli (va_runV (As := [.int x1, .int x2]) (rest := [.int xs0, .int xs1, .ref (ad 14 0 0)]) ⟨hx, hb, hml, hown, hts⟩ (m_X5_isOuter l D cy ad En n0 hG hE o hc15) (cwV 2 hts gX5_shorten_X5_isOuter rfl rfl rfl (by decide +kernel) ⟨(Nat.le_of_ble_eq_true rfl), (Nat.le_of_ble_eq_true rfl)⟩) ⟨ks_U.blind, ks_recv hK hW (ks_v14 (i := 0) (j := 0) (hE 14 rfl)) (ks_c14 cy ad o 0 0 _) rfl, fun U hU hWm => ⟨rfl, hU0.now hS hW hWm.alike hU⟩⟩ rfl rfl hl.1 rfl (lv_room (Nat.le_of_ble_eq_true rfl)) dX5_shorten_39 ⟨(Nat.le_of_ble_eq_true rfl), (Nat.le_of_ble_eq_true rfl)⟩) hS (fun H locs hW hS => ?_)
    refine lv_if_eq (tgt := 64) hx hb dX5_shorten_42 (by decide) (fun c18 => ?_) (fun c18 => ?_)
    · rw [if_pos c18] at hf
      exact t_X5_shorten_64 C  hf hW hS (lv_sub hl [0, 1, 2, 3] rfl)
    · rw [if_neg c18] at hf
      refine lv_iload_n hx hb dX5_shorten_45 rfl (lv_at hl 3 rfl) ?_
      refine lv_iconst (v := 1) hx hb dX5_shorten_46 (by decide) ?_
      refine lv_aload_n hx hb dX5_shorten_47 rfl (lv_at hl 0 rfl) ?_
      refine va_get (D := D) (ci := 5) (v := .ref (ad 23 0 0)) (C := RX5) (T := TX5) (N := 34) hx hb hts in_X5_shorten_5 hown hK (ks_P1 hW (ks_v14 (i := 0) (j := 0) (hE 14 rfl)) (ks_c14 cy ad o 0 0 _)) 0 rfl rfl 9 (by decide) (hts (.fieldLink RX5 34 "SpinKernelModel" "lengths" "[I") (by decide +kernel)) (fun _ h => h) rfl dX5_shorten_48 ?_
      refine lv_bipush (v := 6) hx hb dX5_shorten_51 (by decide) ?_
      refine lv_iload_n hx hb dX5_shorten_53 rfl (lv_at hl 1 rfl) ?_
      refine lv_imul hx hb dX5_shorten_54 ?_
      refine lv_iload_n hx hb dX5_shorten_55 rfl (lv_at hl 2 rfl) ?_
      refine lv_iadd hx hb dX5_shorten_56 ?_
      obtain ⟨hi19, hf⟩ := ks_guard hf
      refine ks_iald hx hb hK hW (ks_v23 (i := 0) (j := 0) (hE 23 rfl)) (ks_c23 cy ad o 0 0 _) hi19 dX5_shorten_57 ?_
      obtain ⟨⟨r22, s21⟩, hc20, hf⟩ := ks_bind hf
      try dsimp only at hf
      refine ks_calli (va_runS (As := [.int x3, .int 1, .int (s16 23 0 0 ((((6 * x1)) + x2)).toNatClampNeg)]) (rest := [.int xs0, .int xs1, .ref (ad 14 0 0)]) ⟨hx, hb, hml, hown, hts⟩ (m_X5_within l D cy ad En n0 hG hE o hc20) (va_cwS 3 hts gX5_shorten_X5_within rfl rfl rfl (by decide +kernel) ⟨(Nat.le_of_ble_eq_true rfl), (Nat.le_of_ble_eq_true rfl)⟩) ⟨ks_U.blind, fun U hU hWm => ⟨rfl, hU0.now hS hW hWm.alike hU⟩⟩ rfl rfl hl.1 rfl (lv_room (Nat.le_of_ble_eq_true rfl)) dX5_shorten_58 ⟨(Nat.le_of_ble_eq_true rfl), (Nat.le_of_ble_eq_true rfl)⟩) hS (fun H locs hW hS => ?_)
      refine lv_if_ne (tgt := 68) hx hb dX5_shorten_61 (by decide) (fun c23 => ?_) (fun c23 => ?_)
      · rw [if_neg c23] at hf
        exact t_X5_shorten_68 C  hf hW hS (lv_sub hl [0, 1, 2, 3] rfl)
      · rw [if_pos c23] at hf
        exact t_X5_shorten_64 C  hf hW hS (lv_sub hl [0, 1, 2, 3] rfl)
set_option maxHeartbeats 4000000 in
set_option maxRecDepth 100000 in
theorem t_X5_shorten_15 {p : Program} {l : Launch} {e : Env} {s : State} {m : MethodId} {args : Array Value} {below : List Frame} {meth : Method} {c : Code} {D : va_G} {cy : Nat → ClassId} {ad : ks_A} {En : Nat → Prop} {n0 : Nat → Prop} {σ0 : ks_S} {o : Int64} {out : ks_S} (C : ks_M p s m args meth c D cy ad En (fun k => ks_g k = 1) n0 σ0 o wsX5_shorten cX5_shorten RX5 4 (none)) {σ : ks_S} {x1 : Int32} {x2 : Int32} {x3 : Int32} {xs0 : Int32}  (hf : f_X5_shorten_15 σ x1 x2 x3 xs0 = some out) {H : Heap} {locs : List Loc} {ls : Array Slot} (hW : ks_W D cy ad En σ o H) (hS : va_S (ks_F n0) s.heap H locs) (hl : lv_has ls 4 [(0, .ref (ad 14 0 0)), (1, .int x1), (2, .int x2), (3, .int x3)]) : W p l e (ks_Rm 2 0 0 43) s m args below meth c H locs 0 0 (MQ below (ks_Qv D cy ad En n0 o out) args s 0 0 (ks_F n0)) (F0 m 15 ls [.int xs0, .ref (ad 14 0 0)]) := by
  obtain ⟨hx, hb, hml, hr, hown, hts, hlocks, hG, hU0, hE⟩ := id C
  have hK := hU0.2.2
  unfold f_X5_shorten_15 at hf
  refine lv_aload_n hx hb dX5_shorten_15 rfl (lv_at hl 0 rfl) ?_
  refine va_get (D := D) (ci := 5) (v := .int (σ 14 0 0 12)) (C := RX5) (T := TX5) (N := 34) hx hb hts in_X5_shorten_5 hown hK (ks_P1 hW (ks_v14 (i := 0) (j := 0) (hE 14 rfl)) (ks_c14 cy ad o 0 0 _)) 0 rfl rfl 12 (by decide) (hts (.fieldLink RX5 116 "SpinKernelModel" "sealed" "Z") (by decide +kernel)) (fun _ h => h) rfl dX5_shorten_16 ?_
  refine lv_if_ne (tgt := 26) hx hb dX5_shorten_19 (by decide) (fun c5 => ?_) (fun c5 => ?_)
  · rw [if_neg c5] at hf
    refine lv_iconst (v := 0) hx hb dX5_shorten_26 (by decide) ?_
    exact t_X5_shorten_27 C  hf hW hS (lv_sub hl [0, 1, 2, 3] rfl)
  · rw [if_pos c5] at hf
    refine lv_iconst (v := 1) hx hb dX5_shorten_22 (by decide) ?_
    refine lv_goto (tgt := 27) hx hb dX5_shorten_23 (by decide) ?_
    exact t_X5_shorten_27 C  hf hW hS (lv_sub hl [0, 1, 2, 3] rfl)
set_option maxHeartbeats 4000000 in
set_option maxRecDepth 100000 in
theorem t_X5_shorten {p : Program} {l : Launch} {e : Env} {s : State} {m : MethodId} {args : Array Value} {below : List Frame} {meth : Method} {c : Code} {D : va_G} {cy : Nat → ClassId} {ad : ks_A} {En : Nat → Prop} {n0 : Nat → Prop} {σ0 : ks_S} {o : Int64} {out : ks_S} (C : ks_M p s m args meth c D cy ad En (fun k => ks_g k = 1) n0 σ0 o wsX5_shorten cX5_shorten RX5 4 (none)) {σ : ks_S} {x1 : Int32} {x2 : Int32} {x3 : Int32}  (hf : f_X5_shorten σ x1 x2 x3 = some out) {H : Heap} {locs : List Loc} {ls : Array Slot} (hW : ks_W D cy ad En σ o H) (hS : va_S (ks_F n0) s.heap H locs) (hl : lv_has ls 4 [(0, .ref (ad 14 0 0)), (1, .int x1), (2, .int x2), (3, .int x3)]) : W p l e (ks_Rm 2 0 0 43) s m args below meth c H locs 0 0 (MQ below (ks_Qv D cy ad En n0 o out) args s 0 0 (ks_F n0)) (F0 m 0 ls []) := by
  obtain ⟨hx, hb, hml, hr, hown, hts, hlocks, hG, hU0, hE⟩ := id C
  have hK := hU0.2.2
  unfold f_X5_shorten at hf
  refine lv_aload_n hx hb dX5_shorten_0 rfl (lv_at hl 0 rfl) ?_
  refine lv_aload_n hx hb dX5_shorten_1 rfl (lv_at hl 0 rfl) ?_
  refine lv_iload_n hx hb dX5_shorten_2 rfl (lv_at hl 1 rfl) ?_
  refine lv_iload_n hx hb dX5_shorten_3 rfl (lv_at hl 2 rfl) ?_
  obtain ⟨⟨r3, s2⟩, hc1, hf⟩ := ks_bind hf
  try dsimp only at hf
  refine ks_calli (va_runV (As := [.int x1, .int x2]) (rest := [.ref (ad 14 0 0)]) ⟨hx, hb, hml, hown, hts⟩ (m_X5_isRequest l D cy ad En n0 hG hE o hc1) (cwV 2 hts gX5_shorten_X5_isRequest rfl rfl rfl (by decide +kernel) ⟨(Nat.le_of_ble_eq_true rfl), (Nat.le_of_ble_eq_true rfl)⟩) ⟨ks_U.blind, ks_recv hK hW (ks_v14 (i := 0) (j := 0) (hE 14 rfl)) (ks_c14 cy ad o 0 0 _) rfl, fun U hU hWm => ⟨rfl, hU0.now hS hW hWm.alike hU⟩⟩ rfl rfl hl.1 rfl (lv_room (Nat.le_of_ble_eq_true rfl)) dX5_shorten_4 ⟨(Nat.le_of_ble_eq_true rfl), (Nat.le_of_ble_eq_true rfl)⟩) hS (fun H locs hW hS => ?_)
  refine lv_if_ne (tgt := 14) hx hb dX5_shorten_7 (by decide) (fun c4 => ?_) (fun c4 => ?_)
  · rw [if_neg c4] at hf
    refine lv_iconst (v := 0) hx hb dX5_shorten_14 (by decide) ?_
    exact t_X5_shorten_15 C  hf hW hS (lv_sub hl [0, 1, 2, 3] rfl)
  · rw [if_pos c4] at hf
    refine lv_iconst (v := 1) hx hb dX5_shorten_10 (by decide) ?_
    refine lv_goto (tgt := 15) hx hb dX5_shorten_11 (by decide) ?_
    exact t_X5_shorten_15 C  hf hW hS (lv_sub hl [0, 1, 2, 3] rfl)
set_option maxHeartbeats 4000000 in
set_option maxRecDepth 100000 in
theorem m_X5_shorten (l : Launch) (D : va_G) (cy : Nat → ClassId) (ad : ks_A) (En : Nat → Prop) (n0 : Nat → Prop) (hG : ks_G ad En n0) (hE : ∀ k, ks_g k = 1 → En k) (o : Int64) {σ : ks_S} {x1 : Int32} {x2 : Int32} {x3 : Int32}  {out : ks_S} (hf : f_X5_shorten σ x1 x2 x3 = some out) : Met l yX5_shorten wsX5_shorten (ks_Rm 2 0 0 43) (va_Pc [.ref (ad 14 0 0), .int x1, .int x2, .int x3] (ks_U D cy ad En n0 σ o)) (ks_Qv D cy ad En n0 o out) 0 0 (ks_F n0) := by
  refine Met.ofW (cc := cX5_shorten) (maxL := 4) (ret := none) (by decide) rfl ?_
  intro p e s m args below meth c s₁ B hml hv
  obtain ⟨rfl, hU⟩ := hv
  have hl := lv_entry ([.ref (ad 14 0 0), .int x1, .int x2, .int x3]) (n := 4) (Nat.le_of_ble_eq_true rfl)
  rw [lg_entry_eq]
  generalize (lg_sl ([.ref (ad 14 0 0), .int x1, .int x2, .int x3]) ++ List.replicate (4 - (lg_sl ([.ref (ad 14 0 0), .int x1, .int x2, .int x3])).length) Slot.unset).toArray = ls at hl ⊢
  exact t_X5_shorten ⟨B.exec, B.bytes, hml, B.returns, findClass_of_methodNamed B.named, atoms_spec (ws := wsX5_shorten) B.pre, B.notSynchronized, hG, hU, hE⟩  hf hU.2.1 va_S.rf hl

/-! SpinKernelModel.groupOf(I)I -/
def f_X5_groupOf (σ : ks_S) (x1 : Int32) : Option (Int32 × ks_S) :=
  (if ks_in x1 16 = true then (if ks_in ((((6 * x1)) + ((σ 30 0 0 x1.toNatClampNeg)))) 96 = true then (if ks_in ((σ 22 0 0 ((((6 * x1)) + ((σ 30 0 0 x1.toNatClampNeg)))).toNatClampNeg)) 8 = true then some ((σ 25 0 0 ((σ 22 0 0 ((((6 * x1)) + ((σ 30 0 0 x1.toNatClampNeg)))).toNatClampNeg)).toNatClampNeg), σ) else none) else none) else none)
theorem in_X5_groupOf_5 : ∀ w ∈ wsX50, w ∈ wsX5_groupOf := by decide +kernel
set_option maxHeartbeats 4000000 in
set_option maxRecDepth 100000 in
theorem t_X5_groupOf {p : Program} {l : Launch} {e : Env} {s : State} {m : MethodId} {args : Array Value} {below : List Frame} {meth : Method} {c : Code} {D : va_G} {cy : Nat → ClassId} {ad : ks_A} {En : Nat → Prop} {n0 : Nat → Prop} {σ0 : ks_S} {o : Int64} {out : (Int32 × ks_S)} (C : ks_M p s m args meth c D cy ad En (fun k => ks_g k = 1) n0 σ0 o wsX5_groupOf cX5_groupOf RX5 2 (some .int)) {σ : ks_S} {x1 : Int32}  (hf : f_X5_groupOf σ x1 = some out) {H : Heap} {locs : List Loc} {ls : Array Slot} (hW : ks_W D cy ad En σ o H) (hS : va_S (ks_F n0) s.heap H locs) (hl : lv_has ls 2 [(0, .ref (ad 14 0 0)), (1, .int x1)]) : W p l e (ks_Rm 0 0 0 0) s m args below meth c H locs 0 0 (MQ below (ks_Qi D cy ad En n0 o out) args s 0 0 (ks_F n0)) (F0 m 0 ls []) := by
  obtain ⟨hx, hb, hml, hr, hown, hts, hlocks, hG, hU0, hE⟩ := id C
  have hK := hU0.2.2
  unfold f_X5_groupOf at hf
  refine lv_aload_n hx hb dX5_groupOf_0 rfl (lv_at hl 0 rfl) ?_
  refine va_get (D := D) (ci := 5) (v := .ref (ad 25 0 0)) (C := RX5) (T := TX5) (N := 34) hx hb hts in_X5_groupOf_5 hown hK (ks_P1 hW (ks_v14 (i := 0) (j := 0) (hE 14 rfl)) (ks_c14 cy ad o 0 0 _)) 0 rfl rfl 11 (by decide) (hts (.fieldLink RX5 40 "SpinKernelModel" "groups" "[I") (by decide +kernel)) (fun _ h => h) rfl dX5_groupOf_1 ?_
  refine lv_aload_n hx hb dX5_groupOf_4 rfl (lv_at hl 0 rfl) ?_
  refine va_get (D := D) (ci := 5) (v := .ref (ad 22 0 0)) (C := RX5) (T := TX5) (N := 34) hx hb hts in_X5_groupOf_5 hown hK (ks_P1 hW (ks_v14 (i := 0) (j := 0) (hE 14 rfl)) (ks_c14 cy ad o 0 0 _)) 0 rfl rfl 8 (by decide) (hts (.fieldLink RX5 31 "SpinKernelModel" "locks" "[I") (by decide +kernel)) (fun _ h => h) rfl dX5_groupOf_5 ?_
  refine lv_bipush (v := 6) hx hb dX5_groupOf_8 (by decide) ?_
  refine lv_iload_n hx hb dX5_groupOf_10 rfl (lv_at hl 1 rfl) ?_
  refine lv_imul hx hb dX5_groupOf_11 ?_
  refine lv_aload_n hx hb dX5_groupOf_12 rfl (lv_at hl 0 rfl) ?_
  refine va_get (D := D) (ci := 5) (v := .ref (ad 30 0 0)) (C := RX5) (T := TX5) (N := 34) hx hb hts in_X5_groupOf_5 hown hK (ks_P1 hW (ks_v14 (i := 0) (j := 0) (hE 14 rfl)) (ks_c14 cy ad o 0 0 _)) 0 rfl rfl 18 (by decide) (hts (.fieldLink RX5 56 "SpinKernelModel" "nexts" "[I") (by decide +kernel)) (fun _ h => h) rfl dX5_groupOf_13 ?_
  refine lv_iload_n hx hb dX5_groupOf_16 rfl (lv_at hl 1 rfl) ?_
  obtain ⟨hi1, hf⟩ := ks_guard hf
  refine ks_iald hx hb hK hW (ks_v30 (i := 0) (j := 0) (hE 30 rfl)) (ks_c30 cy ad o 0 0 _) hi1 dX5_groupOf_17 ?_
  refine lv_iadd hx hb dX5_groupOf_18 ?_
  obtain ⟨hi2, hf⟩ := ks_guard hf
  refine ks_iald hx hb hK hW (ks_v22 (i := 0) (j := 0) (hE 22 rfl)) (ks_c22 cy ad o 0 0 _) hi2 dX5_groupOf_19 ?_
  obtain ⟨hi3, hf⟩ := ks_guard hf
  refine ks_iald hx hb hK hW (ks_v25 (i := 0) (j := 0) (hE 25 rfl)) (ks_c25 cy ad o 0 0 _) hi3 dX5_groupOf_20 ?_
  exact ks_iret C hf hW hS dX5_groupOf_21
set_option maxHeartbeats 4000000 in
set_option maxRecDepth 100000 in
theorem m_X5_groupOf (l : Launch) (D : va_G) (cy : Nat → ClassId) (ad : ks_A) (En : Nat → Prop) (n0 : Nat → Prop) (hG : ks_G ad En n0) (hE : ∀ k, ks_g k = 1 → En k) (o : Int64) {σ : ks_S} {x1 : Int32}  {out : (Int32 × ks_S)} (hf : f_X5_groupOf σ x1 = some out) : Met l yX5_groupOf wsX5_groupOf (ks_Rm 0 0 0 0) (va_Pc [.ref (ad 14 0 0), .int x1] (ks_U D cy ad En n0 σ o)) (ks_Qi D cy ad En n0 o out) 0 0 (ks_F n0) := by
  refine Met.ofW (cc := cX5_groupOf) (maxL := 2) (ret := some .int) (by decide) rfl ?_
  intro p e s m args below meth c s₁ B hml hv
  obtain ⟨rfl, hU⟩ := hv
  have hl := lv_entry ([.ref (ad 14 0 0), .int x1]) (n := 2) (Nat.le_of_ble_eq_true rfl)
  rw [lg_entry_eq]
  generalize (lg_sl ([.ref (ad 14 0 0), .int x1]) ++ List.replicate (2 - (lg_sl ([.ref (ad 14 0 0), .int x1])).length) Slot.unset).toArray = ls at hl ⊢
  exact t_X5_groupOf ⟨B.exec, B.bytes, hml, B.returns, findClass_of_methodNamed B.named, atoms_spec (ws := wsX5_groupOf) B.pre, B.notSynchronized, hG, hU, hE⟩  hf hU.2.1 va_S.rf hl
